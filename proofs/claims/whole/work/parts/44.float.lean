set_option maxHeartbeats 4000000 in
set_option maxRecDepth 100000 in
theorem c_X3_wearBehind (l : Launch) (D : va_G) (E : Nat → ClassId) (g0 : Nat) (g1 : Nat) (g2 : Nat) (g3 : Nat) (g4 : Nat) (g5 : Nat) (g6 : Nat) (g7 : Nat) (sk : Nat) (h0 : Nat) (h1 : Nat) (h2 : Nat) (h3 : Nat) (h4 : Nat) (h5 : Nat) (h6 : Nat) (N : Nat) (hm : Nat → Int32) (aw : Nat → Int32) (rv : Nat → Int32) (sd : Nat → Int32) (gm : Nat → Int32) (ca : Nat → Int32) (G : Nat → Nat → Nat) (P : Nat → Nat → Nat) (xs : Nat → Int32) (ys : Nat → Int32) (X : Nat → Nat) (Y : Nat → Nat) (t : Nat) (r : Nat) (hpl : zm_pl N G P hm aw rv sd gm) (hgr : zm_gr X Y xs ys) (ht : t < N) (hr0 : r < N - 1) : Met l yX3_wearBehind wsX3_wearBehind ({ frames := 3, cells := 0, slots := 0, locals := 67 }) (zr_P D E [.ref g0, .int (nI t), .int (nI r)] [(g0, .inr (2, [.ref h0, .ref g1, .ref g2, .ref g3, .ref g4, .int (nI sk), .ref g5, .ref g6, .ref g7])), (h0, .inr (0, [.int (nI N), .ref h1, .ref h2, .ref h3, .ref h4, .ref h5, .ref h6])), (h1, .inl (E 0, 15, .inl hm)), (h2, .inl (E 0, 15, .inl aw)), (h3, .inl (E 0, 30, .inl rv)), (h4, .inl (E 0, 30, .inl sd)), (h5, .inl (E 0, 30, .inl gm)), (h6, .inl (E 0, 36, .inl ca)), (g1, .inl (E 0, 6, .inl xs)), (g2, .inl (E 0, 6, .inl ys))]) (zr_Qf (fun zv => zv = zf_wear (zm_way G P X Y t) (r + 1))) 0 0 (fun _ => False) := by
  refine Met.ofW (cc := cX3_wearBehind) (maxL := 5) (ret := (some .float)) (by decide) rfl ?_
  intro p e s m args below meth c s₁ Bz hml hv
  obtain ⟨rfl, hP, hK⟩ := hv
  have hx := Bz.exec
  have hb := Bz.bytes
  have hr := Bz.returns
  have hts := atoms_spec (ws := wsX3_wearBehind) Bz.pre
  have hown : s.vm.findClass RX3 = some m.cls := findClass_of_methodNamed Bz.named
  have hlocks := Bz.notSynchronized
  have hP : va_P D vwCl [(g0, .inr (2, [.ref h0, .ref g1, .ref g2, .ref g3, .ref g4, .int (nI sk), .ref g5, .ref g6, .ref g7])), (h0, .inr (0, [.int (nI N), .ref h1, .ref h2, .ref h3, .ref h4, .ref h5, .ref h6])), (h1, .inl (E 0, 15, .inl hm)), (h2, .inl (E 0, 15, .inl aw)), (h3, .inl (E 0, 30, .inl rv)), (h4, .inl (E 0, 30, .inl sd)), (h5, .inl (E 0, 30, .inl gm)), (h6, .inl (E 0, 36, .inl ca)), (g1, .inl (E 0, 6, .inl xs)), (g2, .inl (E 0, 6, .inl ys))] s.heap := hP
  have hS : va_S (fun _ : Nat => False) s.heap s.heap [] := va_S.rf
  have hl := lv_entry ([.ref g0, .int (nI t), .int (nI r)]) (n := 5) (Nat.le_of_ble_eq_true rfl)
  rw [lg_entry_eq]
  generalize (lg_sl ([.ref g0, .int (nI t), .int (nI r)]) ++ List.replicate (5 - (lg_sl ([.ref g0, .int (nI t), .int (nI r)])).length) Slot.unset).toArray = ls at hl ⊢
  have hl : lv_has ls 5 [(0, .ref g0), (1, .int (nI t)), (2, .int (nI r))] := hl
  refine zr_nQ (fun Q hQ => ?_)
  have hN := hpl.1.1
  have hok := hpl.1
  refine lv_fconst0 hx hb dX3_wearBehind_0 ?_
  refine lv_fstore_n (lv' := [(3, .float FP.fconst0), (0, .ref g0), (1, .int (nI t)), (2, .int (nI r))]) hx hb dX3_wearBehind_1 rfl hl (by decide) rfl (fun ls hl => ?_)
  refine lv_iconst (v := nI 0) hx hb dX3_wearBehind_2 (by rfl) ?_
  refine lv_istore (lv' := [(4, .int (nI 0)), (3, .float FP.fconst0), (0, .ref g0), (1, .int (nI t)), (2, .int (nI r))]) hx hb dX3_wearBehind_3 hl (by decide) rfl (fun ls hl => ?_)
  suffices KL5 : ∀ (kz : Nat) (i : Nat) (H : Heap) (locs : List Loc) (ls : Array Slot), (r + 2 - i) < kz → (i ≤ r + 1) → va_P D vwCl [(g0, .inr (2, [.ref h0, .ref g1, .ref g2, .ref g3, .ref g4, .int (nI sk), .ref g5, .ref g6, .ref g7])), (h0, .inr (0, [.int (nI N), .ref h1, .ref h2, .ref h3, .ref h4, .ref h5, .ref h6])), (h1, .inl (E 0, 15, .inl hm)), (h2, .inl (E 0, 15, .inl aw)), (h3, .inl (E 0, 30, .inl rv)), (h4, .inl (E 0, 30, .inl sd)), (h5, .inl (E 0, 30, .inl gm)), (h6, .inl (E 0, 36, .inl ca)), (g1, .inl (E 0, 6, .inl xs)), (g2, .inl (E 0, 6, .inl ys))] H → va_S (fun _ : Nat => False) s.heap H locs → lv_has ls 5 [(0, .ref g0), (1, .int (nI t)), (2, .int (nI r)), (3, .float (zf_wear (zm_way G P X Y t) i)), (4, .int (nI i))] → W p l e (headSpec wsX3_wearBehind ({ frames := 3, cells := 0, slots := 0, locals := 67 })).room s m ([.ref g0, .int (nI t), .int (nI r)] : List Value).toArray below meth c H locs 0 0 Q (F0 m 5 ls []) from
    KL5 _ 0 _ _ ls (Nat.lt_succ_self _) (by omega) hP hS (lv_sub hl [2, 3, 4, 1, 0] rfl)
  clear hP hS hl
  intro kz
  induction kz with
  | zero => intro i H locs ls hkz; exact absurd hkz (Nat.not_lt_zero _)
  | succ kz ih5 =>
    intro i H locs ls hkz hi hP hS hl
    have hwl : ∀ j, j < i → zm_way G P X Y t j ≤ 198 := fun j hj => zm_way_le hok hgr ht (by omega)
    refine lv_iload hx hb dX3_wearBehind_5 (lv_at hl 4 rfl) ?_
    refine lv_iload_n hx hb dX3_wearBehind_7 rfl (lv_at hl 2 rfl) ?_
    refine lv_icmp_gt (tgt := 40) hx hb dX3_wearBehind_8 (by decide) (fun cn_1 => ?_) (fun cn_1 => ?_)
    · skip
      have cn_1 : r < i := (nI_ltI (a := r) (b := i) (by omega) (by omega)).mp cn_1
      have hie : i = r + 1 := by omega
      refine lv_fload_n hx hb dX3_wearBehind_40 rfl (lv_at hl 3 rfl) ?_
      subst hQ
      exact W.fret (v := zf_wear (zm_way G P X Y t) i) hx hb hr (fun tz htz hWz => ⟨⟨zf_wear (zm_way G P X Y t) i, (), rfl, by rw [hie], trivial⟩, hS.F htz⟩) hS.2.2 dX3_wearBehind_41
    · skip
      have cn_1 : ¬ (r < i) := fun hz => cn_1 ((nI_ltI (a := r) (b := i) (by omega) (by omega)).mpr hz)
      have hii : i ≤ r := by omega
      have hwi := zm_way_le hok hgr (t := t) (r := i) ht (by omega)
      have hwl1 : ∀ j, j < i + 1 → zm_way G P X Y t j ≤ 198 := fun j hj => zm_way_le hok hgr ht (by omega)
      refine lv_iload hx hb dX3_wearBehind_11 (lv_at hl 4 rfl) ?_
      refine lv_iconst (v := nI 5) hx hb dX3_wearBehind_13 (by rfl) ?_
      refine lv_icmp_ge (tgt := 40) hx hb dX3_wearBehind_14 (by decide) (fun cn_2 => ?_) (fun cn_2 => ?_)
      · skip
        have cn_2 : 5 ≤ i := (nI_leI (a := 5) (b := i) (by omega) (by omega)).mp cn_2
        exfalso; omega
      · skip
        have cn_2 : ¬ (5 ≤ i) := fun hz => cn_2 ((nI_leI (a := 5) (b := i) (by omega) (by omega)).mpr hz)
        refine lv_fload_n hx hb dX3_wearBehind_17 rfl (lv_at hl 3 rfl) ?_
        refine lv_ldcf (v := (1061158912)) hx hb hown (hts (.constantFloat RX3 140 (1061158912)) (by decide +kernel)) dX3_wearBehind_18 ?_
        refine lv_fmul hx hb dX3_wearBehind_20 ((zf_wear075 (by omega) hwl).nn) ?_
        refine lv_aload_n hx hb dX3_wearBehind_21 rfl (lv_at hl 0 rfl) ?_
        refine lv_iload_n hx hb dX3_wearBehind_22 rfl (lv_at hl 1 rfl) ?_
        refine lv_iload hx hb dX3_wearBehind_23 (lv_at hl 4 rfl) ?_
        refine zr_ci hP hS (va_runV (As := [.int (nI t), .int (nI i)]) (rest := [.float (FP.fmul (zf_wear (zm_way G P X Y t) i) (1061158912))]) ⟨hx, hb, hml, hown, hts⟩ (c_X3_wayOf l D E g0 g1 g2 g3 g4 g5 g6 g7 sk h0 h1 h2 h3 h4 h5 h6 N hm aw rv sd gm ca G P xs ys X Y t i (hpl) (hgr) (by omega) (by omega)) (cwV 2 hts gX3_wearBehind_X3_wayOf rfl rfl rfl (by decide +kernel) ⟨Nat.le_of_ble_eq_true rfl, Nat.le_of_ble_eq_true rfl⟩) (zr_V hK (hP.sub (ws' := [(g0, .inr (2, [.ref h0, .ref g1, .ref g2, .ref g3, .ref g4, .int (nI sk), .ref g5, .ref g6, .ref g7])), (h0, .inr (0, [.int (nI N), .ref h1, .ref h2, .ref h3, .ref h4, .ref h5, .ref h6])), (h1, .inl (E 0, 15, .inl hm)), (h2, .inl (E 0, 15, .inl aw)), (h3, .inl (E 0, 30, .inl rv)), (h4, .inl (E 0, 30, .inl sd)), (h5, .inl (E 0, 30, .inl gm)), (h6, .inl (E 0, 36, .inl ca)), (g1, .inl (E 0, 6, .inl xs)), (g2, .inl (E 0, 6, .inl ys))]) [0, 1, 2, 3, 4, 5, 6, 7, 8, 9] rfl) (ci := 2) (q0 := 0) rfl rfl) rfl rfl hl.1 rfl (lv_room (Nat.le_of_ble_eq_true rfl)) dX3_wearBehind_25 ⟨Nat.zero_le _, Nat.zero_le _⟩) (fun r_3 H locs hw_4 hP hS => ?_)
        subst hw_4
        refine lv_i2f hx hb dX3_wearBehind_28 ?_
        refine lv_ldcf (v := (1077936128)) hx hb hown (hts (.constantFloat RX3 144 (1077936128)) (by decide +kernel)) dX3_wearBehind_29 ?_
        refine lv_fdiv hx hb dX3_wearBehind_31 ((zf_way hwi).nn) ?_
        refine lv_fadd hx hb dX3_wearBehind_32 ((zf_wearF (w := zm_way G P X Y t) (i + 1) (by omega) hwl1).nn) ?_
        refine zr_tf (y := zf_wear (zm_way G P X Y t) (i + 1)) (rfl) ?_
        refine lv_fstore_n (lv' := [(3, .float (zf_wear (zm_way G P X Y t) (i + 1))), (0, .ref g0), (1, .int (nI t)), (2, .int (nI r)), (4, .int (nI i))]) hx hb dX3_wearBehind_33 rfl hl (by decide) rfl (fun ls hl => ?_)
        refine lv_iinc (v := nI (i + 1)) (lv' := [(4, .int (nI (i + 1))), (3, .float (zf_wear (zm_way G P X Y t) (i + 1))), (0, .ref g0), (1, .int (nI t)), (2, .int (nI r))]) hx hb dX3_wearBehind_34 hl (k := 4) rfl (nI_add _ _) (by decide) rfl (fun ls hl => ?_)
        refine lv_goto (tgt := 5) hx hb dX3_wearBehind_37 (by decide) ?_
        have hl : lv_has ls 5 [(0, .ref g0), (1, .int (nI t)), (2, .int (nI r)), (3, .float (zf_wear (zm_way G P X Y t) (i + 1))), (4, .int (nI (i + 1)))] := lv_sub hl [2, 3, 4, 1, 0] rfl
        exact ih5 (i + 1) H locs ls (by omega) (by omega) hP hS hl

set_option maxHeartbeats 4000000 in
set_option maxRecDepth 100000 in
theorem c_X3_lastWear (l : Launch) (D : va_G) (E : Nat → ClassId) (g0 : Nat) (g1 : Nat) (g2 : Nat) (g3 : Nat) (g4 : Nat) (g5 : Nat) (g6 : Nat) (g7 : Nat) (sk : Nat) (h0 : Nat) (h1 : Nat) (h2 : Nat) (h3 : Nat) (h4 : Nat) (h5 : Nat) (h6 : Nat) (N : Nat) (hm : Nat → Int32) (aw : Nat → Int32) (rv : Nat → Int32) (sd : Nat → Int32) (gm : Nat → Int32) (ca : Nat → Int32) (G : Nat → Nat → Nat) (P : Nat → Nat → Nat) (xs : Nat → Int32) (ys : Nat → Int32) (X : Nat → Nat) (Y : Nat → Nat) (t : Nat) (hpl : zm_pl N G P hm aw rv sd gm) (hgr : zm_gr X Y xs ys) (ht : t < N) : Met l yX3_lastWear wsX3_lastWear ({ frames := 4, cells := 0, slots := 0, locals := 91 }) (zr_P D E [.ref g0, .int (nI t)] [(g0, .inr (2, [.ref h0, .ref g1, .ref g2, .ref g3, .ref g4, .int (nI sk), .ref g5, .ref g6, .ref g7])), (h0, .inr (0, [.int (nI N), .ref h1, .ref h2, .ref h3, .ref h4, .ref h5, .ref h6])), (h1, .inl (E 0, 15, .inl hm)), (h2, .inl (E 0, 15, .inl aw)), (h3, .inl (E 0, 30, .inl rv)), (h4, .inl (E 0, 30, .inl sd)), (h5, .inl (E 0, 30, .inl gm)), (h6, .inl (E 0, 36, .inl ca)), (g1, .inl (E 0, 6, .inl xs)), (g2, .inl (E 0, 6, .inl ys))]) (zr_Qf (fun zv => zv = zf_wear (zm_way G P X Y t) (N - 1))) 0 0 (fun _ => False) := by
  refine Met.ofW (cc := cX3_lastWear) (maxL := 2) (ret := (some .float)) (by decide) rfl ?_
  intro p e s m args below meth c s₁ Bz hml hv
  obtain ⟨rfl, hP, hK⟩ := hv
  have hx := Bz.exec
  have hb := Bz.bytes
  have hr := Bz.returns
  have hts := atoms_spec (ws := wsX3_lastWear) Bz.pre
  have hown : s.vm.findClass RX3 = some m.cls := findClass_of_methodNamed Bz.named
  have hlocks := Bz.notSynchronized
  have hP : va_P D vwCl [(g0, .inr (2, [.ref h0, .ref g1, .ref g2, .ref g3, .ref g4, .int (nI sk), .ref g5, .ref g6, .ref g7])), (h0, .inr (0, [.int (nI N), .ref h1, .ref h2, .ref h3, .ref h4, .ref h5, .ref h6])), (h1, .inl (E 0, 15, .inl hm)), (h2, .inl (E 0, 15, .inl aw)), (h3, .inl (E 0, 30, .inl rv)), (h4, .inl (E 0, 30, .inl sd)), (h5, .inl (E 0, 30, .inl gm)), (h6, .inl (E 0, 36, .inl ca)), (g1, .inl (E 0, 6, .inl xs)), (g2, .inl (E 0, 6, .inl ys))] s.heap := hP
  have hS : va_S (fun _ : Nat => False) s.heap s.heap [] := va_S.rf
  have hl := lv_entry ([.ref g0, .int (nI t)]) (n := 2) (Nat.le_of_ble_eq_true rfl)
  rw [lg_entry_eq]
  generalize (lg_sl ([.ref g0, .int (nI t)]) ++ List.replicate (2 - (lg_sl ([.ref g0, .int (nI t)])).length) Slot.unset).toArray = ls at hl ⊢
  have hl : lv_has ls 2 [(0, .ref g0), (1, .int (nI t))] := hl
  refine zr_nQ (fun Q hQ => ?_)
  have hN := hpl.1.1
  have hok := hpl.1
  refine lv_aload_n hx hb dX3_lastWear_0 rfl (lv_at hl 0 rfl) ?_
  refine lv_iload_n hx hb dX3_lastWear_1 rfl (lv_at hl 1 rfl) ?_
  refine lv_aload_n hx hb dX3_lastWear_2 rfl (lv_at hl 0 rfl) ?_
  refine va_get (D := D) (ci := 2) (v := .ref h0) (C := RX3) (T := TX3) (N := 9) hx hb hts (by decide +kernel) hown hK.1 hP 0 rfl rfl 0 (by decide) (hts (.fieldLink RX3 12 "HomeRounds$Setting" "plan" "LHomeRounds$Plan;") (by decide +kernel)) (fun _ h9 => h9) rfl dX3_lastWear_3 ?_
  refine va_get (D := D) (ci := 0) (v := .int (nI N)) (C := RX1) (T := TX1) (N := 7) hx hb hts (by decide +kernel) hown hK.1 hP 1 rfl rfl 0 (by decide) (hts (.fieldLink RX3 105 "HomeRounds$Plan" "n" "I") (by decide +kernel)) (fun _ h9 => h9) rfl dX3_lastWear_6 ?_
  refine lv_iconst (v := nI 2) hx hb dX3_lastWear_9 (by rfl) ?_
  refine lv_isub hx hb dX3_lastWear_10 ?_
  refine zr_ti (y := nI (N - 2)) (pk_sub (by omega)) ?_
  refine zr_cf hP hS (va_runV (As := [.int (nI t), .int (nI (N - 2))]) (rest := []) ⟨hx, hb, hml, hown, hts⟩ (c_X3_wearBehind l D E g0 g1 g2 g3 g4 g5 g6 g7 sk h0 h1 h2 h3 h4 h5 h6 N hm aw rv sd gm ca G P xs ys X Y t (N - 2) (hpl) (hgr) (by omega) (by omega)) (cwV 2 hts gX3_lastWear_X3_wearBehind rfl rfl rfl (by decide +kernel) ⟨Nat.le_of_ble_eq_true rfl, Nat.le_of_ble_eq_true rfl⟩) (zr_V hK (hP.sub (ws' := [(g0, .inr (2, [.ref h0, .ref g1, .ref g2, .ref g3, .ref g4, .int (nI sk), .ref g5, .ref g6, .ref g7])), (h0, .inr (0, [.int (nI N), .ref h1, .ref h2, .ref h3, .ref h4, .ref h5, .ref h6])), (h1, .inl (E 0, 15, .inl hm)), (h2, .inl (E 0, 15, .inl aw)), (h3, .inl (E 0, 30, .inl rv)), (h4, .inl (E 0, 30, .inl sd)), (h5, .inl (E 0, 30, .inl gm)), (h6, .inl (E 0, 36, .inl ca)), (g1, .inl (E 0, 6, .inl xs)), (g2, .inl (E 0, 6, .inl ys))]) [0, 1, 2, 3, 4, 5, 6, 7, 8, 9] rfl) (ci := 2) (q0 := 0) rfl rfl) rfl rfl hl.1 rfl (lv_room (Nat.le_of_ble_eq_true rfl)) dX3_lastWear_11 ⟨Nat.zero_le _, Nat.zero_le _⟩) (fun r_1 H locs hw_2 hP hS => ?_)
  subst hw_2
  subst hQ
  exact W.fret (v := zf_wear (zm_way G P X Y t) ((N - 2) + 1)) hx hb hr (fun tz htz hWz => ⟨⟨zf_wear (zm_way G P X Y t) ((N - 2) + 1), (), rfl, by rw [show N - 2 + 1 = N - 1 from by omega], trivial⟩, hS.F htz⟩) hS.2.2 dX3_lastWear_14

set_option maxHeartbeats 4000000 in
set_option maxRecDepth 100000 in
theorem c_X3_mostWorn (l : Launch) (D : va_G) (E : Nat → ClassId) (g0 : Nat) (g1 : Nat) (g2 : Nat) (g3 : Nat) (g4 : Nat) (g5 : Nat) (g6 : Nat) (g7 : Nat) (sk : Nat) (h0 : Nat) (h1 : Nat) (h2 : Nat) (h3 : Nat) (h4 : Nat) (h5 : Nat) (h6 : Nat) (N : Nat) (hm : Nat → Int32) (aw : Nat → Int32) (rv : Nat → Int32) (sd : Nat → Int32) (gm : Nat → Int32) (ca : Nat → Int32) (G : Nat → Nat → Nat) (P : Nat → Nat → Nat) (xs : Nat → Int32) (ys : Nat → Int32) (X : Nat → Nat) (Y : Nat → Nat) (hpl : zm_pl N G P hm aw rv sd gm) (hgr : zm_gr X Y xs ys) : Met l yX3_mostWorn wsX3_mostWorn ({ frames := 5, cells := 0, slots := 0, locals := 112 }) (zr_P D E [.ref g0] [(g0, .inr (2, [.ref h0, .ref g1, .ref g2, .ref g3, .ref g4, .int (nI sk), .ref g5, .ref g6, .ref g7])), (h0, .inr (0, [.int (nI N), .ref h1, .ref h2, .ref h3, .ref h4, .ref h5, .ref h6])), (h1, .inl (E 0, 15, .inl hm)), (h2, .inl (E 0, 15, .inl aw)), (h3, .inl (E 0, 30, .inl rv)), (h4, .inl (E 0, 30, .inl sd)), (h5, .inl (E 0, 30, .inl gm)), (h6, .inl (E 0, 36, .inl ca)), (g1, .inl (E 0, 6, .inl xs)), (g2, .inl (E 0, 6, .inl ys))]) (zr_Qi (fun zv => zv = nI (zf_most (fun t => zf_wear (zm_way G P X Y t) (N - 1)) (N - 1)))) 0 0 (fun _ => False) := by
  refine Met.ofW (cc := cX3_mostWorn) (maxL := 5) (ret := (some .int)) (by decide) rfl ?_
  intro p e s m args below meth c s₁ Bz hml hv
  obtain ⟨rfl, hP, hK⟩ := hv
  have hx := Bz.exec
  have hb := Bz.bytes
  have hr := Bz.returns
  have hts := atoms_spec (ws := wsX3_mostWorn) Bz.pre
  have hown : s.vm.findClass RX3 = some m.cls := findClass_of_methodNamed Bz.named
  have hlocks := Bz.notSynchronized
  have hP : va_P D vwCl [(g0, .inr (2, [.ref h0, .ref g1, .ref g2, .ref g3, .ref g4, .int (nI sk), .ref g5, .ref g6, .ref g7])), (h0, .inr (0, [.int (nI N), .ref h1, .ref h2, .ref h3, .ref h4, .ref h5, .ref h6])), (h1, .inl (E 0, 15, .inl hm)), (h2, .inl (E 0, 15, .inl aw)), (h3, .inl (E 0, 30, .inl rv)), (h4, .inl (E 0, 30, .inl sd)), (h5, .inl (E 0, 30, .inl gm)), (h6, .inl (E 0, 36, .inl ca)), (g1, .inl (E 0, 6, .inl xs)), (g2, .inl (E 0, 6, .inl ys))] s.heap := hP
  have hS : va_S (fun _ : Nat => False) s.heap s.heap [] := va_S.rf
  have hl := lv_entry ([.ref g0]) (n := 5) (Nat.le_of_ble_eq_true rfl)
  rw [lg_entry_eq]
  generalize (lg_sl ([.ref g0]) ++ List.replicate (5 - (lg_sl ([.ref g0])).length) Slot.unset).toArray = ls at hl ⊢
  have hl : lv_has ls 5 [(0, .ref g0)] := hl
  refine zr_nQ (fun Q hQ => ?_)
  have hN := hpl.1.1
  have hok := hpl.1
  refine lv_iconst (v := nI 0) hx hb dX3_mostWorn_0 (by rfl) ?_
  refine lv_istore_n (lv' := [(1, .int (nI 0)), (0, .ref g0)]) hx hb dX3_mostWorn_1 rfl hl (by decide) rfl (fun ls hl => ?_)
  refine lv_aload_n hx hb dX3_mostWorn_2 rfl (lv_at hl 1 rfl) ?_
  refine lv_iconst (v := nI 0) hx hb dX3_mostWorn_3 (by rfl) ?_
  refine zr_cf hP hS (va_runV (As := [.int (nI 0)]) (rest := []) ⟨hx, hb, hml, hown, hts⟩ (c_X3_lastWear l D E g0 g1 g2 g3 g4 g5 g6 g7 sk h0 h1 h2 h3 h4 h5 h6 N hm aw rv sd gm ca G P xs ys X Y 0 (hpl) (hgr) (by omega)) (cwV 1 hts gX3_mostWorn_X3_lastWear rfl rfl rfl (by decide +kernel) ⟨Nat.le_of_ble_eq_true rfl, Nat.le_of_ble_eq_true rfl⟩) (zr_V hK (hP.sub (ws' := [(g0, .inr (2, [.ref h0, .ref g1, .ref g2, .ref g3, .ref g4, .int (nI sk), .ref g5, .ref g6, .ref g7])), (h0, .inr (0, [.int (nI N), .ref h1, .ref h2, .ref h3, .ref h4, .ref h5, .ref h6])), (h1, .inl (E 0, 15, .inl hm)), (h2, .inl (E 0, 15, .inl aw)), (h3, .inl (E 0, 30, .inl rv)), (h4, .inl (E 0, 30, .inl sd)), (h5, .inl (E 0, 30, .inl gm)), (h6, .inl (E 0, 36, .inl ca)), (g1, .inl (E 0, 6, .inl xs)), (g2, .inl (E 0, 6, .inl ys))]) [0, 1, 2, 3, 4, 5, 6, 7, 8, 9] rfl) (ci := 2) (q0 := 0) rfl rfl) rfl rfl hl.1 rfl (lv_room (Nat.le_of_ble_eq_true rfl)) dX3_mostWorn_4 ⟨Nat.zero_le _, Nat.zero_le _⟩) (fun r_1 H locs hw_2 hP hS => ?_)
  subst hw_2
  refine lv_fstore_n (lv' := [(2, .float (zf_wear (zm_way G P X Y 0) (N - 1))), (1, .int (nI 0)), (0, .ref g0)]) hx hb dX3_mostWorn_7 rfl hl (by decide) rfl (fun ls hl => ?_)
  refine lv_iconst (v := nI 1) hx hb dX3_mostWorn_8 (by rfl) ?_
  refine lv_istore_n (lv' := [(3, .int (nI 1)), (2, .float (zf_wear (zm_way G P X Y 0) (N - 1))), (1, .int (nI 0)), (0, .ref g0)]) hx hb dX3_mostWorn_9 rfl hl (by decide) rfl (fun ls hl => ?_)
  suffices KL10 : ∀ (kz : Nat) (i : Nat) (q : Nat) (H : Heap) (locs : List Loc) (ls : Array Slot), (N - i) < kz → (q = zf_most (fun t => zf_wear (zm_way G P X Y t) (N - 1)) i) → (i ≤ N - 1) → va_P D vwCl [(g0, .inr (2, [.ref h0, .ref g1, .ref g2, .ref g3, .ref g4, .int (nI sk), .ref g5, .ref g6, .ref g7])), (h0, .inr (0, [.int (nI N), .ref h1, .ref h2, .ref h3, .ref h4, .ref h5, .ref h6])), (h1, .inl (E 0, 15, .inl hm)), (h2, .inl (E 0, 15, .inl aw)), (h3, .inl (E 0, 30, .inl rv)), (h4, .inl (E 0, 30, .inl sd)), (h5, .inl (E 0, 30, .inl gm)), (h6, .inl (E 0, 36, .inl ca)), (g1, .inl (E 0, 6, .inl xs)), (g2, .inl (E 0, 6, .inl ys))] H → va_S (fun _ : Nat => False) s.heap H locs → lv_has ls 5 [(0, .ref g0), (1, .int (nI q)), (2, .float (zf_wear (zm_way G P X Y q) (N - 1))), (3, .int (nI (i + 1)))] → W p l e (headSpec wsX3_mostWorn ({ frames := 5, cells := 0, slots := 0, locals := 112 })).room s m ([.ref g0] : List Value).toArray below meth c H locs 0 0 Q (F0 m 10 ls []) from
    KL10 _ 0 0 _ _ ls (Nat.lt_succ_self _) (rfl) (by omega) hP hS (lv_sub hl [3, 2, 1, 0] rfl)
  clear hP hS hl
  intro kz
  induction kz with
  | zero => intro i q H locs ls hkz; exact absurd hkz (Nat.not_lt_zero _)
  | succ kz ih10 =>
    intro i q H locs ls hkz hq hi hP hS hl
    refine lv_iload_n hx hb dX3_mostWorn_10 rfl (lv_at hl 3 rfl) ?_
    refine lv_aload_n hx hb dX3_mostWorn_11 rfl (lv_at hl 0 rfl) ?_
    refine va_get (D := D) (ci := 2) (v := .ref h0) (C := RX3) (T := TX3) (N := 9) hx hb hts (by decide +kernel) hown hK.1 hP 0 rfl rfl 0 (by decide) (hts (.fieldLink RX3 12 "HomeRounds$Setting" "plan" "LHomeRounds$Plan;") (by decide +kernel)) (fun _ h9 => h9) rfl dX3_mostWorn_12 ?_
    refine va_get (D := D) (ci := 0) (v := .int (nI N)) (C := RX1) (T := TX1) (N := 7) hx hb hts (by decide +kernel) hown hK.1 hP 1 rfl rfl 0 (by decide) (hts (.fieldLink RX3 105 "HomeRounds$Plan" "n" "I") (by decide +kernel)) (fun _ h9 => h9) rfl dX3_mostWorn_15 ?_
    refine lv_icmp_ge (tgt := 46) hx hb dX3_mostWorn_18 (by decide) (fun cn_3 => ?_) (fun cn_3 => ?_)
    · skip
      have cn_3 : N ≤ i + 1 := (nI_leI (a := N) (b := i + 1) (by omega) (by omega)).mp cn_3
      have hie : i = N - 1 := by omega
      refine lv_iload_n hx hb dX3_mostWorn_46 rfl (lv_at hl 1 rfl) ?_
      subst hQ
      exact W.iret (v := nI q) hx hb hr (fun tz htz hWz => ⟨⟨nI q, (), rfl, by rw [hq, hie], trivial⟩, hS.F htz⟩) hS.2.2 dX3_mostWorn_47
    · skip
      have cn_3 : ¬ (N ≤ i + 1) := fun hz => cn_3 ((nI_leI (a := N) (b := i + 1) (by omega) (by omega)).mpr hz)
      refine lv_aload_n hx hb dX3_mostWorn_21 rfl (lv_at hl 0 rfl) ?_
      refine lv_iload_n hx hb dX3_mostWorn_22 rfl (lv_at hl 3 rfl) ?_
      refine zr_cf hP hS (va_runV (As := [.int (nI (i + 1))]) (rest := []) ⟨hx, hb, hml, hown, hts⟩ (c_X3_lastWear l D E g0 g1 g2 g3 g4 g5 g6 g7 sk h0 h1 h2 h3 h4 h5 h6 N hm aw rv sd gm ca G P xs ys X Y (i + 1) (hpl) (hgr) (by omega)) (cwV 1 hts gX3_mostWorn_X3_lastWear rfl rfl rfl (by decide +kernel) ⟨Nat.le_of_ble_eq_true rfl, Nat.le_of_ble_eq_true rfl⟩) (zr_V hK (hP.sub (ws' := [(g0, .inr (2, [.ref h0, .ref g1, .ref g2, .ref g3, .ref g4, .int (nI sk), .ref g5, .ref g6, .ref g7])), (h0, .inr (0, [.int (nI N), .ref h1, .ref h2, .ref h3, .ref h4, .ref h5, .ref h6])), (h1, .inl (E 0, 15, .inl hm)), (h2, .inl (E 0, 15, .inl aw)), (h3, .inl (E 0, 30, .inl rv)), (h4, .inl (E 0, 30, .inl sd)), (h5, .inl (E 0, 30, .inl gm)), (h6, .inl (E 0, 36, .inl ca)), (g1, .inl (E 0, 6, .inl xs)), (g2, .inl (E 0, 6, .inl ys))]) [0, 1, 2, 3, 4, 5, 6, 7, 8, 9] rfl) (ci := 2) (q0 := 0) rfl rfl) rfl rfl hl.1 rfl (lv_room (Nat.le_of_ble_eq_true rfl)) dX3_mostWorn_23 ⟨Nat.zero_le _, Nat.zero_le _⟩) (fun r_4 H locs hw_5 hP hS => ?_)
      subst hw_5
      refine lv_fstore (lv' := [(4, .float (zf_wear (zm_way G P X Y (i + 1)) (N - 1))), (0, .ref g0), (1, .int (nI q)), (2, .float (zf_wear (zm_way G P X Y q) (N - 1))), (3, .int (nI (i + 1)))]) hx hb dX3_mostWorn_26 hl (by decide) rfl (fun ls hl => ?_)
      refine lv_fload hx hb dX3_mostWorn_28 (lv_at hl 0 rfl) ?_
      refine lv_fload_n hx hb dX3_mostWorn_30 rfl (lv_at hl 3 rfl) ?_
      refine lv_fcmp hx hb dX3_mostWorn_31 ?_
      refine lv_if_le (tgt := 40) hx hb dX3_mostWorn_32 (by decide) (fun cn_6 => ?_) (fun cn_6 => ?_)
      · skip
        have hbr := cn_6
        refine lv_iinc (v := nI (i + 1 + 1)) (lv' := [(3, .int (nI (i + 1 + 1))), (4, .float (zf_wear (zm_way G P X Y (i + 1)) (N - 1))), (0, .ref g0), (1, .int (nI q)), (2, .float (zf_wear (zm_way G P X Y q) (N - 1)))]) hx hb dX3_mostWorn_40 hl (k := 4) rfl (nI_add _ _) (by decide) rfl (fun ls hl => ?_)
        refine lv_goto (tgt := 10) hx hb dX3_mostWorn_43 (by decide) ?_
        have hl : lv_has ls 5 [(0, .ref g0), (1, .int (nI q)), (2, .float (zf_wear (zm_way G P X Y q) (N - 1))), (3, .int (nI ((i + 1) + 1)))] := lv_sub hl [2, 3, 4, 0] rfl
        exact ih10 (i + 1) q H locs ls (by omega) (by rw [zf_most]; first | (rw [if_pos (by rw [← hq]; exact hbr)]; exact hq) | (rw [if_neg (by rw [← hq]; exact hbr)])) (by omega) hP hS hl
      · skip
        have hbr := cn_6
        refine lv_fload hx hb dX3_mostWorn_35 (lv_at hl 0 rfl) ?_
        refine lv_fstore_n (lv' := [(2, .float (zf_wear (zm_way G P X Y (i + 1)) (N - 1))), (4, .float (zf_wear (zm_way G P X Y (i + 1)) (N - 1))), (0, .ref g0), (1, .int (nI q)), (3, .int (nI (i + 1)))]) hx hb dX3_mostWorn_37 rfl hl (by decide) rfl (fun ls hl => ?_)
        refine lv_iload_n hx hb dX3_mostWorn_38 rfl (lv_at hl 4 rfl) ?_
        refine lv_istore_n (lv' := [(1, .int (nI (i + 1))), (2, .float (zf_wear (zm_way G P X Y (i + 1)) (N - 1))), (4, .float (zf_wear (zm_way G P X Y (i + 1)) (N - 1))), (0, .ref g0), (3, .int (nI (i + 1)))]) hx hb dX3_mostWorn_39 rfl hl (by decide) rfl (fun ls hl => ?_)
        refine lv_iinc (v := nI (i + 1 + 1)) (lv' := [(3, .int (nI (i + 1 + 1))), (1, .int (nI (i + 1))), (2, .float (zf_wear (zm_way G P X Y (i + 1)) (N - 1))), (4, .float (zf_wear (zm_way G P X Y (i + 1)) (N - 1))), (0, .ref g0)]) hx hb dX3_mostWorn_40 hl (k := 4) rfl (nI_add _ _) (by decide) rfl (fun ls hl => ?_)
        refine lv_goto (tgt := 10) hx hb dX3_mostWorn_43 (by decide) ?_
        have hl : lv_has ls 5 [(0, .ref g0), (1, .int (nI (i + 1))), (2, .float (zf_wear (zm_way G P X Y (i + 1)) (N - 1))), (3, .int (nI ((i + 1) + 1)))] := lv_sub hl [4, 1, 2, 0] rfl
        exact ih10 (i + 1) (i + 1) H locs ls (by omega) (by rw [zf_most]; first | (rw [if_pos (by rw [← hq]; exact hbr)]; exact hq) | (rw [if_neg (by rw [← hq]; exact hbr)])) (by omega) hP hS hl

set_option maxHeartbeats 4000000 in
set_option maxRecDepth 100000 in
theorem c_X3_weighed (l : Launch) (D : va_G) (E : Nat → ClassId) (g0 : Nat) (g1 : Nat) (g2 : Nat) (g3 : Nat) (g4 : Nat) (g5 : Nat) (g6 : Nat) (g7 : Nat) (sk : Nat) (h0 : Nat) (rt : Nat → Int32) (R : Nat → Nat) (k : Nat) (n : Nat) (hrt : zm_rt R rt) (hk4 : k < 4) (hn9 : n ≤ 8191) : Met l yX3_weighed wsX3_weighed ({ frames := 1, cells := 0, slots := 0, locals := 20 }) (zr_P D E [.ref g0, .int (nI k), .int (nI n)] [(g0, .inr (2, [.ref h0, .ref g1, .ref g2, .ref g3, .ref g4, .int (nI sk), .ref g5, .ref g6, .ref g7])), (g4, .inl (E 0, 4, .inl rt))]) (zr_Qf (fun zv => zv = zf_part (R k) n)) 0 0 (fun _ => False) := by
  refine Met.ofW (cc := cX3_weighed) (maxL := 3) (ret := (some .float)) (by decide) rfl ?_
  intro p e s m args below meth c s₁ Bz hml hv
  obtain ⟨rfl, hP, hK⟩ := hv
  have hx := Bz.exec
  have hb := Bz.bytes
  have hr := Bz.returns
  have hts := atoms_spec (ws := wsX3_weighed) Bz.pre
  have hown : s.vm.findClass RX3 = some m.cls := findClass_of_methodNamed Bz.named
  have hlocks := Bz.notSynchronized
  have hP : va_P D vwCl [(g0, .inr (2, [.ref h0, .ref g1, .ref g2, .ref g3, .ref g4, .int (nI sk), .ref g5, .ref g6, .ref g7])), (g4, .inl (E 0, 4, .inl rt))] s.heap := hP
  have hS : va_S (fun _ : Nat => False) s.heap s.heap [] := va_S.rf
  have hl := lv_entry ([.ref g0, .int (nI k), .int (nI n)]) (n := 3) (Nat.le_of_ble_eq_true rfl)
  rw [lg_entry_eq]
  generalize (lg_sl ([.ref g0, .int (nI k), .int (nI n)]) ++ List.replicate (3 - (lg_sl ([.ref g0, .int (nI k), .int (nI n)])).length) Slot.unset).toArray = ls at hl ⊢
  have hl : lv_has ls 3 [(0, .ref g0), (1, .int (nI k)), (2, .int (nI n))] := hl
  refine zr_nQ (fun Q hQ => ?_)
  obtain ⟨hR1, hR2⟩ := hrt k hk4
  refine lv_iload_n hx hb dX3_weighed_0 rfl (lv_at hl 1 rfl) ?_
  refine zr_ci hP hS (va_runSN (As := [.int (nI k)]) (rest := []) ⟨hx, hb, hml, hown, hts⟩ (c_X7_isRate l D E (nI k) ) ⟨va_cnB 1 hts gX3_weighed_X7_isRate_n81 rfl rfl rfl hK.2.2.2.2.2.1 (hts (.initialized RX7) (by decide +kernel)) (by decide +kernel) ⟨Nat.le_of_ble_eq_true rfl, Nat.le_of_ble_eq_true rfl⟩, hts (.static yX7_isRate) (by decide +kernel), trivial⟩ (zr_S hK (hP.sub (ws' := []) [] rfl)) rfl rfl hl.1 rfl (lv_room (Nat.le_of_ble_eq_true rfl)) dX3_weighed_1 ⟨Nat.zero_le _, Nat.zero_le _⟩) (fun r_1 H locs hw_2 hP hS => ?_)
  have hrz : r_1 = 1 := by rcases hw_2 with ⟨h9, -⟩ | ⟨-, h9⟩; exact h9; exact absurd rfl (h9 k hk4)
  subst hrz; clear hw_2
  refine zr_ti (y := nI 1) rfl ?_
  refine lv_if_eq (tgt := 23) hx hb dX3_weighed_4 (by decide) (fun cn_3 => ?_) (fun cn_3 => ?_)
  · skip
    exact absurd cn_3 (by decide)
  · skip
    refine lv_aload_n hx hb dX3_weighed_7 rfl (lv_at hl 0 rfl) ?_
    refine va_get (D := D) (ci := 2) (v := .ref g4) (C := RX3) (T := TX3) (N := 9) hx hb hts (by decide +kernel) hown hK.1 hP 0 rfl rfl 4 (by decide) (hts (.fieldLink RX3 29 "HomeRounds$Setting" "rates" "[I") (by decide +kernel)) (fun _ h9 => h9) rfl dX3_weighed_8 ?_
    refine lv_iload_n hx hb dX3_weighed_11 rfl (lv_at hl 1 rfl) ?_
    refine va_iald hx hb hK.1 hP 1 0 rfl rfl (vp_in_nI (by omega) (by omega)) dX3_weighed_12 ?_
    refine zr_ti (y := nI (R k)) ((congrArg rt (nI_clamp (by omega))).trans (hR2)) ?_
    refine lv_i2f hx hb dX3_weighed_13 ?_
    refine lv_ldcf (v := (1092616192)) hx hb hown (hts (.constantFloat RX3 153 (1092616192)) (by decide +kernel)) dX3_weighed_14 ?_
    refine lv_fdiv hx hb dX3_weighed_16 ((zf_rate hR1).nn) ?_
    refine lv_iload_n hx hb dX3_weighed_17 rfl (lv_at hl 2 rfl) ?_
    refine lv_i2f hx hb dX3_weighed_18 ?_
    refine lv_fmul hx hb dX3_weighed_19 ((zf_partF hR1 hn9).nn) ?_
    refine zr_tf (y := zf_part (R k) n) (rfl) ?_
    refine lv_goto (tgt := 24) hx hb dX3_weighed_20 (by decide) ?_
    subst hQ
    exact W.fret (v := zf_part (R k) n) hx hb hr (fun tz htz hWz => ⟨⟨zf_part (R k) n, (), rfl, rfl, trivial⟩, hS.F htz⟩) hS.2.2 dX3_weighed_24

set_option maxHeartbeats 4000000 in
set_option maxRecDepth 100000 in
theorem c_X3_fullCost (l : Launch) (D : va_G) (E : Nat → ClassId) (g0 : Nat) (g1 : Nat) (g2 : Nat) (g3 : Nat) (g4 : Nat) (g5 : Nat) (g6 : Nat) (g7 : Nat) (sk : Nat) (h0 : Nat) (h1 : Nat) (h2 : Nat) (h3 : Nat) (h4 : Nat) (h5 : Nat) (h6 : Nat) (N : Nat) (hm : Nat → Int32) (aw : Nat → Int32) (rv : Nat → Int32) (sd : Nat → Int32) (gm : Nat → Int32) (ca : Nat → Int32) (G : Nat → Nat → Nat) (P : Nat → Nat → Nat) (xs : Nat → Int32) (ys : Nat → Int32) (X : Nat → Nat) (Y : Nat → Nat) (bz : Nat → Int32) (B : Nat → Nat → Nat) (rt : Nat → Int32) (R : Nat → Nat) (hpl : zm_pl N G P hm aw rv sd gm) (hgr : zm_gr X Y xs ys) (hbz : zm_bz B bz) (hrt : zm_rt R rt) : Met l yX3_fullCost wsX3_fullCost ({ frames := 4, cells := 0, slots := 0, locals := 92 }) (zw_P D E [.ref g0] [(g0, .inr (2, [.ref h0, .ref g1, .ref g2, .ref g3, .ref g4, .int (nI sk), .ref g5, .ref g6, .ref g7])), (h0, .inr (0, [.int (nI N), .ref h1, .ref h2, .ref h3, .ref h4, .ref h5, .ref h6])), (h1, .inl (E 0, 15, .inl hm)), (h2, .inl (E 0, 15, .inl aw)), (h3, .inl (E 0, 30, .inl rv)), (h4, .inl (E 0, 30, .inl sd)), (h5, .inl (E 0, 30, .inl gm)), (h6, .inl (E 0, 36, .inl ca)), (g1, .inl (E 0, 6, .inl xs)), (g2, .inl (E 0, 6, .inl ys)), (g3, .inl (E 1, 30, .inl bz)), (g4, .inl (E 0, 4, .inl rt))]) (zw_Qf D [(g0, .inr (2, [.ref h0, .ref g1, .ref g2, .ref g3, .ref g4, .int (nI sk), .ref g5, .ref g6, .ref g7])), (h0, .inr (0, [.int (nI N), .ref h1, .ref h2, .ref h3, .ref h4, .ref h5, .ref h6])), (h1, .inl (E 0, 15, .inl hm)), (h2, .inl (E 0, 15, .inl aw)), (h3, .inl (E 0, 30, .inl rv)), (h4, .inl (E 0, 30, .inl sd)), (h5, .inl (E 0, 30, .inl gm)), (h6, .inl (E 0, 36, .inl ca)), (g1, .inl (E 0, 6, .inl xs)), (g2, .inl (E 0, 6, .inl ys)), (g3, .inl (E 1, 30, .inl bz)), (g4, .inl (E 0, 4, .inl rt))] (fun zv (u : (Nat → Int32)) => zv = zf_cost R (zm_brs N P) (zm_vio N G B) (zm_car N G P) (zm_amiles N G P X Y) ∧ True) (fun (u : (Nat → Int32)) => [(g0, .inr (2, [.ref h0, .ref g1, .ref g2, .ref g3, .ref g4, .int (nI sk), .ref g5, .ref g6, .ref g7])), (h0, .inr (0, [.int (nI N), .ref h1, .ref h2, .ref h3, .ref h4, .ref h5, .ref h6])), (h1, .inl (E 0, 15, .inl hm)), (h2, .inl (E 0, 15, .inl aw)), (h3, .inl (E 0, 30, .inl rv)), (h4, .inl (E 0, 30, .inl sd)), (h5, .inl (E 0, 30, .inl gm)), (h6, .inl (E 0, 36, .inl u)), (g1, .inl (E 0, 6, .inl xs)), (g2, .inl (E 0, 6, .inl ys)), (g3, .inl (E 1, 30, .inl bz)), (g4, .inl (E 0, 4, .inl rt))])) 0 0 (zw_A [(g0, .inr (2, [.ref h0, .ref g1, .ref g2, .ref g3, .ref g4, .int (nI sk), .ref g5, .ref g6, .ref g7])), (h0, .inr (0, [.int (nI N), .ref h1, .ref h2, .ref h3, .ref h4, .ref h5, .ref h6])), (h1, .inl (E 0, 15, .inl hm)), (h2, .inl (E 0, 15, .inl aw)), (h3, .inl (E 0, 30, .inl rv)), (h4, .inl (E 0, 30, .inl sd)), (h5, .inl (E 0, 30, .inl gm)), (h6, .inl (E 0, 36, .inl ca)), (g1, .inl (E 0, 6, .inl xs)), (g2, .inl (E 0, 6, .inl ys)), (g3, .inl (E 1, 30, .inl bz)), (g4, .inl (E 0, 4, .inl rt))]) := by
  refine Met.ofW (cc := cX3_fullCost) (maxL := 2) (ret := (some .float)) (by decide) rfl ?_
  intro p e s m args below meth c s₁ Bz hml hv
  obtain ⟨rfl, hP, hK, hD0⟩ := hv
  have hx := Bz.exec
  have hb := Bz.bytes
  have hr := Bz.returns
  have hts := atoms_spec (ws := wsX3_fullCost) Bz.pre
  have hown : s.vm.findClass RX3 = some m.cls := findClass_of_methodNamed Bz.named
  have hlocks := Bz.notSynchronized
  have hP : va_P D vwCl [(g0, .inr (2, [.ref h0, .ref g1, .ref g2, .ref g3, .ref g4, .int (nI sk), .ref g5, .ref g6, .ref g7])), (h0, .inr (0, [.int (nI N), .ref h1, .ref h2, .ref h3, .ref h4, .ref h5, .ref h6])), (h1, .inl (E 0, 15, .inl hm)), (h2, .inl (E 0, 15, .inl aw)), (h3, .inl (E 0, 30, .inl rv)), (h4, .inl (E 0, 30, .inl sd)), (h5, .inl (E 0, 30, .inl gm)), (h6, .inl (E 0, 36, .inl ca)), (g1, .inl (E 0, 6, .inl xs)), (g2, .inl (E 0, 6, .inl ys)), (g3, .inl (E 1, 30, .inl bz)), (g4, .inl (E 0, 4, .inl rt))] s.heap := hP
  obtain ⟨A, hAe⟩ : ∃ A : Nat → Prop, A = zw_A [(g0, .inr (2, [.ref h0, .ref g1, .ref g2, .ref g3, .ref g4, .int (nI sk), .ref g5, .ref g6, .ref g7])), (h0, .inr (0, [.int (nI N), .ref h1, .ref h2, .ref h3, .ref h4, .ref h5, .ref h6])), (h1, .inl (E 0, 15, .inl hm)), (h2, .inl (E 0, 15, .inl aw)), (h3, .inl (E 0, 30, .inl rv)), (h4, .inl (E 0, 30, .inl sd)), (h5, .inl (E 0, 30, .inl gm)), (h6, .inl (E 0, 36, .inl ca)), (g1, .inl (E 0, 6, .inl xs)), (g2, .inl (E 0, 6, .inl ys)), (g3, .inl (E 1, 30, .inl bz)), (g4, .inl (E 0, 4, .inl rt))] := ⟨_, rfl⟩
  have hD : va_D A [(g0, .inr (2, [.ref h0, .ref g1, .ref g2, .ref g3, .ref g4, .int (nI sk), .ref g5, .ref g6, .ref g7])), (h0, .inr (0, [.int (nI N), .ref h1, .ref h2, .ref h3, .ref h4, .ref h5, .ref h6])), (h1, .inl (E 0, 15, .inl hm)), (h2, .inl (E 0, 15, .inl aw)), (h3, .inl (E 0, 30, .inl rv)), (h4, .inl (E 0, 30, .inl sd)), (h5, .inl (E 0, 30, .inl gm)), (h6, .inl (E 0, 36, .inl ca)), (g1, .inl (E 0, 6, .inl xs)), (g2, .inl (E 0, 6, .inl ys)), (g3, .inl (E 1, 30, .inl bz)), (g4, .inl (E 0, 4, .inl rt))] := hAe ▸ zw_own hD0
  have hS : va_S A s.heap s.heap [] := va_S.rf
  have hl := lv_entry ([.ref g0]) (n := 2) (Nat.le_of_ble_eq_true rfl)
  rw [lg_entry_eq]
  generalize (lg_sl ([.ref g0]) ++ List.replicate (2 - (lg_sl ([.ref g0])).length) Slot.unset).toArray = ls at hl ⊢
  have hl : lv_has ls 2 [(0, .ref g0)] := hl
  refine zr_nQ (fun Q hQ => ?_)
  have hN := hpl.1.1
  have hok := hpl.1
  have q1 := zm_brs_le (P := P) hN
  have q2 := zm_vio_le5 (B := B) hok (fun t r h1 h2 => (hbz r t h2 h1).1)
  have q3 := zm_car_le (G := G) (P := P) hN
  have q4 := zm_amiles_le hok hgr
  have hRR : ∀ k, k < 4 → R k ≤ 99 := fun k hk => (hrt k hk).1
  refine lv_aload_n hx hb dX3_fullCost_0 rfl (lv_at hl 0 rfl) ?_
  refine lv_iconst (v := nI 0) hx hb dX3_fullCost_1 (by rfl) ?_
  refine lv_aload_n hx hb dX3_fullCost_2 rfl (lv_at hl 0 rfl) ?_
  refine va_get (D := D) (ci := 2) (v := .ref h0) (C := RX3) (T := TX3) (N := 9) hx hb hts (by decide +kernel) hown hK.1 hP 0 rfl rfl 0 (by decide) (hts (.fieldLink RX3 12 "HomeRounds$Setting" "plan" "LHomeRounds$Plan;") (by decide +kernel)) (fun _ h9 => h9) rfl dX3_fullCost_3 ?_
  refine zr_ci hP hS (va_runV (As := []) (rest := [.int (nI 0), .ref g0]) ⟨hx, hb, hml, hown, hts⟩ (c_X1_allBreaks l D E h0 h1 h2 h3 h4 h5 h6 N hm aw rv sd gm ca G P (hpl)) (cwV 0 hts gX3_fullCost_X1_allBreaks rfl rfl rfl (by decide +kernel) ⟨Nat.le_of_ble_eq_true rfl, Nat.le_of_ble_eq_true rfl⟩) (zr_V hK (hP.sub (ws' := [(h0, .inr (0, [.int (nI N), .ref h1, .ref h2, .ref h3, .ref h4, .ref h5, .ref h6])), (h1, .inl (E 0, 15, .inl hm)), (h2, .inl (E 0, 15, .inl aw)), (h3, .inl (E 0, 30, .inl rv)), (h4, .inl (E 0, 30, .inl sd)), (h5, .inl (E 0, 30, .inl gm)), (h6, .inl (E 0, 36, .inl ca))]) [1, 2, 3, 4, 5, 6, 7] rfl) (ci := 0) (q0 := 0) rfl rfl) rfl rfl hl.1 rfl (lv_room (Nat.le_of_ble_eq_true rfl)) dX3_fullCost_6 ⟨Nat.zero_le _, Nat.zero_le _⟩) (fun r_1 H locs hw_2 hP hS => ?_)
  subst hw_2
  refine zr_cf hP hS (va_runV (As := [.int (nI 0), .int (nI (zm_brs N P))]) (rest := []) ⟨hx, hb, hml, hown, hts⟩ (c_X3_weighed l D E g0 g1 g2 g3 g4 g5 g6 g7 sk h0 rt R 0 (zm_brs N P) (hrt) (by omega) (by omega)) (cwV 2 hts gX3_fullCost_X3_weighed rfl rfl rfl (by decide +kernel) ⟨Nat.le_of_ble_eq_true rfl, Nat.le_of_ble_eq_true rfl⟩) (zr_V hK (hP.sub (ws' := [(g0, .inr (2, [.ref h0, .ref g1, .ref g2, .ref g3, .ref g4, .int (nI sk), .ref g5, .ref g6, .ref g7])), (g4, .inl (E 0, 4, .inl rt))]) [0, 11] rfl) (ci := 2) (q0 := 0) rfl rfl) rfl rfl hl.1 rfl (lv_room (Nat.le_of_ble_eq_true rfl)) dX3_fullCost_9 ⟨Nat.zero_le _, Nat.zero_le _⟩) (fun r_3 H locs hw_4 hP hS => ?_)
  subst hw_4
  refine lv_fstore_n (lv' := [(1, .float (zf_part (R 0) (zm_brs N P))), (0, .ref g0)]) hx hb dX3_fullCost_12 rfl hl (by decide) rfl (fun ls hl => ?_)
  refine lv_fload_n hx hb dX3_fullCost_13 rfl (lv_at hl 0 rfl) ?_
  refine lv_aload_n hx hb dX3_fullCost_14 rfl (lv_at hl 1 rfl) ?_
  refine lv_iconst (v := nI 1) hx hb dX3_fullCost_15 (by rfl) ?_
  refine lv_aload_n hx hb dX3_fullCost_16 rfl (lv_at hl 1 rfl) ?_
  refine zr_ci hP hS (va_runV (As := []) (rest := [.int (nI 1), .ref g0, .float (zf_part (R 0) (zm_brs N P))]) ⟨hx, hb, hml, hown, hts⟩ (c_X3_violations l D E g0 g1 g2 g3 g4 g5 g6 g7 sk h0 h1 h2 h3 h4 h5 h6 N hm aw rv sd gm ca G P bz B (hpl) (hbz)) (cwV 0 hts gX3_fullCost_X3_violations rfl rfl rfl (by decide +kernel) ⟨Nat.le_of_ble_eq_true rfl, Nat.le_of_ble_eq_true rfl⟩) (zr_V hK (hP.sub (ws' := [(g0, .inr (2, [.ref h0, .ref g1, .ref g2, .ref g3, .ref g4, .int (nI sk), .ref g5, .ref g6, .ref g7])), (h0, .inr (0, [.int (nI N), .ref h1, .ref h2, .ref h3, .ref h4, .ref h5, .ref h6])), (h1, .inl (E 0, 15, .inl hm)), (h2, .inl (E 0, 15, .inl aw)), (h3, .inl (E 0, 30, .inl rv)), (h4, .inl (E 0, 30, .inl sd)), (h5, .inl (E 0, 30, .inl gm)), (h6, .inl (E 0, 36, .inl ca)), (g3, .inl (E 1, 30, .inl bz))]) [0, 1, 2, 3, 4, 5, 6, 7, 10] rfl) (ci := 2) (q0 := 0) rfl rfl) rfl rfl hl.1 rfl (lv_room (Nat.le_of_ble_eq_true rfl)) dX3_fullCost_17 ⟨Nat.zero_le _, Nat.zero_le _⟩) (fun r_5 H locs hw_6 hP hS => ?_)
  subst hw_6
  refine zr_cf hP hS (va_runV (As := [.int (nI 1), .int (nI (zm_vio N G B))]) (rest := [.float (zf_part (R 0) (zm_brs N P))]) ⟨hx, hb, hml, hown, hts⟩ (c_X3_weighed l D E g0 g1 g2 g3 g4 g5 g6 g7 sk h0 rt R 1 (zm_vio N G B) (hrt) (by omega) (by omega)) (cwV 2 hts gX3_fullCost_X3_weighed rfl rfl rfl (by decide +kernel) ⟨Nat.le_of_ble_eq_true rfl, Nat.le_of_ble_eq_true rfl⟩) (zr_V hK (hP.sub (ws' := [(g0, .inr (2, [.ref h0, .ref g1, .ref g2, .ref g3, .ref g4, .int (nI sk), .ref g5, .ref g6, .ref g7])), (g4, .inl (E 0, 4, .inl rt))]) [0, 11] rfl) (ci := 2) (q0 := 0) rfl rfl) rfl rfl hl.1 rfl (lv_room (Nat.le_of_ble_eq_true rfl)) dX3_fullCost_20 ⟨Nat.zero_le _, Nat.zero_le _⟩) (fun r_7 H locs hw_8 hP hS => ?_)
  subst hw_8
  refine lv_fadd hx hb dX3_fullCost_23 ((zf_cost1 hRR (by omega) (by omega)).nn) ?_
  refine lv_fstore_n (lv' := [(1, .float (FP.fadd (zf_part (R 0) (zm_brs N P)) (zf_part (R 1) (zm_vio N G B)))), (0, .ref g0)]) hx hb dX3_fullCost_24 rfl hl (by decide) rfl (fun ls hl => ?_)
  refine lv_fload_n hx hb dX3_fullCost_25 rfl (lv_at hl 0 rfl) ?_
  refine lv_aload_n hx hb dX3_fullCost_26 rfl (lv_at hl 1 rfl) ?_
  refine lv_iconst (v := nI 2) hx hb dX3_fullCost_27 (by rfl) ?_
  refine lv_aload_n hx hb dX3_fullCost_28 rfl (lv_at hl 1 rfl) ?_
  refine va_get (D := D) (ci := 2) (v := .ref h0) (C := RX3) (T := TX3) (N := 9) hx hb hts (by decide +kernel) hown hK.1 hP 0 rfl rfl 0 (by decide) (hts (.fieldLink RX3 12 "HomeRounds$Setting" "plan" "LHomeRounds$Plan;") (by decide +kernel)) (fun _ h9 => h9) rfl dX3_fullCost_29 ?_
  have hPc := hP.sub (ws' := [(h0, .inr (0, [.int (nI N), .ref h1, .ref h2, .ref h3, .ref h4, .ref h5, .ref h6])), (h1, .inl (E 0, 15, .inl hm)), (h2, .inl (E 0, 15, .inl aw)), (h3, .inl (E 0, 30, .inl rv)), (h4, .inl (E 0, 30, .inl sd)), (h5, .inl (E 0, 30, .inl gm)), (h6, .inl (E 0, 36, .inl ca))]) [1, 2, 3, 4, 5, 6, 7] rfl
  have hDc := hD.sub (ws' := [(h0, .inr (0, [.int (nI N), .ref h1, .ref h2, .ref h3, .ref h4, .ref h5, .ref h6])), (h1, .inl (E 0, 15, .inl hm)), (h2, .inl (E 0, 15, .inl aw)), (h3, .inl (E 0, 30, .inl rv)), (h4, .inl (E 0, 30, .inl sd)), (h5, .inl (E 0, 30, .inl gm)), (h6, .inl (E 0, 36, .inl ca))]) [1, 2, 3, 4, 5, 6, 7] (by decide +kernel) rfl
  have hAc := zw_AA (wc := [(h0, .inr (0, [.int (nI N), .ref h1, .ref h2, .ref h3, .ref h4, .ref h5, .ref h6])), (h1, .inl (E 0, 15, .inl hm)), (h2, .inl (E 0, 15, .inl aw)), (h3, .inl (E 0, 30, .inl rv)), (h4, .inl (E 0, 30, .inl sd)), (h5, .inl (E 0, 30, .inl gm)), (h6, .inl (E 0, 36, .inl ca))]) hD [1, 2, 3, 4, 5, 6, 7] rfl
  refine zw_ci hAc hS (va_runV (As := []) (rest := [.int (nI 2), .ref g0, .float (FP.fadd (zf_part (R 0) (zm_brs N P)) (zf_part (R 1) (zm_vio N G B)))]) ⟨hx, hb, hml, hown, hts⟩ (c_X1_carry l D E h0 h1 h2 h3 h4 h5 h6 N hm aw rv sd gm ca G P (hpl)) (cwV 0 hts gX3_fullCost_X1_carry rfl rfl rfl (by decide +kernel) ⟨Nat.le_of_ble_eq_true rfl, Nat.le_of_ble_eq_true rfl⟩) (zw_V hK hPc hDc (ci := 0) (q0 := 0) rfl rfl) rfl rfl hl.1 rfl (lv_room (Nat.le_of_ble_eq_true rfl)) dX3_fullCost_32 ⟨Nat.zero_le _, Nat.zero_le _⟩) (fun r_9 u_11 H locs hw_10 hP1 hD1 hk1 hS => ?_)
  obtain ⟨ca_12, rfl⟩ : ∃ z, z = u_11 := ⟨_, rfl⟩
  try dsimp only at hw_10 hP1 hD1
  obtain ⟨hP, hD⟩ := zw_join (wr := [(g0, .inr (2, [.ref h0, .ref g1, .ref g2, .ref g3, .ref g4, .int (nI sk), .ref g5, .ref g6, .ref g7])), (g1, .inl (E 0, 6, .inl xs)), (g2, .inl (E 0, 6, .inl ys)), (g3, .inl (E 1, 30, .inl bz)), (g4, .inl (E 0, 4, .inl rt))]) (w1 := [(h0, .inr (0, [.int (nI N), .ref h1, .ref h2, .ref h3, .ref h4, .ref h5, .ref h6])), (h1, .inl (E 0, 15, .inl hm)), (h2, .inl (E 0, 15, .inl aw)), (h3, .inl (E 0, 30, .inl rv)), (h4, .inl (E 0, 30, .inl sd)), (h5, .inl (E 0, 30, .inl gm)), (h6, .inl (E 0, 36, .inl ca_12))]) (ws' := [(g0, .inr (2, [.ref h0, .ref g1, .ref g2, .ref g3, .ref g4, .int (nI sk), .ref g5, .ref g6, .ref g7])), (h0, .inr (0, [.int (nI N), .ref h1, .ref h2, .ref h3, .ref h4, .ref h5, .ref h6])), (h1, .inl (E 0, 15, .inl hm)), (h2, .inl (E 0, 15, .inl aw)), (h3, .inl (E 0, 30, .inl rv)), (h4, .inl (E 0, 30, .inl sd)), (h5, .inl (E 0, 30, .inl gm)), (h6, .inl (E 0, 36, .inl ca_12)), (g1, .inl (E 0, 6, .inl xs)), (g2, .inl (E 0, 6, .inl ys)), (g3, .inl (E 1, 30, .inl bz)), (g4, .inl (E 0, 4, .inl rt))]) hP hD [1, 2, 3, 4, 5, 6, 7] [0, 8, 9, 10, 11] [0, 5, 6, 7, 8, 9, 10, 11, 1, 2, 3, 4] rfl rfl (by decide +kernel) (by decide +kernel) hAc hk1 hP1 hD1 (by decide +kernel) rfl
  clear hP1 hD1 hk1 hPc hDc hAc
  obtain ⟨rfl, hw_10⟩ := hw_10
  refine zr_cf hP hS (va_runV (As := [.int (nI 2), .int (nI (zm_car N G P))]) (rest := [.float (FP.fadd (zf_part (R 0) (zm_brs N P)) (zf_part (R 1) (zm_vio N G B)))]) ⟨hx, hb, hml, hown, hts⟩ (c_X3_weighed l D E g0 g1 g2 g3 g4 g5 g6 g7 sk h0 rt R 2 (zm_car N G P) (hrt) (by omega) (by omega)) (cwV 2 hts gX3_fullCost_X3_weighed rfl rfl rfl (by decide +kernel) ⟨Nat.le_of_ble_eq_true rfl, Nat.le_of_ble_eq_true rfl⟩) (zr_V hK (hP.sub (ws' := [(g0, .inr (2, [.ref h0, .ref g1, .ref g2, .ref g3, .ref g4, .int (nI sk), .ref g5, .ref g6, .ref g7])), (g4, .inl (E 0, 4, .inl rt))]) [0, 11] rfl) (ci := 2) (q0 := 0) rfl rfl) rfl rfl hl.1 rfl (lv_room (Nat.le_of_ble_eq_true rfl)) dX3_fullCost_35 ⟨Nat.zero_le _, Nat.zero_le _⟩) (fun r_13 H locs hw_14 hP hS => ?_)
  subst hw_14
  refine lv_fadd hx hb dX3_fullCost_38 ((zf_cost2 hRR (by omega) (by omega) (by omega)).nn) ?_
  refine lv_fstore_n (lv' := [(1, .float (FP.fadd (FP.fadd (zf_part (R 0) (zm_brs N P)) (zf_part (R 1) (zm_vio N G B))) (zf_part (R 2) (zm_car N G P)))), (0, .ref g0)]) hx hb dX3_fullCost_39 rfl hl (by decide) rfl (fun ls hl => ?_)
  refine lv_fload_n hx hb dX3_fullCost_40 rfl (lv_at hl 0 rfl) ?_
  refine lv_aload_n hx hb dX3_fullCost_41 rfl (lv_at hl 1 rfl) ?_
  refine lv_iconst (v := nI 3) hx hb dX3_fullCost_42 (by rfl) ?_
  refine lv_aload_n hx hb dX3_fullCost_43 rfl (lv_at hl 1 rfl) ?_
  refine zr_ci hP hS (va_runV (As := []) (rest := [.int (nI 3), .ref g0, .float (FP.fadd (FP.fadd (zf_part (R 0) (zm_brs N P)) (zf_part (R 1) (zm_vio N G B))) (zf_part (R 2) (zm_car N G P)))]) ⟨hx, hb, hml, hown, hts⟩ (c_X3_allMiles l D E g0 g1 g2 g3 g4 g5 g6 g7 sk h0 h1 h2 h3 h4 h5 h6 N hm aw rv sd gm ca_12 G P xs ys X Y (hpl) (hgr)) (cwV 0 hts gX3_fullCost_X3_allMiles rfl rfl rfl (by decide +kernel) ⟨Nat.le_of_ble_eq_true rfl, Nat.le_of_ble_eq_true rfl⟩) (zr_V hK (hP.sub (ws' := [(g0, .inr (2, [.ref h0, .ref g1, .ref g2, .ref g3, .ref g4, .int (nI sk), .ref g5, .ref g6, .ref g7])), (h0, .inr (0, [.int (nI N), .ref h1, .ref h2, .ref h3, .ref h4, .ref h5, .ref h6])), (h1, .inl (E 0, 15, .inl hm)), (h2, .inl (E 0, 15, .inl aw)), (h3, .inl (E 0, 30, .inl rv)), (h4, .inl (E 0, 30, .inl sd)), (h5, .inl (E 0, 30, .inl gm)), (h6, .inl (E 0, 36, .inl ca_12)), (g1, .inl (E 0, 6, .inl xs)), (g2, .inl (E 0, 6, .inl ys))]) [0, 1, 2, 3, 4, 5, 6, 7, 8, 9] rfl) (ci := 2) (q0 := 0) rfl rfl) rfl rfl hl.1 rfl (lv_room (Nat.le_of_ble_eq_true rfl)) dX3_fullCost_44 ⟨Nat.zero_le _, Nat.zero_le _⟩) (fun r_15 H locs hw_16 hP hS => ?_)
  subst hw_16
  refine zr_cf hP hS (va_runV (As := [.int (nI 3), .int (nI (zm_amiles N G P X Y))]) (rest := [.float (FP.fadd (FP.fadd (zf_part (R 0) (zm_brs N P)) (zf_part (R 1) (zm_vio N G B))) (zf_part (R 2) (zm_car N G P)))]) ⟨hx, hb, hml, hown, hts⟩ (c_X3_weighed l D E g0 g1 g2 g3 g4 g5 g6 g7 sk h0 rt R 3 (zm_amiles N G P X Y) (hrt) (by omega) (by omega)) (cwV 2 hts gX3_fullCost_X3_weighed rfl rfl rfl (by decide +kernel) ⟨Nat.le_of_ble_eq_true rfl, Nat.le_of_ble_eq_true rfl⟩) (zr_V hK (hP.sub (ws' := [(g0, .inr (2, [.ref h0, .ref g1, .ref g2, .ref g3, .ref g4, .int (nI sk), .ref g5, .ref g6, .ref g7])), (g4, .inl (E 0, 4, .inl rt))]) [0, 11] rfl) (ci := 2) (q0 := 0) rfl rfl) rfl rfl hl.1 rfl (lv_room (Nat.le_of_ble_eq_true rfl)) dX3_fullCost_47 ⟨Nat.zero_le _, Nat.zero_le _⟩) (fun r_17 H locs hw_18 hP hS => ?_)
  subst hw_18
  refine lv_fadd hx hb dX3_fullCost_50 ((zf_costF hRR (by omega) (by omega) (by omega) (by omega)).nn) ?_
  refine zr_tf (y := zf_cost R (zm_brs N P) (zm_vio N G B) (zm_car N G P) (zm_amiles N G P X Y)) (rfl) ?_
  refine lv_fstore_n (lv' := [(1, .float (zf_cost R (zm_brs N P) (zm_vio N G B) (zm_car N G P) (zm_amiles N G P X Y))), (0, .ref g0)]) hx hb dX3_fullCost_51 rfl hl (by decide) rfl (fun ls hl => ?_)
  refine lv_fload_n hx hb dX3_fullCost_52 rfl (lv_at hl 0 rfl) ?_
  subst hQ; subst hAe
  exact W.fret (v := zf_cost R (zm_brs N P) (zm_vio N G B) (zm_car N G P) (zm_amiles N G P X Y)) hx hb hr (fun tz htz hWz => ⟨⟨zf_cost R (zm_brs N P) (zm_vio N G B) (zm_car N G P) (zm_amiles N G P X Y), ca_12, rfl, ⟨rfl, trivial⟩, by rw [htz]; exact hP, hD⟩, hS.F htz⟩) hS.2.2 dX3_fullCost_53

set_option maxHeartbeats 4000000 in
set_option maxRecDepth 100000 in
theorem c_X8_wearOf (l : Launch) (D : va_G) (E : Nat → ClassId) (m0 : Nat) (w0 : Nat) (w1 : Nat) (w2 : Nat) (w3 : Nat) (w4 : Nat) (w5 : Nat) (w6 : Nat) (w7 : Nat) (w8 : Nat) (w9 : Nat) (ik : Int32) (tx : Nat) (he : Int32) (fa : Int32) (cl : Nat) (wv : Nat → Int32) (N : Nat) (G : Nat → Nat → Nat) (P : Nat → Nat → Nat) (X : Nat → Nat) (Y : Nat → Nat) (t : Nat) (r : Nat) (hvg : zv_g N G P wv) (hxy : zv_xy X Y wv) (ht : t < N) (hr0 : r < N - 1) : Met l yX8_wearOf wsX8_wearOf ({ frames := 4, cells := 0, slots := 0, locals := 90 }) (zr_P D E [.ref m0, .int (nI t), .int (nI r)] [(m0, .inr (6, [.ref w0, .ref w1, .ref w2, .int ik, .ref w3, .int (nI tx), .int he, .int fa, .ref w4, .ref w5, .int (nI cl), .ref w6, .ref w7, .ref w8, .ref w9])), (w0, .inl (E 0, 137, .inl wv))]) (zr_Qf (fun zv => zv = zf_wear (zm_way G P X Y t) (r + 1))) 0 0 (fun _ => False) := by
  refine Met.ofW (cc := cX8_wearOf) (maxL := 5) (ret := (some .float)) (by decide) rfl ?_
  intro p e s m args below meth c s₁ Bz hml hv
  obtain ⟨rfl, hP, hK⟩ := hv
  have hx := Bz.exec
  have hb := Bz.bytes
  have hr := Bz.returns
  have hts := atoms_spec (ws := wsX8_wearOf) Bz.pre
  have hown : s.vm.findClass RX8 = some m.cls := findClass_of_methodNamed Bz.named
  have hlocks := Bz.notSynchronized
  have hP : va_P D vwCl [(m0, .inr (6, [.ref w0, .ref w1, .ref w2, .int ik, .ref w3, .int (nI tx), .int he, .int fa, .ref w4, .ref w5, .int (nI cl), .ref w6, .ref w7, .ref w8, .ref w9])), (w0, .inl (E 0, 137, .inl wv))] s.heap := hP
  have hS : va_S (fun _ : Nat => False) s.heap s.heap [] := va_S.rf
  have hl := lv_entry ([.ref m0, .int (nI t), .int (nI r)]) (n := 5) (Nat.le_of_ble_eq_true rfl)
  rw [lg_entry_eq]
  generalize (lg_sl ([.ref m0, .int (nI t), .int (nI r)]) ++ List.replicate (5 - (lg_sl ([.ref m0, .int (nI t), .int (nI r)])).length) Slot.unset).toArray = ls at hl ⊢
  have hl : lv_has ls 5 [(0, .ref m0), (1, .int (nI t)), (2, .int (nI r))] := hl
  refine zr_nQ (fun Q hQ => ?_)
  have hok := hvg.1
  have hN := hok.1
  have hvn := hvg.2.1
  have hgr := zm_gr_of hxy
  refine lv_fconst0 hx hb dX8_wearOf_0 ?_
  refine lv_fstore_n (lv' := [(3, .float FP.fconst0), (0, .ref m0), (1, .int (nI t)), (2, .int (nI r))]) hx hb dX8_wearOf_1 rfl hl (by decide) rfl (fun ls hl => ?_)
  refine lv_iconst (v := nI 0) hx hb dX8_wearOf_2 (by rfl) ?_
  refine lv_istore (lv' := [(4, .int (nI 0)), (3, .float FP.fconst0), (0, .ref m0), (1, .int (nI t)), (2, .int (nI r))]) hx hb dX8_wearOf_3 hl (by decide) rfl (fun ls hl => ?_)
  suffices KL5 : ∀ (kz : Nat) (i : Nat) (H : Heap) (locs : List Loc) (ls : Array Slot), (r + 2 - i) < kz → (i ≤ r + 1) → va_P D vwCl [(m0, .inr (6, [.ref w0, .ref w1, .ref w2, .int ik, .ref w3, .int (nI tx), .int he, .int fa, .ref w4, .ref w5, .int (nI cl), .ref w6, .ref w7, .ref w8, .ref w9])), (w0, .inl (E 0, 137, .inl wv))] H → va_S (fun _ : Nat => False) s.heap H locs → lv_has ls 5 [(0, .ref m0), (1, .int (nI t)), (2, .int (nI r)), (3, .float (zf_wear (zm_way G P X Y t) i)), (4, .int (nI i))] → W p l e (headSpec wsX8_wearOf ({ frames := 4, cells := 0, slots := 0, locals := 90 })).room s m ([.ref m0, .int (nI t), .int (nI r)] : List Value).toArray below meth c H locs 0 0 Q (F0 m 5 ls []) from
    KL5 _ 0 _ _ ls (Nat.lt_succ_self _) (by omega) hP hS (lv_sub hl [2, 3, 4, 1, 0] rfl)
  clear hP hS hl
  intro kz
  induction kz with
  | zero => intro i H locs ls hkz; exact absurd hkz (Nat.not_lt_zero _)
  | succ kz ih5 =>
    intro i H locs ls hkz hi hP hS hl
    have hwl : ∀ j, j < i → zm_way G P X Y t j ≤ 198 := fun j hj => zm_way_le hok hgr ht (by omega)
    refine lv_iload hx hb dX8_wearOf_5 (lv_at hl 4 rfl) ?_
    refine lv_iload_n hx hb dX8_wearOf_7 rfl (lv_at hl 2 rfl) ?_
    refine lv_icmp_gt (tgt := 34) hx hb dX8_wearOf_8 (by decide) (fun cn_1 => ?_) (fun cn_1 => ?_)
    · skip
      have cn_1 : r < i := (nI_ltI (a := r) (b := i) (by omega) (by omega)).mp cn_1
      have hie : i = r + 1 := by omega
      refine lv_fload_n hx hb dX8_wearOf_34 rfl (lv_at hl 3 rfl) ?_
      subst hQ
      exact W.fret (v := zf_wear (zm_way G P X Y t) i) hx hb hr (fun tz htz hWz => ⟨⟨zf_wear (zm_way G P X Y t) i, (), rfl, by rw [hie], trivial⟩, hS.F htz⟩) hS.2.2 dX8_wearOf_35
    · skip
      have cn_1 : ¬ (r < i) := fun hz => cn_1 ((nI_ltI (a := r) (b := i) (by omega) (by omega)).mpr hz)
      have hii : i ≤ r := by omega
      have hwi := zm_way_le hok hgr (t := t) (r := i) ht (by omega)
      have hwl1 : ∀ j, j < i + 1 → zm_way G P X Y t j ≤ 198 := fun j hj => zm_way_le hok hgr ht (by omega)
      refine lv_fload_n hx hb dX8_wearOf_11 rfl (lv_at hl 3 rfl) ?_
      refine lv_ldcf (v := (1061158912)) hx hb hown (hts (.constantFloat RX8 239 (1061158912)) (by decide +kernel)) dX8_wearOf_12 ?_
      refine lv_fmul hx hb dX8_wearOf_14 ((zf_wear075 (by omega) hwl).nn) ?_
      refine lv_aload_n hx hb dX8_wearOf_15 rfl (lv_at hl 0 rfl) ?_
      refine lv_iload_n hx hb dX8_wearOf_16 rfl (lv_at hl 1 rfl) ?_
      refine lv_iload hx hb dX8_wearOf_17 (lv_at hl 4 rfl) ?_
      refine zr_ci hP hS (va_runV (As := [.int (nI t), .int (nI i)]) (rest := [.float (FP.fmul (zf_wear (zm_way G P X Y t) i) (1061158912))]) ⟨hx, hb, hml, hown, hts⟩ (c_X8_wayOf l D E m0 w0 w1 w2 w3 w4 w5 w6 w7 w8 w9 ik tx he fa cl wv N G P X Y t i (hvg) (hxy) (by omega) (by omega)) (cwV 2 hts gX8_wearOf_X8_wayOf rfl rfl rfl (by decide +kernel) ⟨Nat.le_of_ble_eq_true rfl, Nat.le_of_ble_eq_true rfl⟩) (zr_V hK (hP.sub (ws' := [(m0, .inr (6, [.ref w0, .ref w1, .ref w2, .int ik, .ref w3, .int (nI tx), .int he, .int fa, .ref w4, .ref w5, .int (nI cl), .ref w6, .ref w7, .ref w8, .ref w9])), (w0, .inl (E 0, 137, .inl wv))]) [0, 1] rfl) (ci := 6) (q0 := 0) rfl rfl) rfl rfl hl.1 rfl (lv_room (Nat.le_of_ble_eq_true rfl)) dX8_wearOf_19 ⟨Nat.zero_le _, Nat.zero_le _⟩) (fun r_2 H locs hw_3 hP hS => ?_)
      subst hw_3
      refine lv_i2f hx hb dX8_wearOf_22 ?_
      refine lv_ldcf (v := (1077936128)) hx hb hown (hts (.constantFloat RX8 240 (1077936128)) (by decide +kernel)) dX8_wearOf_23 ?_
      refine lv_fdiv hx hb dX8_wearOf_25 ((zf_way hwi).nn) ?_
      refine lv_fadd hx hb dX8_wearOf_26 ((zf_wearF (w := zm_way G P X Y t) (i + 1) (by omega) hwl1).nn) ?_
      refine zr_tf (y := zf_wear (zm_way G P X Y t) (i + 1)) (rfl) ?_
      refine lv_fstore_n (lv' := [(3, .float (zf_wear (zm_way G P X Y t) (i + 1))), (0, .ref m0), (1, .int (nI t)), (2, .int (nI r)), (4, .int (nI i))]) hx hb dX8_wearOf_27 rfl hl (by decide) rfl (fun ls hl => ?_)
      refine lv_iinc (v := nI (i + 1)) (lv' := [(4, .int (nI (i + 1))), (3, .float (zf_wear (zm_way G P X Y t) (i + 1))), (0, .ref m0), (1, .int (nI t)), (2, .int (nI r))]) hx hb dX8_wearOf_28 hl (k := 4) rfl (nI_add _ _) (by decide) rfl (fun ls hl => ?_)
      refine lv_goto (tgt := 5) hx hb dX8_wearOf_31 (by decide) ?_
      have hl : lv_has ls 5 [(0, .ref m0), (1, .int (nI t)), (2, .int (nI r)), (3, .float (zf_wear (zm_way G P X Y t) (i + 1))), (4, .int (nI (i + 1)))] := lv_sub hl [2, 3, 4, 1, 0] rfl
      exact ih5 (i + 1) H locs ls (by omega) (by omega) hP hS hl

set_option maxHeartbeats 4000000 in
set_option maxRecDepth 100000 in
theorem c_X8_mostWorn (l : Launch) (D : va_G) (E : Nat → ClassId) (m0 : Nat) (w0 : Nat) (w1 : Nat) (w2 : Nat) (w3 : Nat) (w4 : Nat) (w5 : Nat) (w6 : Nat) (w7 : Nat) (w8 : Nat) (w9 : Nat) (ik : Int32) (tx : Nat) (he : Int32) (fa : Int32) (cl : Nat) (wv : Nat → Int32) (N : Nat) (G : Nat → Nat → Nat) (P : Nat → Nat → Nat) (X : Nat → Nat) (Y : Nat → Nat) (hvg : zv_g N G P wv) (hxy : zv_xy X Y wv) : Met l yX8_mostWorn wsX8_mostWorn ({ frames := 5, cells := 0, slots := 0, locals := 114 }) (zr_P D E [.ref m0] [(m0, .inr (6, [.ref w0, .ref w1, .ref w2, .int ik, .ref w3, .int (nI tx), .int he, .int fa, .ref w4, .ref w5, .int (nI cl), .ref w6, .ref w7, .ref w8, .ref w9])), (w0, .inl (E 0, 137, .inl wv))]) (zr_Qi (fun zv => zv = nI (zf_most (fun t => zf_wear (zm_way G P X Y t) (N - 1)) (N - 1)))) 0 0 (fun _ => False) := by
  refine Met.ofW (cc := cX8_mostWorn) (maxL := 3) (ret := (some .int)) (by decide) rfl ?_
  intro p e s m args below meth c s₁ Bz hml hv
  obtain ⟨rfl, hP, hK⟩ := hv
  have hx := Bz.exec
  have hb := Bz.bytes
  have hr := Bz.returns
  have hts := atoms_spec (ws := wsX8_mostWorn) Bz.pre
  have hown : s.vm.findClass RX8 = some m.cls := findClass_of_methodNamed Bz.named
  have hlocks := Bz.notSynchronized
  have hP : va_P D vwCl [(m0, .inr (6, [.ref w0, .ref w1, .ref w2, .int ik, .ref w3, .int (nI tx), .int he, .int fa, .ref w4, .ref w5, .int (nI cl), .ref w6, .ref w7, .ref w8, .ref w9])), (w0, .inl (E 0, 137, .inl wv))] s.heap := hP
  have hS : va_S (fun _ : Nat => False) s.heap s.heap [] := va_S.rf
  have hl := lv_entry ([.ref m0]) (n := 3) (Nat.le_of_ble_eq_true rfl)
  rw [lg_entry_eq]
  generalize (lg_sl ([.ref m0]) ++ List.replicate (3 - (lg_sl ([.ref m0])).length) Slot.unset).toArray = ls at hl ⊢
  have hl : lv_has ls 3 [(0, .ref m0)] := hl
  refine zr_nQ (fun Q hQ => ?_)
  have hok := hvg.1
  have hN := hok.1
  have hvn := hvg.2.1
  have hgr := zm_gr_of hxy
  refine lv_iconst (v := nI 0) hx hb dX8_mostWorn_0 (by rfl) ?_
  refine lv_istore_n (lv' := [(1, .int (nI 0)), (0, .ref m0)]) hx hb dX8_mostWorn_1 rfl hl (by decide) rfl (fun ls hl => ?_)
  refine lv_iconst (v := nI 1) hx hb dX8_mostWorn_2 (by rfl) ?_
  refine lv_istore_n (lv' := [(2, .int (nI 1)), (1, .int (nI 0)), (0, .ref m0)]) hx hb dX8_mostWorn_3 rfl hl (by decide) rfl (fun ls hl => ?_)
  suffices KL4 : ∀ (kz : Nat) (i : Nat) (q : Nat) (H : Heap) (locs : List Loc) (ls : Array Slot), (N - i) < kz → (q = zf_most (fun t => zf_wear (zm_way G P X Y t) (N - 1)) i) → (i ≤ N - 1) → va_P D vwCl [(m0, .inr (6, [.ref w0, .ref w1, .ref w2, .int ik, .ref w3, .int (nI tx), .int he, .int fa, .ref w4, .ref w5, .int (nI cl), .ref w6, .ref w7, .ref w8, .ref w9])), (w0, .inl (E 0, 137, .inl wv))] H → va_S (fun _ : Nat => False) s.heap H locs → lv_has ls 3 [(0, .ref m0), (1, .int (nI q)), (2, .int (nI (i + 1)))] → W p l e (headSpec wsX8_mostWorn ({ frames := 5, cells := 0, slots := 0, locals := 114 })).room s m ([.ref m0] : List Value).toArray below meth c H locs 0 0 Q (F0 m 4 ls []) from
    KL4 _ 0 0 _ _ ls (Nat.lt_succ_self _) (rfl) (by omega) hP hS (lv_sub hl [2, 1, 0] rfl)
  clear hP hS hl
  intro kz
  induction kz with
  | zero => intro i q H locs ls hkz; exact absurd hkz (Nat.not_lt_zero _)
  | succ kz ih4 =>
    intro i q H locs ls hkz hq hi hP hS hl
    have hql := zf_most_le (fun t => zf_wear (zm_way G P X Y t) (N - 1)) i
    refine lv_iload_n hx hb dX8_mostWorn_4 rfl (lv_at hl 2 rfl) ?_
    refine lv_aload_n hx hb dX8_mostWorn_5 rfl (lv_at hl 0 rfl) ?_
    refine va_get (D := D) (ci := 6) (v := .ref w0) (C := RX8) (T := TX8) (N := 15) hx hb hts (by decide +kernel) hown hK.1 hP 0 rfl rfl 0 (by decide) (hts (.fieldLink RX8 11 "HomeRoundsModel" "w" "[I") (by decide +kernel)) (fun _ h9 => h9) rfl dX8_mostWorn_6 ?_
    refine lv_iconst (v := nI 0) hx hb dX8_mostWorn_9 (by rfl) ?_
    refine va_iald hx hb hK.1 hP 1 0 rfl rfl (vp_in_nI (by omega) (by omega)) dX8_mostWorn_10 ?_
    refine zr_ti (y := nI N) ((congrArg wv (nI_clamp (by omega))).trans (hvn)) ?_
    refine lv_icmp_ge (tgt := 52) hx hb dX8_mostWorn_11 (by decide) (fun cn_1 => ?_) (fun cn_1 => ?_)
    · skip
      have cn_1 : N ≤ i + 1 := (nI_leI (a := N) (b := i + 1) (by omega) (by omega)).mp cn_1
      have hie : i = N - 1 := by omega
      refine lv_iload_n hx hb dX8_mostWorn_52 rfl (lv_at hl 1 rfl) ?_
      subst hQ
      exact W.iret (v := nI q) hx hb hr (fun tz htz hWz => ⟨⟨nI q, (), rfl, by rw [hq, hie], trivial⟩, hS.F htz⟩) hS.2.2 dX8_mostWorn_53
    · skip
      have cn_1 : ¬ (N ≤ i + 1) := fun hz => cn_1 ((nI_leI (a := N) (b := i + 1) (by omega) (by omega)).mpr hz)
      refine lv_aload_n hx hb dX8_mostWorn_14 rfl (lv_at hl 0 rfl) ?_
      refine lv_iload_n hx hb dX8_mostWorn_15 rfl (lv_at hl 2 rfl) ?_
      refine lv_aload_n hx hb dX8_mostWorn_16 rfl (lv_at hl 0 rfl) ?_
      refine zr_ci hP hS (va_runV (As := []) (rest := [.int (nI (i + 1)), .ref m0]) ⟨hx, hb, hml, hown, hts⟩ (c_X8_rounds l D E m0 w0 w1 w2 w3 w4 w5 w6 w7 w8 w9 ik tx he fa cl wv N (hvn) (hN)) (cwV 0 hts gX8_mostWorn_X8_rounds rfl rfl rfl (by decide +kernel) ⟨Nat.le_of_ble_eq_true rfl, Nat.le_of_ble_eq_true rfl⟩) (zr_V hK (hP.sub (ws' := [(m0, .inr (6, [.ref w0, .ref w1, .ref w2, .int ik, .ref w3, .int (nI tx), .int he, .int fa, .ref w4, .ref w5, .int (nI cl), .ref w6, .ref w7, .ref w8, .ref w9])), (w0, .inl (E 0, 137, .inl wv))]) [0, 1] rfl) (ci := 6) (q0 := 0) rfl rfl) rfl rfl hl.1 rfl (lv_room (Nat.le_of_ble_eq_true rfl)) dX8_mostWorn_17 ⟨Nat.zero_le _, Nat.zero_le _⟩) (fun r_2 H locs hw_3 hP hS => ?_)
      subst hw_3
      refine lv_iconst (v := nI 1) hx hb dX8_mostWorn_20 (by rfl) ?_
      refine lv_isub hx hb dX8_mostWorn_21 ?_
      refine zr_ti (y := nI ((N - 1) - 1)) (pk_sub (by omega)) ?_
      refine zr_cf hP hS (va_runV (As := [.int (nI (i + 1)), .int (nI ((N - 1) - 1))]) (rest := []) ⟨hx, hb, hml, hown, hts⟩ (c_X8_wearOf l D E m0 w0 w1 w2 w3 w4 w5 w6 w7 w8 w9 ik tx he fa cl wv N G P X Y (i + 1) (N - 1 - 1) (hvg) (hxy) (by omega) (by omega)) (cwV 2 hts gX8_mostWorn_X8_wearOf rfl rfl rfl (by decide +kernel) ⟨Nat.le_of_ble_eq_true rfl, Nat.le_of_ble_eq_true rfl⟩) (zr_V hK (hP.sub (ws' := [(m0, .inr (6, [.ref w0, .ref w1, .ref w2, .int ik, .ref w3, .int (nI tx), .int he, .int fa, .ref w4, .ref w5, .int (nI cl), .ref w6, .ref w7, .ref w8, .ref w9])), (w0, .inl (E 0, 137, .inl wv))]) [0, 1] rfl) (ci := 6) (q0 := 0) rfl rfl) rfl rfl hl.1 rfl (lv_room (Nat.le_of_ble_eq_true rfl)) dX8_mostWorn_22 ⟨Nat.zero_le _, Nat.zero_le _⟩) (fun r_4 H locs hw_5 hP hS => ?_)
      subst hw_5
      refine zr_tf (y := zf_wear (zm_way G P X Y (i + 1)) (N - 1)) (by rw [show N - 1 - 1 + 1 = N - 1 from by omega]) ?_
      refine lv_aload_n hx hb dX8_mostWorn_25 rfl (lv_at hl 0 rfl) ?_
      refine lv_iload_n hx hb dX8_mostWorn_26 rfl (lv_at hl 1 rfl) ?_
      refine lv_aload_n hx hb dX8_mostWorn_27 rfl (lv_at hl 0 rfl) ?_
      refine zr_ci hP hS (va_runV (As := []) (rest := [.int (nI q), .ref m0, .float (zf_wear (zm_way G P X Y (i + 1)) (N - 1))]) ⟨hx, hb, hml, hown, hts⟩ (c_X8_rounds l D E m0 w0 w1 w2 w3 w4 w5 w6 w7 w8 w9 ik tx he fa cl wv N (hvn) (hN)) (cwV 0 hts gX8_mostWorn_X8_rounds rfl rfl rfl (by decide +kernel) ⟨Nat.le_of_ble_eq_true rfl, Nat.le_of_ble_eq_true rfl⟩) (zr_V hK (hP.sub (ws' := [(m0, .inr (6, [.ref w0, .ref w1, .ref w2, .int ik, .ref w3, .int (nI tx), .int he, .int fa, .ref w4, .ref w5, .int (nI cl), .ref w6, .ref w7, .ref w8, .ref w9])), (w0, .inl (E 0, 137, .inl wv))]) [0, 1] rfl) (ci := 6) (q0 := 0) rfl rfl) rfl rfl hl.1 rfl (lv_room (Nat.le_of_ble_eq_true rfl)) dX8_mostWorn_28 ⟨Nat.zero_le _, Nat.zero_le _⟩) (fun r_6 H locs hw_7 hP hS => ?_)
      subst hw_7
      refine lv_iconst (v := nI 1) hx hb dX8_mostWorn_31 (by rfl) ?_
      refine lv_isub hx hb dX8_mostWorn_32 ?_
      refine zr_ti (y := nI ((N - 1) - 1)) (pk_sub (by omega)) ?_
      refine zr_cf hP hS (va_runV (As := [.int (nI q), .int (nI ((N - 1) - 1))]) (rest := [.float (zf_wear (zm_way G P X Y (i + 1)) (N - 1))]) ⟨hx, hb, hml, hown, hts⟩ (c_X8_wearOf l D E m0 w0 w1 w2 w3 w4 w5 w6 w7 w8 w9 ik tx he fa cl wv N G P X Y q (N - 1 - 1) (hvg) (hxy) (by omega) (by omega)) (cwV 2 hts gX8_mostWorn_X8_wearOf rfl rfl rfl (by decide +kernel) ⟨Nat.le_of_ble_eq_true rfl, Nat.le_of_ble_eq_true rfl⟩) (zr_V hK (hP.sub (ws' := [(m0, .inr (6, [.ref w0, .ref w1, .ref w2, .int ik, .ref w3, .int (nI tx), .int he, .int fa, .ref w4, .ref w5, .int (nI cl), .ref w6, .ref w7, .ref w8, .ref w9])), (w0, .inl (E 0, 137, .inl wv))]) [0, 1] rfl) (ci := 6) (q0 := 0) rfl rfl) rfl rfl hl.1 rfl (lv_room (Nat.le_of_ble_eq_true rfl)) dX8_mostWorn_33 ⟨Nat.zero_le _, Nat.zero_le _⟩) (fun r_8 H locs hw_9 hP hS => ?_)
      subst hw_9
      refine zr_tf (y := zf_wear (zm_way G P X Y q) (N - 1)) (by rw [show N - 1 - 1 + 1 = N - 1 from by omega]) ?_
      refine lv_fcmp hx hb dX8_mostWorn_36 ?_
      refine lv_if_le (tgt := 44) hx hb dX8_mostWorn_37 (by decide) (fun cn_10 => ?_) (fun cn_10 => ?_)
      · skip
        have hbr := cn_10
        refine lv_iload_n hx hb dX8_mostWorn_44 rfl (lv_at hl 1 rfl) ?_
        refine lv_istore_n (lv' := [(1, .int (nI q)), (0, .ref m0), (2, .int (nI (i + 1)))]) hx hb dX8_mostWorn_45 rfl hl (by decide) rfl (fun ls hl => ?_)
        refine lv_iinc (v := nI (i + 1 + 1)) (lv' := [(2, .int (nI (i + 1 + 1))), (1, .int (nI q)), (0, .ref m0)]) hx hb dX8_mostWorn_46 hl (k := 2) rfl (nI_add _ _) (by decide) rfl (fun ls hl => ?_)
        refine lv_goto (tgt := 4) hx hb dX8_mostWorn_49 (by decide) ?_
        have hl : lv_has ls 3 [(0, .ref m0), (1, .int (nI q)), (2, .int (nI ((i + 1) + 1)))] := lv_sub hl [2, 1, 0] rfl
        exact ih4 (i + 1) q H locs ls (by omega) (by rw [zf_most]; first | (rw [if_pos (by rw [← hq]; exact hbr)]; exact hq) | (rw [if_neg (by rw [← hq]; exact hbr)])) (by omega) hP hS hl
      · skip
        have hbr := cn_10
        refine lv_iload_n hx hb dX8_mostWorn_40 rfl (lv_at hl 2 rfl) ?_
        refine lv_goto (tgt := 45) hx hb dX8_mostWorn_41 (by decide) ?_
        refine lv_istore_n (lv' := [(1, .int (nI (i + 1))), (0, .ref m0), (2, .int (nI (i + 1)))]) hx hb dX8_mostWorn_45 rfl hl (by decide) rfl (fun ls hl => ?_)
        refine lv_iinc (v := nI (i + 1 + 1)) (lv' := [(2, .int (nI (i + 1 + 1))), (1, .int (nI (i + 1))), (0, .ref m0)]) hx hb dX8_mostWorn_46 hl (k := 2) rfl (nI_add _ _) (by decide) rfl (fun ls hl => ?_)
        refine lv_goto (tgt := 4) hx hb dX8_mostWorn_49 (by decide) ?_
        have hl : lv_has ls 3 [(0, .ref m0), (1, .int (nI (i + 1))), (2, .int (nI ((i + 1) + 1)))] := lv_sub hl [2, 1, 0] rfl
        exact ih4 (i + 1) (i + 1) H locs ls (by omega) (by rw [zf_most]; first | (rw [if_pos (by rw [← hq]; exact hbr)]; exact hq) | (rw [if_neg (by rw [← hq]; exact hbr)])) (by omega) hP hS hl

set_option maxHeartbeats 4000000 in
set_option maxRecDepth 100000 in
theorem c_X8_part (l : Launch) (D : va_G) (E : Nat → ClassId) (m0 : Nat) (w0 : Nat) (w1 : Nat) (w2 : Nat) (w3 : Nat) (w4 : Nat) (w5 : Nat) (w6 : Nat) (w7 : Nat) (w8 : Nat) (w9 : Nat) (ik : Int32) (tx : Nat) (he : Int32) (fa : Int32) (cl : Nat) (wv : Nat → Int32) (R : Nat → Nat) (k : Nat) (n : Nat) (hvr : zv_r R wv) (hk4 : k < 4) (hn9 : n ≤ 8191) : Met l yX8_part wsX8_part ({ frames := 0, cells := 0, slots := 0, locals := 0 }) (zr_P D E [.ref m0, .int (nI k), .int (nI n)] [(m0, .inr (6, [.ref w0, .ref w1, .ref w2, .int ik, .ref w3, .int (nI tx), .int he, .int fa, .ref w4, .ref w5, .int (nI cl), .ref w6, .ref w7, .ref w8, .ref w9])), (w0, .inl (E 0, 137, .inl wv))]) (zr_Qf (fun zv => zv = zf_part (R k) n)) 0 0 (fun _ => False) := by
  refine Met.ofW (cc := cX8_part) (maxL := 3) (ret := (some .float)) (by decide) rfl ?_
  intro p e s m args below meth c s₁ Bz hml hv
  obtain ⟨rfl, hP, hK⟩ := hv
  have hx := Bz.exec
  have hb := Bz.bytes
  have hr := Bz.returns
  have hts := atoms_spec (ws := wsX8_part) Bz.pre
  have hown : s.vm.findClass RX8 = some m.cls := findClass_of_methodNamed Bz.named
  have hlocks := Bz.notSynchronized
  have hP : va_P D vwCl [(m0, .inr (6, [.ref w0, .ref w1, .ref w2, .int ik, .ref w3, .int (nI tx), .int he, .int fa, .ref w4, .ref w5, .int (nI cl), .ref w6, .ref w7, .ref w8, .ref w9])), (w0, .inl (E 0, 137, .inl wv))] s.heap := hP
  have hS : va_S (fun _ : Nat => False) s.heap s.heap [] := va_S.rf
  have hl := lv_entry ([.ref m0, .int (nI k), .int (nI n)]) (n := 3) (Nat.le_of_ble_eq_true rfl)
  rw [lg_entry_eq]
  generalize (lg_sl ([.ref m0, .int (nI k), .int (nI n)]) ++ List.replicate (3 - (lg_sl ([.ref m0, .int (nI k), .int (nI n)])).length) Slot.unset).toArray = ls at hl ⊢
  have hl : lv_has ls 3 [(0, .ref m0), (1, .int (nI k)), (2, .int (nI n))] := hl
  refine zr_nQ (fun Q hQ => ?_)
  obtain ⟨hR1, hR2⟩ := hvr k hk4
  refine lv_aload_n hx hb dX8_part_0 rfl (lv_at hl 0 rfl) ?_
  refine va_get (D := D) (ci := 6) (v := .ref w0) (C := RX8) (T := TX8) (N := 15) hx hb hts (by decide +kernel) hown hK.1 hP 0 rfl rfl 0 (by decide) (hts (.fieldLink RX8 11 "HomeRoundsModel" "w" "[I") (by decide +kernel)) (fun _ h9 => h9) rfl dX8_part_1 ?_
  refine lv_iconst (v := nI 5) hx hb dX8_part_4 (by rfl) ?_
  refine lv_iload_n hx hb dX8_part_5 rfl (lv_at hl 1 rfl) ?_
  refine lv_iadd hx hb dX8_part_6 ?_
  refine zr_ti (y := nI (5 + k)) (nI_add _ _) ?_
  refine va_iald hx hb hK.1 hP 1 0 rfl rfl (vp_in_nI (by omega) (by omega)) dX8_part_7 ?_
  refine zr_ti (y := nI (R k)) ((congrArg wv (nI_clamp (by omega))).trans (hR2)) ?_
  refine lv_i2f hx hb dX8_part_8 ?_
  refine lv_ldcf (v := (1092616192)) hx hb hown (hts (.constantFloat RX8 249 (1092616192)) (by decide +kernel)) dX8_part_9 ?_
  refine lv_fdiv hx hb dX8_part_11 ((zf_rate hR1).nn) ?_
  refine lv_iload_n hx hb dX8_part_12 rfl (lv_at hl 2 rfl) ?_
  refine lv_i2f hx hb dX8_part_13 ?_
  refine lv_fmul hx hb dX8_part_14 ((zf_partF hR1 hn9).nn) ?_
  refine zr_tf (y := zf_part (R k) n) (rfl) ?_
  subst hQ
  exact W.fret (v := zf_part (R k) n) hx hb hr (fun tz htz hWz => ⟨⟨zf_part (R k) n, (), rfl, rfl, trivial⟩, hS.F htz⟩) hS.2.2 dX8_part_15

set_option maxHeartbeats 4000000 in
set_option maxRecDepth 100000 in
theorem c_X8_costs (l : Launch) (D : va_G) (E : Nat → ClassId) (m0 : Nat) (w0 : Nat) (w1 : Nat) (w2 : Nat) (w3 : Nat) (w4 : Nat) (w5 : Nat) (w6 : Nat) (w7 : Nat) (w8 : Nat) (w9 : Nat) (ik : Int32) (tx : Nat) (he : Int32) (fa : Int32) (cl : Nat) (wv : Nat → Int32) (N : Nat) (G : Nat → Nat → Nat) (P : Nat → Nat → Nat) (X : Nat → Nat) (Y : Nat → Nat) (B : Nat → Nat → Nat) (R : Nat → Nat) (hvg : zv_g N G P wv) (hxy : zv_xy X Y wv) (hvb : zv_b B wv) (hvr : zv_r R wv) : Met l yX8_costs wsX8_costs ({ frames := 6, cells := 0, slots := 0, locals := 135 }) (zr_P D E [.ref m0] [(m0, .inr (6, [.ref w0, .ref w1, .ref w2, .int ik, .ref w3, .int (nI tx), .int he, .int fa, .ref w4, .ref w5, .int (nI cl), .ref w6, .ref w7, .ref w8, .ref w9])), (w0, .inl (E 0, 137, .inl wv))]) (zr_Qf (fun zv => zv = zf_cost R (zm_brs N P) (zm_vio N G B) (zm_car N G P) (zm_amiles N G P X Y))) 0 0 (fun _ => False) := by
  refine Met.ofW (cc := cX8_costs) (maxL := 2) (ret := (some .float)) (by decide) rfl ?_
  intro p e s m args below meth c s₁ Bz hml hv
  obtain ⟨rfl, hP, hK⟩ := hv
  have hx := Bz.exec
  have hb := Bz.bytes
  have hr := Bz.returns
  have hts := atoms_spec (ws := wsX8_costs) Bz.pre
  have hown : s.vm.findClass RX8 = some m.cls := findClass_of_methodNamed Bz.named
  have hlocks := Bz.notSynchronized
  have hP : va_P D vwCl [(m0, .inr (6, [.ref w0, .ref w1, .ref w2, .int ik, .ref w3, .int (nI tx), .int he, .int fa, .ref w4, .ref w5, .int (nI cl), .ref w6, .ref w7, .ref w8, .ref w9])), (w0, .inl (E 0, 137, .inl wv))] s.heap := hP
  have hS : va_S (fun _ : Nat => False) s.heap s.heap [] := va_S.rf
  have hl := lv_entry ([.ref m0]) (n := 2) (Nat.le_of_ble_eq_true rfl)
  rw [lg_entry_eq]
  generalize (lg_sl ([.ref m0]) ++ List.replicate (2 - (lg_sl ([.ref m0])).length) Slot.unset).toArray = ls at hl ⊢
  have hl : lv_has ls 2 [(0, .ref m0)] := hl
  refine zr_nQ (fun Q hQ => ?_)
  have hok := hvg.1
  have hN := hok.1
  have hvn := hvg.2.1
  have hgr := zm_gr_of hxy
  have q1 := zm_brs_le (P := P) hN
  have q2 := zm_vio_le5 (B := B) hok (fun t r h1 h2 => (hvb.1 t r h1 (by omega)).1)
  have q3 := zm_car_le (G := G) (P := P) hN
  have q4 := zm_amiles_le hok hgr
  have hRR : ∀ k, k < 4 → R k ≤ 99 := fun k hk => (hvr k hk).1
  refine lv_aload_n hx hb dX8_costs_0 rfl (lv_at hl 0 rfl) ?_
  refine lv_iconst (v := nI 0) hx hb dX8_costs_1 (by rfl) ?_
  refine lv_aload_n hx hb dX8_costs_2 rfl (lv_at hl 0 rfl) ?_
  refine zr_ci hP hS (va_runV (As := []) (rest := [.int (nI 0), .ref m0]) ⟨hx, hb, hml, hown, hts⟩ (c_X8_allBreaks l D E m0 w0 w1 w2 w3 w4 w5 w6 w7 w8 w9 ik tx he fa cl wv N G P (hvg)) (cwV 0 hts gX8_costs_X8_allBreaks rfl rfl rfl (by decide +kernel) ⟨Nat.le_of_ble_eq_true rfl, Nat.le_of_ble_eq_true rfl⟩) (zr_V hK (hP.sub (ws' := [(m0, .inr (6, [.ref w0, .ref w1, .ref w2, .int ik, .ref w3, .int (nI tx), .int he, .int fa, .ref w4, .ref w5, .int (nI cl), .ref w6, .ref w7, .ref w8, .ref w9])), (w0, .inl (E 0, 137, .inl wv))]) [0, 1] rfl) (ci := 6) (q0 := 0) rfl rfl) rfl rfl hl.1 rfl (lv_room (Nat.le_of_ble_eq_true rfl)) dX8_costs_3 ⟨Nat.zero_le _, Nat.zero_le _⟩) (fun r_1 H locs hw_2 hP hS => ?_)
  subst hw_2
  refine zr_cf hP hS (va_runV (As := [.int (nI 0), .int (nI (zm_brs N P))]) (rest := []) ⟨hx, hb, hml, hown, hts⟩ (c_X8_part l D E m0 w0 w1 w2 w3 w4 w5 w6 w7 w8 w9 ik tx he fa cl wv R 0 (zm_brs N P) (hvr) (by omega) (by omega)) (cwV 2 hts gX8_costs_X8_part rfl rfl rfl (by decide +kernel) ⟨Nat.le_of_ble_eq_true rfl, Nat.le_of_ble_eq_true rfl⟩) (zr_V hK (hP.sub (ws' := [(m0, .inr (6, [.ref w0, .ref w1, .ref w2, .int ik, .ref w3, .int (nI tx), .int he, .int fa, .ref w4, .ref w5, .int (nI cl), .ref w6, .ref w7, .ref w8, .ref w9])), (w0, .inl (E 0, 137, .inl wv))]) [0, 1] rfl) (ci := 6) (q0 := 0) rfl rfl) rfl rfl hl.1 rfl (lv_room (Nat.le_of_ble_eq_true rfl)) dX8_costs_6 ⟨Nat.zero_le _, Nat.zero_le _⟩) (fun r_3 H locs hw_4 hP hS => ?_)
  subst hw_4
  refine lv_fstore_n (lv' := [(1, .float (zf_part (R 0) (zm_brs N P))), (0, .ref m0)]) hx hb dX8_costs_9 rfl hl (by decide) rfl (fun ls hl => ?_)
  refine lv_fload_n hx hb dX8_costs_10 rfl (lv_at hl 0 rfl) ?_
  refine lv_aload_n hx hb dX8_costs_11 rfl (lv_at hl 1 rfl) ?_
  refine lv_iconst (v := nI 1) hx hb dX8_costs_12 (by rfl) ?_
  refine lv_aload_n hx hb dX8_costs_13 rfl (lv_at hl 1 rfl) ?_
  refine zr_ci hP hS (va_runV (As := []) (rest := [.int (nI 1), .ref m0, .float (zf_part (R 0) (zm_brs N P))]) ⟨hx, hb, hml, hown, hts⟩ (c_X8_violated l D E m0 w0 w1 w2 w3 w4 w5 w6 w7 w8 w9 ik tx he fa cl wv N G P B (hvg) (hvb)) (cwV 0 hts gX8_costs_X8_violated rfl rfl rfl (by decide +kernel) ⟨Nat.le_of_ble_eq_true rfl, Nat.le_of_ble_eq_true rfl⟩) (zr_V hK (hP.sub (ws' := [(m0, .inr (6, [.ref w0, .ref w1, .ref w2, .int ik, .ref w3, .int (nI tx), .int he, .int fa, .ref w4, .ref w5, .int (nI cl), .ref w6, .ref w7, .ref w8, .ref w9])), (w0, .inl (E 0, 137, .inl wv))]) [0, 1] rfl) (ci := 6) (q0 := 0) rfl rfl) rfl rfl hl.1 rfl (lv_room (Nat.le_of_ble_eq_true rfl)) dX8_costs_14 ⟨Nat.zero_le _, Nat.zero_le _⟩) (fun r_5 H locs hw_6 hP hS => ?_)
  subst hw_6
  refine zr_ti (y := nI (zm_vio N G B)) (congrArg nI (zm_vio_eq5 hok (fun t r h1 h2 => (hvb.1 t r h1 (by omega)).1))) ?_
  refine zr_cf hP hS (va_runV (As := [.int (nI 1), .int (nI (zm_vio N G B))]) (rest := [.float (zf_part (R 0) (zm_brs N P))]) ⟨hx, hb, hml, hown, hts⟩ (c_X8_part l D E m0 w0 w1 w2 w3 w4 w5 w6 w7 w8 w9 ik tx he fa cl wv R 1 (zm_vio N G B) (hvr) (by omega) (by omega)) (cwV 2 hts gX8_costs_X8_part rfl rfl rfl (by decide +kernel) ⟨Nat.le_of_ble_eq_true rfl, Nat.le_of_ble_eq_true rfl⟩) (zr_V hK (hP.sub (ws' := [(m0, .inr (6, [.ref w0, .ref w1, .ref w2, .int ik, .ref w3, .int (nI tx), .int he, .int fa, .ref w4, .ref w5, .int (nI cl), .ref w6, .ref w7, .ref w8, .ref w9])), (w0, .inl (E 0, 137, .inl wv))]) [0, 1] rfl) (ci := 6) (q0 := 0) rfl rfl) rfl rfl hl.1 rfl (lv_room (Nat.le_of_ble_eq_true rfl)) dX8_costs_17 ⟨Nat.zero_le _, Nat.zero_le _⟩) (fun r_7 H locs hw_8 hP hS => ?_)
  subst hw_8
  refine lv_fadd hx hb dX8_costs_20 ((zf_cost1 hRR (by omega) (by omega)).nn) ?_
  refine lv_fstore_n (lv' := [(1, .float (FP.fadd (zf_part (R 0) (zm_brs N P)) (zf_part (R 1) (zm_vio N G B)))), (0, .ref m0)]) hx hb dX8_costs_21 rfl hl (by decide) rfl (fun ls hl => ?_)
  refine lv_fload_n hx hb dX8_costs_22 rfl (lv_at hl 0 rfl) ?_
  refine lv_aload_n hx hb dX8_costs_23 rfl (lv_at hl 1 rfl) ?_
  refine lv_iconst (v := nI 2) hx hb dX8_costs_24 (by rfl) ?_
  refine lv_aload_n hx hb dX8_costs_25 rfl (lv_at hl 1 rfl) ?_
  refine zr_ci hP hS (va_runV (As := []) (rest := [.int (nI 2), .ref m0, .float (FP.fadd (zf_part (R 0) (zm_brs N P)) (zf_part (R 1) (zm_vio N G B)))]) ⟨hx, hb, hml, hown, hts⟩ (c_X8_carry l D E m0 w0 w1 w2 w3 w4 w5 w6 w7 w8 w9 ik tx he fa cl wv N G P (hvg)) (cwV 0 hts gX8_costs_X8_carry rfl rfl rfl (by decide +kernel) ⟨Nat.le_of_ble_eq_true rfl, Nat.le_of_ble_eq_true rfl⟩) (zr_V hK (hP.sub (ws' := [(m0, .inr (6, [.ref w0, .ref w1, .ref w2, .int ik, .ref w3, .int (nI tx), .int he, .int fa, .ref w4, .ref w5, .int (nI cl), .ref w6, .ref w7, .ref w8, .ref w9])), (w0, .inl (E 0, 137, .inl wv))]) [0, 1] rfl) (ci := 6) (q0 := 0) rfl rfl) rfl rfl hl.1 rfl (lv_room (Nat.le_of_ble_eq_true rfl)) dX8_costs_26 ⟨Nat.zero_le _, Nat.zero_le _⟩) (fun r_9 H locs hw_10 hP hS => ?_)
  subst hw_10
  refine zr_cf hP hS (va_runV (As := [.int (nI 2), .int (nI (zm_car N G P))]) (rest := [.float (FP.fadd (zf_part (R 0) (zm_brs N P)) (zf_part (R 1) (zm_vio N G B)))]) ⟨hx, hb, hml, hown, hts⟩ (c_X8_part l D E m0 w0 w1 w2 w3 w4 w5 w6 w7 w8 w9 ik tx he fa cl wv R 2 (zm_car N G P) (hvr) (by omega) (by omega)) (cwV 2 hts gX8_costs_X8_part rfl rfl rfl (by decide +kernel) ⟨Nat.le_of_ble_eq_true rfl, Nat.le_of_ble_eq_true rfl⟩) (zr_V hK (hP.sub (ws' := [(m0, .inr (6, [.ref w0, .ref w1, .ref w2, .int ik, .ref w3, .int (nI tx), .int he, .int fa, .ref w4, .ref w5, .int (nI cl), .ref w6, .ref w7, .ref w8, .ref w9])), (w0, .inl (E 0, 137, .inl wv))]) [0, 1] rfl) (ci := 6) (q0 := 0) rfl rfl) rfl rfl hl.1 rfl (lv_room (Nat.le_of_ble_eq_true rfl)) dX8_costs_29 ⟨Nat.zero_le _, Nat.zero_le _⟩) (fun r_11 H locs hw_12 hP hS => ?_)
  subst hw_12
  refine lv_fadd hx hb dX8_costs_32 ((zf_cost2 hRR (by omega) (by omega) (by omega)).nn) ?_
  refine lv_fstore_n (lv' := [(1, .float (FP.fadd (FP.fadd (zf_part (R 0) (zm_brs N P)) (zf_part (R 1) (zm_vio N G B))) (zf_part (R 2) (zm_car N G P)))), (0, .ref m0)]) hx hb dX8_costs_33 rfl hl (by decide) rfl (fun ls hl => ?_)
  refine lv_fload_n hx hb dX8_costs_34 rfl (lv_at hl 0 rfl) ?_
  refine lv_aload_n hx hb dX8_costs_35 rfl (lv_at hl 1 rfl) ?_
  refine lv_iconst (v := nI 3) hx hb dX8_costs_36 (by rfl) ?_
  refine lv_aload_n hx hb dX8_costs_37 rfl (lv_at hl 1 rfl) ?_
  refine zr_ci hP hS (va_runV (As := []) (rest := [.int (nI 3), .ref m0, .float (FP.fadd (FP.fadd (zf_part (R 0) (zm_brs N P)) (zf_part (R 1) (zm_vio N G B))) (zf_part (R 2) (zm_car N G P)))]) ⟨hx, hb, hml, hown, hts⟩ (c_X8_allMiles l D E m0 w0 w1 w2 w3 w4 w5 w6 w7 w8 w9 ik tx he fa cl wv N G P X Y (hvg) (hxy)) (cwV 0 hts gX8_costs_X8_allMiles rfl rfl rfl (by decide +kernel) ⟨Nat.le_of_ble_eq_true rfl, Nat.le_of_ble_eq_true rfl⟩) (zr_V hK (hP.sub (ws' := [(m0, .inr (6, [.ref w0, .ref w1, .ref w2, .int ik, .ref w3, .int (nI tx), .int he, .int fa, .ref w4, .ref w5, .int (nI cl), .ref w6, .ref w7, .ref w8, .ref w9])), (w0, .inl (E 0, 137, .inl wv))]) [0, 1] rfl) (ci := 6) (q0 := 0) rfl rfl) rfl rfl hl.1 rfl (lv_room (Nat.le_of_ble_eq_true rfl)) dX8_costs_38 ⟨Nat.zero_le _, Nat.zero_le _⟩) (fun r_13 H locs hw_14 hP hS => ?_)
  subst hw_14
  refine zr_cf hP hS (va_runV (As := [.int (nI 3), .int (nI (zm_amiles N G P X Y))]) (rest := [.float (FP.fadd (FP.fadd (zf_part (R 0) (zm_brs N P)) (zf_part (R 1) (zm_vio N G B))) (zf_part (R 2) (zm_car N G P)))]) ⟨hx, hb, hml, hown, hts⟩ (c_X8_part l D E m0 w0 w1 w2 w3 w4 w5 w6 w7 w8 w9 ik tx he fa cl wv R 3 (zm_amiles N G P X Y) (hvr) (by omega) (by omega)) (cwV 2 hts gX8_costs_X8_part rfl rfl rfl (by decide +kernel) ⟨Nat.le_of_ble_eq_true rfl, Nat.le_of_ble_eq_true rfl⟩) (zr_V hK (hP.sub (ws' := [(m0, .inr (6, [.ref w0, .ref w1, .ref w2, .int ik, .ref w3, .int (nI tx), .int he, .int fa, .ref w4, .ref w5, .int (nI cl), .ref w6, .ref w7, .ref w8, .ref w9])), (w0, .inl (E 0, 137, .inl wv))]) [0, 1] rfl) (ci := 6) (q0 := 0) rfl rfl) rfl rfl hl.1 rfl (lv_room (Nat.le_of_ble_eq_true rfl)) dX8_costs_41 ⟨Nat.zero_le _, Nat.zero_le _⟩) (fun r_15 H locs hw_16 hP hS => ?_)
  subst hw_16
  refine lv_fadd hx hb dX8_costs_44 ((zf_costF hRR (by omega) (by omega) (by omega) (by omega)).nn) ?_
  refine zr_tf (y := zf_cost R (zm_brs N P) (zm_vio N G B) (zm_car N G P) (zm_amiles N G P X Y)) (rfl) ?_
  subst hQ
  exact W.fret (v := zf_cost R (zm_brs N P) (zm_vio N G B) (zm_car N G P) (zm_amiles N G P X Y)) hx hb hr (fun tz htz hWz => ⟨⟨zf_cost R (zm_brs N P) (zm_vio N G B) (zm_car N G P) (zm_amiles N G P X Y), (), rfl, rfl, trivial⟩, hS.F htz⟩) hS.2.2 dX8_costs_45

