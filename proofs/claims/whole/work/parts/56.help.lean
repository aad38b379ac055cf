set_option maxHeartbeats 4000000 in
set_option maxRecDepth 100000 in
theorem c_X3_spreadOfWear (l : Launch) (D : va_G) (E : Nat → ClassId) (g0 : Nat) (g1 : Nat) (g2 : Nat) (g3 : Nat) (g4 : Nat) (g5 : Nat) (g6 : Nat) (g7 : Nat) (sk : Nat) (h0 : Nat) (h1 : Nat) (h2 : Nat) (h3 : Nat) (h4 : Nat) (h5 : Nat) (h6 : Nat) (N : Nat) (hm : Nat → Int32) (aw : Nat → Int32) (rv : Nat → Int32) (sd : Nat → Int32) (gm : Nat → Int32) (ca : Nat → Int32) (G : Nat → Nat → Nat) (P : Nat → Nat → Nat) (xs : Nat → Int32) (ys : Nat → Int32) (X : Nat → Nat) (Y : Nat → Nat) (hpl : zm_pl N G P hm aw rv sd gm) (hgr : zm_gr X Y xs ys) : Met l yX3_spreadOfWear wsX3_spreadOfWear ({ frames := 5, cells := 0, slots := 0, locals := 112 }) (zr_P D E [.ref g0] [(g0, .inr (2, [.ref h0, .ref g1, .ref g2, .ref g3, .ref g4, .int (nI sk), .ref g5, .ref g6, .ref g7])), (h0, .inr (0, [.int (nI N), .ref h1, .ref h2, .ref h3, .ref h4, .ref h5, .ref h6])), (h1, .inl (E 0, 15, .inl hm)), (h2, .inl (E 0, 15, .inl aw)), (h3, .inl (E 0, 30, .inl rv)), (h4, .inl (E 0, 30, .inl sd)), (h5, .inl (E 0, 30, .inl gm)), (h6, .inl (E 0, 36, .inl ca)), (g1, .inl (E 0, 6, .inl xs)), (g2, .inl (E 0, 6, .inl ys))]) (zr_Qd (fun zv => zv = zf_spread (fun t => zf_wear (zm_way G P X Y t) (N - 1)) N)) 0 0 (fun _ => False) := by
  refine Met.ofW (cc := cX3_spreadOfWear) (maxL := 12) (ret := (some .double)) (by decide) rfl ?_
  intro p e s m args below meth c s₁ Bz hml hv
  obtain ⟨rfl, hP, hK⟩ := hv
  have hx := Bz.exec
  have hb := Bz.bytes
  have hr := Bz.returns
  have hts := atoms_spec (ws := wsX3_spreadOfWear) Bz.pre
  have hown : s.vm.findClass RX3 = some m.cls := findClass_of_methodNamed Bz.named
  have hlocks := Bz.notSynchronized
  have hP : va_P D vwCl [(g0, .inr (2, [.ref h0, .ref g1, .ref g2, .ref g3, .ref g4, .int (nI sk), .ref g5, .ref g6, .ref g7])), (h0, .inr (0, [.int (nI N), .ref h1, .ref h2, .ref h3, .ref h4, .ref h5, .ref h6])), (h1, .inl (E 0, 15, .inl hm)), (h2, .inl (E 0, 15, .inl aw)), (h3, .inl (E 0, 30, .inl rv)), (h4, .inl (E 0, 30, .inl sd)), (h5, .inl (E 0, 30, .inl gm)), (h6, .inl (E 0, 36, .inl ca)), (g1, .inl (E 0, 6, .inl xs)), (g2, .inl (E 0, 6, .inl ys))] s.heap := hP
  have hS : va_S (fun _ : Nat => False) s.heap s.heap [] := va_S.rf
  have hl := lv_entry ([.ref g0]) (n := 12) (Nat.le_of_ble_eq_true rfl)
  rw [lg_entry_eq]
  generalize (lg_sl ([.ref g0]) ++ List.replicate (12 - (lg_sl ([.ref g0])).length) Slot.unset).toArray = ls at hl ⊢
  have hl : lv_has ls 12 [(0, .ref g0)] := hl
  refine zr_nQ (fun Q hQ => ?_)
  have hN := hpl.1.1
  have hok := hpl.1
  have hu : ∀ j, j < N → zf_F 120 150 ((fun t => zf_wear (zm_way G P X Y t) (N - 1)) j) := fun j hj => (zf_wearF (w := zm_way G P X Y j) (N - 1) (by omega) (fun r hr => zm_way_le hok hgr (t := j) (r := r) hj (by omega))).mono (by omega) (by omega)
  refine lv_aload_n hx hb dX3_spreadOfWear_0 rfl (lv_at hl 0 rfl) ?_
  refine va_get (D := D) (ci := 2) (v := .ref h0) (C := RX3) (T := TX3) (N := 9) hx hb hts (by decide +kernel) hown hK.1 hP 0 rfl rfl 0 (by decide) (hts (.fieldLink RX3 12 "HomeRounds$Setting" "plan" "LHomeRounds$Plan;") (by decide +kernel)) (fun _ h9 => h9) rfl dX3_spreadOfWear_1 ?_
  refine va_get (D := D) (ci := 0) (v := .int (nI N)) (C := RX1) (T := TX1) (N := 7) hx hb hts (by decide +kernel) hown hK.1 hP 1 rfl rfl 0 (by decide) (hts (.fieldLink RX3 105 "HomeRounds$Plan" "n" "I") (by decide +kernel)) (fun _ h9 => h9) rfl dX3_spreadOfWear_4 ?_
  refine lv_i2d hx hb dX3_spreadOfWear_7 ?_
  refine lv_dstore_n (lv' := [(1, .double (FP.i2d (nI N))), (0, .ref g0)]) hx hb dX3_spreadOfWear_8 rfl hl (by decide) rfl (fun ls hl => ?_)
  refine lv_dconst0 hx hb dX3_spreadOfWear_9 ?_
  refine lv_dstore_n (lv' := [(3, .double FP.dconst0), (1, .double (FP.i2d (nI N))), (0, .ref g0)]) hx hb dX3_spreadOfWear_10 rfl hl (by decide) rfl (fun ls hl => ?_)
  refine lv_iconst (v := nI 0) hx hb dX3_spreadOfWear_11 (by rfl) ?_
  refine lv_istore (lv' := [(5, .int (nI 0)), (3, .double FP.dconst0), (1, .double (FP.i2d (nI N))), (0, .ref g0)]) hx hb dX3_spreadOfWear_12 hl (by decide) rfl (fun ls hl => ?_)
  suffices KL14 : ∀ (kz : Nat) (i : Nat) (H : Heap) (locs : List Loc) (ls : Array Slot), (N - i) < kz → (i ≤ N) → va_P D vwCl [(g0, .inr (2, [.ref h0, .ref g1, .ref g2, .ref g3, .ref g4, .int (nI sk), .ref g5, .ref g6, .ref g7])), (h0, .inr (0, [.int (nI N), .ref h1, .ref h2, .ref h3, .ref h4, .ref h5, .ref h6])), (h1, .inl (E 0, 15, .inl hm)), (h2, .inl (E 0, 15, .inl aw)), (h3, .inl (E 0, 30, .inl rv)), (h4, .inl (E 0, 30, .inl sd)), (h5, .inl (E 0, 30, .inl gm)), (h6, .inl (E 0, 36, .inl ca)), (g1, .inl (E 0, 6, .inl xs)), (g2, .inl (E 0, 6, .inl ys))] H → va_S (fun _ : Nat => False) s.heap H locs → lv_has ls 12 [(0, .ref g0), (1, .double (FP.i2d (nI N))), (3, .double (zf_ds (fun t => zf_wear (zm_way G P X Y t) (N - 1)) i)), (5, .int (nI i))] → W p l e (headSpec wsX3_spreadOfWear ({ frames := 5, cells := 0, slots := 0, locals := 112 })).room s m ([.ref g0] : List Value).toArray below meth c H locs 0 0 Q (F0 m 14 ls []) from
    KL14 _ 0 _ _ ls (Nat.lt_succ_self _) (by omega) hP hS (lv_sub hl [3, 2, 1, 0] rfl)
  clear hP hS hl
  intro kz
  induction kz with
  | zero => intro i H locs ls hkz; exact absurd hkz (Nat.not_lt_zero _)
  | succ kz ih14 =>
    intro i H locs ls hkz hi hP hS hl
    refine lv_iload hx hb dX3_spreadOfWear_14 (lv_at hl 3 rfl) ?_
    refine lv_aload_n hx hb dX3_spreadOfWear_16 rfl (lv_at hl 0 rfl) ?_
    refine va_get (D := D) (ci := 2) (v := .ref h0) (C := RX3) (T := TX3) (N := 9) hx hb hts (by decide +kernel) hown hK.1 hP 0 rfl rfl 0 (by decide) (hts (.fieldLink RX3 12 "HomeRounds$Setting" "plan" "LHomeRounds$Plan;") (by decide +kernel)) (fun _ h9 => h9) rfl dX3_spreadOfWear_17 ?_
    refine va_get (D := D) (ci := 0) (v := .int (nI N)) (C := RX1) (T := TX1) (N := 7) hx hb hts (by decide +kernel) hown hK.1 hP 1 rfl rfl 0 (by decide) (hts (.fieldLink RX3 105 "HomeRounds$Plan" "n" "I") (by decide +kernel)) (fun _ h9 => h9) rfl dX3_spreadOfWear_20 ?_
    refine lv_icmp_ge (tgt := 42) hx hb dX3_spreadOfWear_23 (by decide) (fun cn_1 => ?_) (fun cn_1 => ?_)
    · skip
      have cn_1 : N ≤ i := (nI_leI (a := N) (b := i) (by omega) (by omega)).mp cn_1
      have hie : i = N := by omega
      refine lv_dload_n hx hb dX3_spreadOfWear_42 rfl (lv_at hl 2 rfl) ?_
      refine lv_dload_n hx hb dX3_spreadOfWear_43 rfl (lv_at hl 1 rfl) ?_
      refine lv_ddiv hx hb dX3_spreadOfWear_44 (by rw [hie]; exact (zf_meanD (u := (fun t => zf_wear (zm_way G P X Y t) (N - 1))) hN hu).nn) ?_
      refine zr_td (y := zf_mean (fun t => zf_wear (zm_way G P X Y t) (N - 1)) N) (by rw [hie]; rfl) ?_
      refine lv_dstore (lv' := [(5, .double (zf_mean (fun t => zf_wear (zm_way G P X Y t) (N - 1)) N)), (0, .ref g0), (1, .double (FP.i2d (nI N))), (3, .double (zf_ds (fun t => zf_wear (zm_way G P X Y t) (N - 1)) i))]) hx hb dX3_spreadOfWear_45 hl (by decide) rfl (fun ls hl => ?_)
      refine lv_dconst0 hx hb dX3_spreadOfWear_47 ?_
      refine lv_dstore (lv' := [(7, .double FP.dconst0), (5, .double (zf_mean (fun t => zf_wear (zm_way G P X Y t) (N - 1)) N)), (0, .ref g0), (1, .double (FP.i2d (nI N))), (3, .double (zf_ds (fun t => zf_wear (zm_way G P X Y t) (N - 1)) i))]) hx hb dX3_spreadOfWear_48 hl (by decide) rfl (fun ls hl => ?_)
      refine lv_iconst (v := nI 0) hx hb dX3_spreadOfWear_50 (by rfl) ?_
      refine lv_istore (lv' := [(9, .int (nI 0)), (7, .double FP.dconst0), (5, .double (zf_mean (fun t => zf_wear (zm_way G P X Y t) (N - 1)) N)), (0, .ref g0), (1, .double (FP.i2d (nI N))), (3, .double (zf_ds (fun t => zf_wear (zm_way G P X Y t) (N - 1)) i))]) hx hb dX3_spreadOfWear_51 hl (by decide) rfl (fun ls hl => ?_)
      suffices KL53 : ∀ (kz : Nat) (k : Nat) (H : Heap) (locs : List Loc) (ls : Array Slot), (N - k) < kz → (k ≤ N) → va_P D vwCl [(g0, .inr (2, [.ref h0, .ref g1, .ref g2, .ref g3, .ref g4, .int (nI sk), .ref g5, .ref g6, .ref g7])), (h0, .inr (0, [.int (nI N), .ref h1, .ref h2, .ref h3, .ref h4, .ref h5, .ref h6])), (h1, .inl (E 0, 15, .inl hm)), (h2, .inl (E 0, 15, .inl aw)), (h3, .inl (E 0, 30, .inl rv)), (h4, .inl (E 0, 30, .inl sd)), (h5, .inl (E 0, 30, .inl gm)), (h6, .inl (E 0, 36, .inl ca)), (g1, .inl (E 0, 6, .inl xs)), (g2, .inl (E 0, 6, .inl ys))] H → va_S (fun _ : Nat => False) s.heap H locs → lv_has ls 12 [(0, .ref g0), (1, .double (FP.i2d (nI N))), (5, .double (zf_mean (fun t => zf_wear (zm_way G P X Y t) (N - 1)) N)), (7, .double (zf_dv (fun t => zf_wear (zm_way G P X Y t) (N - 1)) N k)), (9, .int (nI k))] → W p l e (headSpec wsX3_spreadOfWear ({ frames := 5, cells := 0, slots := 0, locals := 112 })).room s m ([.ref g0] : List Value).toArray below meth c H locs 0 0 Q (F0 m 53 ls []) from
        KL53 _ 0 _ _ ls (Nat.lt_succ_self _) (by omega) hP hS (lv_sub hl [3, 4, 2, 1, 0] rfl)
      clear hP hS hl
      intro kz
      induction kz with
      | zero => intro k H locs ls hkz; exact absurd hkz (Nat.not_lt_zero _)
      | succ kz ih53 =>
        intro k H locs ls hkz hk hP hS hl
        refine lv_iload hx hb dX3_spreadOfWear_53 (lv_at hl 4 rfl) ?_
        refine lv_aload_n hx hb dX3_spreadOfWear_55 rfl (lv_at hl 0 rfl) ?_
        refine va_get (D := D) (ci := 2) (v := .ref h0) (C := RX3) (T := TX3) (N := 9) hx hb hts (by decide +kernel) hown hK.1 hP 0 rfl rfl 0 (by decide) (hts (.fieldLink RX3 12 "HomeRounds$Setting" "plan" "LHomeRounds$Plan;") (by decide +kernel)) (fun _ h9 => h9) rfl dX3_spreadOfWear_56 ?_
        refine va_get (D := D) (ci := 0) (v := .int (nI N)) (C := RX1) (T := TX1) (N := 7) hx hb hts (by decide +kernel) hown hK.1 hP 1 rfl rfl 0 (by decide) (hts (.fieldLink RX3 105 "HomeRounds$Plan" "n" "I") (by decide +kernel)) (fun _ h9 => h9) rfl dX3_spreadOfWear_59 ?_
        refine lv_icmp_ge (tgt := 93) hx hb dX3_spreadOfWear_62 (by decide) (fun cn_2 => ?_) (fun cn_2 => ?_)
        · skip
          have cn_2 : N ≤ k := (nI_leI (a := N) (b := k) (by omega) (by omega)).mp cn_2
          have hke : k = N := by omega
          refine lv_dload hx hb dX3_spreadOfWear_93 (lv_at hl 3 rfl) ?_
          refine lv_dload_n hx hb dX3_spreadOfWear_95 rfl (lv_at hl 1 rfl) ?_
          refine lv_ddiv hx hb dX3_spreadOfWear_96 (by rw [hke]; exact (zf_spreadD (u := (fun t => zf_wear (zm_way G P X Y t) (N - 1))) hN hu).nn) ?_
          refine zr_td (y := zf_spread (fun t => zf_wear (zm_way G P X Y t) (N - 1)) N) (by rw [hke]; rfl) ?_
          subst hQ
          exact W.dret (v := zf_spread (fun t => zf_wear (zm_way G P X Y t) (N - 1)) N) hx hb hr (fun tz htz hWz => ⟨⟨zf_spread (fun t => zf_wear (zm_way G P X Y t) (N - 1)) N, (), rfl, rfl, trivial⟩, hS.F htz⟩) hS.2.2 dX3_spreadOfWear_97
        · skip
          have cn_2 : ¬ (N ≤ k) := fun hz => cn_2 ((nI_leI (a := N) (b := k) (by omega) (by omega)).mpr hz)
          have hkk : k < N := by omega
          refine lv_aload_n hx hb dX3_spreadOfWear_65 rfl (lv_at hl 0 rfl) ?_
          refine lv_iload hx hb dX3_spreadOfWear_66 (lv_at hl 4 rfl) ?_
          refine zr_cf hP hS (va_runV (As := [.int (nI k)]) (rest := []) ⟨hx, hb, hml, hown, hts⟩ (c_X3_lastWear l D E g0 g1 g2 g3 g4 g5 g6 g7 sk h0 h1 h2 h3 h4 h5 h6 N hm aw rv sd gm ca G P xs ys X Y k (hpl) (hgr) (by omega)) (cwV 1 hts gX3_spreadOfWear_X3_lastWear rfl rfl rfl (by decide +kernel) ⟨Nat.le_of_ble_eq_true rfl, Nat.le_of_ble_eq_true rfl⟩) (zr_V hK (hP.sub (ws' := [(g0, .inr (2, [.ref h0, .ref g1, .ref g2, .ref g3, .ref g4, .int (nI sk), .ref g5, .ref g6, .ref g7])), (h0, .inr (0, [.int (nI N), .ref h1, .ref h2, .ref h3, .ref h4, .ref h5, .ref h6])), (h1, .inl (E 0, 15, .inl hm)), (h2, .inl (E 0, 15, .inl aw)), (h3, .inl (E 0, 30, .inl rv)), (h4, .inl (E 0, 30, .inl sd)), (h5, .inl (E 0, 30, .inl gm)), (h6, .inl (E 0, 36, .inl ca)), (g1, .inl (E 0, 6, .inl xs)), (g2, .inl (E 0, 6, .inl ys))]) [0, 1, 2, 3, 4, 5, 6, 7, 8, 9] rfl) (ci := 2) (q0 := 0) rfl rfl) rfl rfl hl.1 rfl (lv_room (Nat.le_of_ble_eq_true rfl)) dX3_spreadOfWear_68 ⟨Nat.zero_le _, Nat.zero_le _⟩) (fun r_3 H locs hw_4 hP hS => ?_)
          subst hw_4
          refine lv_f2d hx hb dX3_spreadOfWear_71 ((zf_f2dD (hu k hkk)).nn) ?_
          refine lv_dload hx hb dX3_spreadOfWear_72 (lv_at hl 2 rfl) ?_
          refine lv_dsub hx hb dX3_spreadOfWear_74 ((zf_offS (u := (fun t => zf_wear (zm_way G P X Y t) (N - 1))) hN hu hkk).nn) ?_
          refine zr_td (y := zf_off (fun t => zf_wear (zm_way G P X Y t) (N - 1)) N k) (rfl) ?_
          refine lv_dstore (lv' := [(10, .double (zf_off (fun t => zf_wear (zm_way G P X Y t) (N - 1)) N k)), (0, .ref g0), (1, .double (FP.i2d (nI N))), (5, .double (zf_mean (fun t => zf_wear (zm_way G P X Y t) (N - 1)) N)), (7, .double (zf_dv (fun t => zf_wear (zm_way G P X Y t) (N - 1)) N k)), (9, .int (nI k))]) hx hb dX3_spreadOfWear_75 hl (by decide) rfl (fun ls hl => ?_)
          refine lv_dload hx hb dX3_spreadOfWear_77 (lv_at hl 4 rfl) ?_
          refine lv_dload hx hb dX3_spreadOfWear_79 (lv_at hl 0 rfl) ?_
          refine lv_dload hx hb dX3_spreadOfWear_81 (lv_at hl 0 rfl) ?_
          refine lv_dmul hx hb dX3_spreadOfWear_83 ((zf_dsq (zf_offS (u := (fun t => zf_wear (zm_way G P X Y t) (N - 1))) hN hu hkk) (by omega) (by omega)).nn) ?_
          refine lv_dadd hx hb dX3_spreadOfWear_84 ((zf_dvD (u := (fun t => zf_wear (zm_way G P X Y t) (N - 1))) hN hu (k + 1) (by omega)).nn) ?_
          refine zr_td (y := zf_dv (fun t => zf_wear (zm_way G P X Y t) (N - 1)) N (k + 1)) (rfl) ?_
          refine lv_dstore (lv' := [(7, .double (zf_dv (fun t => zf_wear (zm_way G P X Y t) (N - 1)) N (k + 1))), (10, .double (zf_off (fun t => zf_wear (zm_way G P X Y t) (N - 1)) N k)), (0, .ref g0), (1, .double (FP.i2d (nI N))), (5, .double (zf_mean (fun t => zf_wear (zm_way G P X Y t) (N - 1)) N)), (9, .int (nI k))]) hx hb dX3_spreadOfWear_85 hl (by decide) rfl (fun ls hl => ?_)
          refine lv_iinc (v := nI (k + 1)) (lv' := [(9, .int (nI (k + 1))), (7, .double (zf_dv (fun t => zf_wear (zm_way G P X Y t) (N - 1)) N (k + 1))), (10, .double (zf_off (fun t => zf_wear (zm_way G P X Y t) (N - 1)) N k)), (0, .ref g0), (1, .double (FP.i2d (nI N))), (5, .double (zf_mean (fun t => zf_wear (zm_way G P X Y t) (N - 1)) N))]) hx hb dX3_spreadOfWear_87 hl (k := 5) rfl (nI_add _ _) (by decide) rfl (fun ls hl => ?_)
          refine lv_goto (tgt := 53) hx hb dX3_spreadOfWear_90 (by decide) ?_
          have hl : lv_has ls 12 [(0, .ref g0), (1, .double (FP.i2d (nI N))), (5, .double (zf_mean (fun t => zf_wear (zm_way G P X Y t) (N - 1)) N)), (7, .double (zf_dv (fun t => zf_wear (zm_way G P X Y t) (N - 1)) N (k + 1))), (9, .int (nI (k + 1)))] := lv_sub hl [3, 4, 5, 1, 0] rfl
          exact ih53 (k + 1) H locs ls (by omega) (by omega) hP hS hl
    · skip
      have cn_1 : ¬ (N ≤ i) := fun hz => cn_1 ((nI_leI (a := N) (b := i) (by omega) (by omega)).mpr hz)
      have hii : i < N := by omega
      refine lv_dload_n hx hb dX3_spreadOfWear_26 rfl (lv_at hl 2 rfl) ?_
      refine lv_aload_n hx hb dX3_spreadOfWear_27 rfl (lv_at hl 0 rfl) ?_
      refine lv_iload hx hb dX3_spreadOfWear_28 (lv_at hl 3 rfl) ?_
      refine zr_cf hP hS (va_runV (As := [.int (nI i)]) (rest := [.double (zf_ds (fun t => zf_wear (zm_way G P X Y t) (N - 1)) i)]) ⟨hx, hb, hml, hown, hts⟩ (c_X3_lastWear l D E g0 g1 g2 g3 g4 g5 g6 g7 sk h0 h1 h2 h3 h4 h5 h6 N hm aw rv sd gm ca G P xs ys X Y i (hpl) (hgr) (by omega)) (cwV 1 hts gX3_spreadOfWear_X3_lastWear rfl rfl rfl (by decide +kernel) ⟨Nat.le_of_ble_eq_true rfl, Nat.le_of_ble_eq_true rfl⟩) (zr_V hK (hP.sub (ws' := [(g0, .inr (2, [.ref h0, .ref g1, .ref g2, .ref g3, .ref g4, .int (nI sk), .ref g5, .ref g6, .ref g7])), (h0, .inr (0, [.int (nI N), .ref h1, .ref h2, .ref h3, .ref h4, .ref h5, .ref h6])), (h1, .inl (E 0, 15, .inl hm)), (h2, .inl (E 0, 15, .inl aw)), (h3, .inl (E 0, 30, .inl rv)), (h4, .inl (E 0, 30, .inl sd)), (h5, .inl (E 0, 30, .inl gm)), (h6, .inl (E 0, 36, .inl ca)), (g1, .inl (E 0, 6, .inl xs)), (g2, .inl (E 0, 6, .inl ys))]) [0, 1, 2, 3, 4, 5, 6, 7, 8, 9] rfl) (ci := 2) (q0 := 0) rfl rfl) rfl rfl hl.1 rfl (lv_room (Nat.le_of_ble_eq_true rfl)) dX3_spreadOfWear_30 ⟨Nat.zero_le _, Nat.zero_le _⟩) (fun r_5 H locs hw_6 hP hS => ?_)
      subst hw_6
      refine lv_f2d hx hb dX3_spreadOfWear_33 ((zf_f2dD (hu i hii)).nn) ?_
      refine lv_dadd hx hb dX3_spreadOfWear_34 ((zf_dsD (u := (fun t => zf_wear (zm_way G P X Y t) (N - 1))) (i + 1) (by omega) (fun j hj => hu j (by omega))).nn) ?_
      refine zr_td (y := zf_ds (fun t => zf_wear (zm_way G P X Y t) (N - 1)) (i + 1)) (rfl) ?_
      refine lv_dstore_n (lv' := [(3, .double (zf_ds (fun t => zf_wear (zm_way G P X Y t) (N - 1)) (i + 1))), (0, .ref g0), (1, .double (FP.i2d (nI N))), (5, .int (nI i))]) hx hb dX3_spreadOfWear_35 rfl hl (by decide) rfl (fun ls hl => ?_)
      refine lv_iinc (v := nI (i + 1)) (lv' := [(5, .int (nI (i + 1))), (3, .double (zf_ds (fun t => zf_wear (zm_way G P X Y t) (N - 1)) (i + 1))), (0, .ref g0), (1, .double (FP.i2d (nI N)))]) hx hb dX3_spreadOfWear_36 hl (k := 3) rfl (nI_add _ _) (by decide) rfl (fun ls hl => ?_)
      refine lv_goto (tgt := 14) hx hb dX3_spreadOfWear_39 (by decide) ?_
      have hl : lv_has ls 12 [(0, .ref g0), (1, .double (FP.i2d (nI N))), (3, .double (zf_ds (fun t => zf_wear (zm_way G P X Y t) (N - 1)) (i + 1))), (5, .int (nI (i + 1)))] := lv_sub hl [2, 3, 1, 0] rfl
      exact ih14 (i + 1) H locs ls (by omega) (by omega) hP hS hl

set_option maxHeartbeats 4000000 in
set_option maxRecDepth 100000 in
theorem c_X3_startAnew (l : Launch) (D : va_G) (E : Nat → ClassId) (g0 : Nat) (g1 : Nat) (g2 : Nat) (g3 : Nat) (g4 : Nat) (g5 : Nat) (g6 : Nat) (g7 : Nat) (sk : Nat) (h0 : Nat) (h1 : Nat) (h2 : Nat) (h3 : Nat) (h4 : Nat) (h5 : Nat) (h6 : Nat) (N : Nat) (hm : Nat → Int32) (aw : Nat → Int32) (rv : Nat → Int32) (sd : Nat → Int32) (gm : Nat → Int32) (ca : Nat → Int32) (bz : Nat → Int32) (s5 : Nat) (s6 : Nat) (s7 : Nat) (z5 : Nat) (z6 : Nat) (z7 : Nat) (c5 : Nat → Int32) (c6 : Nat → Int32) (c7 : Nat → Int32) (M : Nat) (hM : M = 4 ∨ M = 6) : Met l yX3_startAnew wsX3_startAnew ({ frames := 3, cells := 0, slots := 0, locals := 74 }) (zw_P D E [.ref g0, .int (nI M)] [(g0, .inr (2, [.ref h0, .ref g1, .ref g2, .ref g3, .ref g4, .int (nI sk), .ref g5, .ref g6, .ref g7])), (h0, .inr (0, [.int (nI N), .ref h1, .ref h2, .ref h3, .ref h4, .ref h5, .ref h6])), (h1, .inl (E 0, 15, .inl hm)), (h2, .inl (E 0, 15, .inl aw)), (h3, .inl (E 0, 30, .inl rv)), (h4, .inl (E 0, 30, .inl sd)), (h5, .inl (E 0, 30, .inl gm)), (h6, .inl (E 0, 36, .inl ca)), (g3, .inl (E 1, 30, .inl bz)), (g5, .inr (1, [.int (nI 6), .ref s5, .int (nI z5)])), (s5, .inl (E 0, 48, .inl c5)), (g6, .inr (1, [.int (nI 8), .ref s6, .int (nI z6)])), (s6, .inl (E 0, 48, .inl c6)), (g7, .inr (1, [.int (nI 8), .ref s7, .int (nI z7)])), (s7, .inl (E 0, 48, .inl c7))]) (zw_Qv D [(g0, .inr (2, [.ref h0, .ref g1, .ref g2, .ref g3, .ref g4, .int (nI sk), .ref g5, .ref g6, .ref g7])), (h0, .inr (0, [.int (nI N), .ref h1, .ref h2, .ref h3, .ref h4, .ref h5, .ref h6])), (h1, .inl (E 0, 15, .inl hm)), (h2, .inl (E 0, 15, .inl aw)), (h3, .inl (E 0, 30, .inl rv)), (h4, .inl (E 0, 30, .inl sd)), (h5, .inl (E 0, 30, .inl gm)), (h6, .inl (E 0, 36, .inl ca)), (g3, .inl (E 1, 30, .inl bz)), (g5, .inr (1, [.int (nI 6), .ref s5, .int (nI z5)])), (s5, .inl (E 0, 48, .inl c5)), (g6, .inr (1, [.int (nI 8), .ref s6, .int (nI z6)])), (s6, .inl (E 0, 48, .inl c6)), (g7, .inr (1, [.int (nI 8), .ref s7, .int (nI z7)])), (s7, .inl (E 0, 48, .inl c7))] (fun (u : (Nat → Int32) × (Nat → Int32) × (Nat → Int32) × (Nat → Int32) × (Nat → Int32) × (Nat → Int32)) => zm_pl M (zm_ciG M) (zm_ciP M) u.1 u.2.1 u.2.2.1 u.2.2.2.1 u.2.2.2.2.1 ∧ ∀ j, j < 30 → u.2.2.2.2.2 j = nI 0) (fun (u : (Nat → Int32) × (Nat → Int32) × (Nat → Int32) × (Nat → Int32) × (Nat → Int32) × (Nat → Int32)) => [(g0, .inr (2, [.ref h0, .ref g1, .ref g2, .ref g3, .ref g4, .int (nI sk), .ref g5, .ref g6, .ref g7])), (h0, .inr (0, [.int (nI M), .ref h1, .ref h2, .ref h3, .ref h4, .ref h5, .ref h6])), (h1, .inl (E 0, 15, .inl u.1)), (h2, .inl (E 0, 15, .inl u.2.1)), (h3, .inl (E 0, 30, .inl u.2.2.1)), (h4, .inl (E 0, 30, .inl u.2.2.2.1)), (h5, .inl (E 0, 30, .inl u.2.2.2.2.1)), (h6, .inl (E 0, 36, .inl ca)), (g3, .inl (E 1, 30, .inl u.2.2.2.2.2)), (g5, .inr (1, [.int (nI 6), .ref s5, .int (nI 0)])), (s5, .inl (E 0, 48, .inl c5)), (g6, .inr (1, [.int (nI 8), .ref s6, .int (nI 0)])), (s6, .inl (E 0, 48, .inl c6)), (g7, .inr (1, [.int (nI 8), .ref s7, .int (nI 0)])), (s7, .inl (E 0, 48, .inl c7))])) 0 0 (zw_A [(g0, .inr (2, [.ref h0, .ref g1, .ref g2, .ref g3, .ref g4, .int (nI sk), .ref g5, .ref g6, .ref g7])), (h0, .inr (0, [.int (nI N), .ref h1, .ref h2, .ref h3, .ref h4, .ref h5, .ref h6])), (h1, .inl (E 0, 15, .inl hm)), (h2, .inl (E 0, 15, .inl aw)), (h3, .inl (E 0, 30, .inl rv)), (h4, .inl (E 0, 30, .inl sd)), (h5, .inl (E 0, 30, .inl gm)), (h6, .inl (E 0, 36, .inl ca)), (g3, .inl (E 1, 30, .inl bz)), (g5, .inr (1, [.int (nI 6), .ref s5, .int (nI z5)])), (s5, .inl (E 0, 48, .inl c5)), (g6, .inr (1, [.int (nI 8), .ref s6, .int (nI z6)])), (s6, .inl (E 0, 48, .inl c6)), (g7, .inr (1, [.int (nI 8), .ref s7, .int (nI z7)])), (s7, .inl (E 0, 48, .inl c7))]) := by
  refine Met.ofW (cc := cX3_startAnew) (maxL := 3) (ret := none) (by decide) rfl ?_
  intro p e s m args below meth c s₁ Bz hml hv
  obtain ⟨rfl, hP, hK, hD0⟩ := hv
  have hx := Bz.exec
  have hb := Bz.bytes
  have hr := Bz.returns
  have hts := atoms_spec (ws := wsX3_startAnew) Bz.pre
  have hown : s.vm.findClass RX3 = some m.cls := findClass_of_methodNamed Bz.named
  have hlocks := Bz.notSynchronized
  have hP : va_P D vwCl [(g0, .inr (2, [.ref h0, .ref g1, .ref g2, .ref g3, .ref g4, .int (nI sk), .ref g5, .ref g6, .ref g7])), (h0, .inr (0, [.int (nI N), .ref h1, .ref h2, .ref h3, .ref h4, .ref h5, .ref h6])), (h1, .inl (E 0, 15, .inl hm)), (h2, .inl (E 0, 15, .inl aw)), (h3, .inl (E 0, 30, .inl rv)), (h4, .inl (E 0, 30, .inl sd)), (h5, .inl (E 0, 30, .inl gm)), (h6, .inl (E 0, 36, .inl ca)), (g3, .inl (E 1, 30, .inl bz)), (g5, .inr (1, [.int (nI 6), .ref s5, .int (nI z5)])), (s5, .inl (E 0, 48, .inl c5)), (g6, .inr (1, [.int (nI 8), .ref s6, .int (nI z6)])), (s6, .inl (E 0, 48, .inl c6)), (g7, .inr (1, [.int (nI 8), .ref s7, .int (nI z7)])), (s7, .inl (E 0, 48, .inl c7))] s.heap := hP
  obtain ⟨A, hAe⟩ : ∃ A : Nat → Prop, A = zw_A [(g0, .inr (2, [.ref h0, .ref g1, .ref g2, .ref g3, .ref g4, .int (nI sk), .ref g5, .ref g6, .ref g7])), (h0, .inr (0, [.int (nI N), .ref h1, .ref h2, .ref h3, .ref h4, .ref h5, .ref h6])), (h1, .inl (E 0, 15, .inl hm)), (h2, .inl (E 0, 15, .inl aw)), (h3, .inl (E 0, 30, .inl rv)), (h4, .inl (E 0, 30, .inl sd)), (h5, .inl (E 0, 30, .inl gm)), (h6, .inl (E 0, 36, .inl ca)), (g3, .inl (E 1, 30, .inl bz)), (g5, .inr (1, [.int (nI 6), .ref s5, .int (nI z5)])), (s5, .inl (E 0, 48, .inl c5)), (g6, .inr (1, [.int (nI 8), .ref s6, .int (nI z6)])), (s6, .inl (E 0, 48, .inl c6)), (g7, .inr (1, [.int (nI 8), .ref s7, .int (nI z7)])), (s7, .inl (E 0, 48, .inl c7))] := ⟨_, rfl⟩
  have hD : va_D A [(g0, .inr (2, [.ref h0, .ref g1, .ref g2, .ref g3, .ref g4, .int (nI sk), .ref g5, .ref g6, .ref g7])), (h0, .inr (0, [.int (nI N), .ref h1, .ref h2, .ref h3, .ref h4, .ref h5, .ref h6])), (h1, .inl (E 0, 15, .inl hm)), (h2, .inl (E 0, 15, .inl aw)), (h3, .inl (E 0, 30, .inl rv)), (h4, .inl (E 0, 30, .inl sd)), (h5, .inl (E 0, 30, .inl gm)), (h6, .inl (E 0, 36, .inl ca)), (g3, .inl (E 1, 30, .inl bz)), (g5, .inr (1, [.int (nI 6), .ref s5, .int (nI z5)])), (s5, .inl (E 0, 48, .inl c5)), (g6, .inr (1, [.int (nI 8), .ref s6, .int (nI z6)])), (s6, .inl (E 0, 48, .inl c6)), (g7, .inr (1, [.int (nI 8), .ref s7, .int (nI z7)])), (s7, .inl (E 0, 48, .inl c7))] := hAe ▸ zw_own hD0
  have hS : va_S A s.heap s.heap [] := va_S.rf
  have hl := lv_entry ([.ref g0, .int (nI M)]) (n := 3) (Nat.le_of_ble_eq_true rfl)
  rw [lg_entry_eq]
  generalize (lg_sl ([.ref g0, .int (nI M)]) ++ List.replicate (3 - (lg_sl ([.ref g0, .int (nI M)])).length) Slot.unset).toArray = ls at hl ⊢
  have hl : lv_has ls 3 [(0, .ref g0), (1, .int (nI M))] := hl
  refine zr_nQ (fun Q hQ => ?_)
  refine lv_aload_n hx hb dX3_startAnew_0 rfl (lv_at hl 0 rfl) ?_
  refine va_get (D := D) (ci := 2) (v := .ref h0) (C := RX3) (T := TX3) (N := 9) hx hb hts (by decide +kernel) hown hK.1 hP 0 rfl rfl 0 (by decide) (hts (.fieldLink RX3 12 "HomeRounds$Setting" "plan" "LHomeRounds$Plan;") (by decide +kernel)) (fun _ h9 => h9) rfl dX3_startAnew_1 ?_
  refine lv_iload_n hx hb dX3_startAnew_4 rfl (lv_at hl 1 rfl) ?_
  have hPc := hP.sub (ws' := [(h0, .inr (0, [.int (nI N), .ref h1, .ref h2, .ref h3, .ref h4, .ref h5, .ref h6])), (h1, .inl (E 0, 15, .inl hm)), (h2, .inl (E 0, 15, .inl aw)), (h3, .inl (E 0, 30, .inl rv)), (h4, .inl (E 0, 30, .inl sd)), (h5, .inl (E 0, 30, .inl gm)), (h6, .inl (E 0, 36, .inl ca))]) [1, 2, 3, 4, 5, 6, 7] rfl
  have hDc := hD.sub (ws' := [(h0, .inr (0, [.int (nI N), .ref h1, .ref h2, .ref h3, .ref h4, .ref h5, .ref h6])), (h1, .inl (E 0, 15, .inl hm)), (h2, .inl (E 0, 15, .inl aw)), (h3, .inl (E 0, 30, .inl rv)), (h4, .inl (E 0, 30, .inl sd)), (h5, .inl (E 0, 30, .inl gm)), (h6, .inl (E 0, 36, .inl ca))]) [1, 2, 3, 4, 5, 6, 7] (by decide +kernel) rfl
  have hAc := zw_AA (wc := [(h0, .inr (0, [.int (nI N), .ref h1, .ref h2, .ref h3, .ref h4, .ref h5, .ref h6])), (h1, .inl (E 0, 15, .inl hm)), (h2, .inl (E 0, 15, .inl aw)), (h3, .inl (E 0, 30, .inl rv)), (h4, .inl (E 0, 30, .inl sd)), (h5, .inl (E 0, 30, .inl gm)), (h6, .inl (E 0, 36, .inl ca))]) hD [1, 2, 3, 4, 5, 6, 7] rfl
  refine zw_cv hAc hS (va_runV (As := [.int (nI M)]) (rest := []) ⟨hx, hb, hml, hown, hts⟩ (c_X1_layCircle l D E h0 h1 h2 h3 h4 h5 h6 N hm aw rv sd gm ca M (by omega)) (cwV 1 hts gX3_startAnew_X1_layCircle rfl rfl rfl (by decide +kernel) ⟨Nat.le_of_ble_eq_true rfl, Nat.le_of_ble_eq_true rfl⟩) (zw_V hK hPc hDc (ci := 0) (q0 := 0) rfl rfl) rfl rfl hl.1 rfl (lv_room (Nat.le_of_ble_eq_true rfl)) dX3_startAnew_5 ⟨Nat.zero_le _, Nat.zero_le _⟩) (fun u_3 H locs hw_2 hP1 hD1 hk1 hS => ?_)
  obtain ⟨hm_4, aw_5, rv_6, sd_7, gm_8⟩ := u_3
  try dsimp only at hw_2 hP1 hD1
  obtain ⟨hP, hD⟩ := zw_join (wr := [(g0, .inr (2, [.ref h0, .ref g1, .ref g2, .ref g3, .ref g4, .int (nI sk), .ref g5, .ref g6, .ref g7])), (g3, .inl (E 1, 30, .inl bz)), (g5, .inr (1, [.int (nI 6), .ref s5, .int (nI z5)])), (s5, .inl (E 0, 48, .inl c5)), (g6, .inr (1, [.int (nI 8), .ref s6, .int (nI z6)])), (s6, .inl (E 0, 48, .inl c6)), (g7, .inr (1, [.int (nI 8), .ref s7, .int (nI z7)])), (s7, .inl (E 0, 48, .inl c7))]) (w1 := [(h0, .inr (0, [.int (nI M), .ref h1, .ref h2, .ref h3, .ref h4, .ref h5, .ref h6])), (h1, .inl (E 0, 15, .inl hm_4)), (h2, .inl (E 0, 15, .inl aw_5)), (h3, .inl (E 0, 30, .inl rv_6)), (h4, .inl (E 0, 30, .inl sd_7)), (h5, .inl (E 0, 30, .inl gm_8)), (h6, .inl (E 0, 36, .inl ca))]) (ws' := [(g0, .inr (2, [.ref h0, .ref g1, .ref g2, .ref g3, .ref g4, .int (nI sk), .ref g5, .ref g6, .ref g7])), (h0, .inr (0, [.int (nI M), .ref h1, .ref h2, .ref h3, .ref h4, .ref h5, .ref h6])), (h1, .inl (E 0, 15, .inl hm_4)), (h2, .inl (E 0, 15, .inl aw_5)), (h3, .inl (E 0, 30, .inl rv_6)), (h4, .inl (E 0, 30, .inl sd_7)), (h5, .inl (E 0, 30, .inl gm_8)), (h6, .inl (E 0, 36, .inl ca)), (g3, .inl (E 1, 30, .inl bz)), (g5, .inr (1, [.int (nI 6), .ref s5, .int (nI z5)])), (s5, .inl (E 0, 48, .inl c5)), (g6, .inr (1, [.int (nI 8), .ref s6, .int (nI z6)])), (s6, .inl (E 0, 48, .inl c6)), (g7, .inr (1, [.int (nI 8), .ref s7, .int (nI z7)])), (s7, .inl (E 0, 48, .inl c7))]) hP hD [1, 2, 3, 4, 5, 6, 7] [0, 8, 9, 10, 11, 12, 13, 14] [0, 8, 9, 10, 11, 12, 13, 14, 1, 2, 3, 4, 5, 6, 7] rfl rfl (by decide +kernel) (by decide +kernel) hAc hk1 hP1 hD1 (by decide +kernel) rfl
  clear hP1 hD1 hk1 hPc hDc hAc
  have hnew := hw_2
  refine lv_iconst (v := nI 0) hx hb dX3_startAnew_8 (by rfl) ?_
  refine lv_istore_n (lv' := [(2, .int (nI 0)), (0, .ref g0), (1, .int (nI M))]) hx hb dX3_startAnew_9 rfl hl (by decide) rfl (fun ls hl => ?_)
  suffices KL10 : ∀ (kz : Nat) (i : Nat) (bzv : Nat → Int32) (H : Heap) (locs : List Loc) (ls : Array Slot), (30 - i) < kz → (∀ j, j < i → bzv j = nI 0) → (i ≤ 30) → va_P D vwCl [(g0, .inr (2, [.ref h0, .ref g1, .ref g2, .ref g3, .ref g4, .int (nI sk), .ref g5, .ref g6, .ref g7])), (h0, .inr (0, [.int (nI M), .ref h1, .ref h2, .ref h3, .ref h4, .ref h5, .ref h6])), (h1, .inl (E 0, 15, .inl hm_4)), (h2, .inl (E 0, 15, .inl aw_5)), (h3, .inl (E 0, 30, .inl rv_6)), (h4, .inl (E 0, 30, .inl sd_7)), (h5, .inl (E 0, 30, .inl gm_8)), (h6, .inl (E 0, 36, .inl ca)), (g3, .inl (E 1, 30, .inl bzv)), (g5, .inr (1, [.int (nI 6), .ref s5, .int (nI z5)])), (s5, .inl (E 0, 48, .inl c5)), (g6, .inr (1, [.int (nI 8), .ref s6, .int (nI z6)])), (s6, .inl (E 0, 48, .inl c6)), (g7, .inr (1, [.int (nI 8), .ref s7, .int (nI z7)])), (s7, .inl (E 0, 48, .inl c7))] H → va_D A [(g0, .inr (2, [.ref h0, .ref g1, .ref g2, .ref g3, .ref g4, .int (nI sk), .ref g5, .ref g6, .ref g7])), (h0, .inr (0, [.int (nI M), .ref h1, .ref h2, .ref h3, .ref h4, .ref h5, .ref h6])), (h1, .inl (E 0, 15, .inl hm_4)), (h2, .inl (E 0, 15, .inl aw_5)), (h3, .inl (E 0, 30, .inl rv_6)), (h4, .inl (E 0, 30, .inl sd_7)), (h5, .inl (E 0, 30, .inl gm_8)), (h6, .inl (E 0, 36, .inl ca)), (g3, .inl (E 1, 30, .inl bzv)), (g5, .inr (1, [.int (nI 6), .ref s5, .int (nI z5)])), (s5, .inl (E 0, 48, .inl c5)), (g6, .inr (1, [.int (nI 8), .ref s6, .int (nI z6)])), (s6, .inl (E 0, 48, .inl c6)), (g7, .inr (1, [.int (nI 8), .ref s7, .int (nI z7)])), (s7, .inl (E 0, 48, .inl c7))] → va_S A s.heap H locs → lv_has ls 3 [(0, .ref g0), (1, .int (nI M)), (2, .int (nI i))] → W p l e (headSpec wsX3_startAnew ({ frames := 3, cells := 0, slots := 0, locals := 74 })).room s m ([.ref g0, .int (nI M)] : List Value).toArray below meth c H locs 0 0 Q (F0 m 10 ls []) from
    KL10 _ 0 bz _ _ ls (Nat.lt_succ_self _) (fun j hj => absurd hj (Nat.not_lt_zero _)) (by omega) hP hD hS (lv_sub hl [1, 2, 0] rfl)
  clear hP hS hl hD
  intro kz
  induction kz with
  | zero => intro i bzv H locs ls hkz; exact absurd hkz (Nat.not_lt_zero _)
  | succ kz ih10 =>
    intro i bzv H locs ls hkz hI hi hP hD hS hl
    refine lv_iload_n hx hb dX3_startAnew_10 rfl (lv_at hl 2 rfl) ?_
    refine lv_aload_n hx hb dX3_startAnew_11 rfl (lv_at hl 0 rfl) ?_
    refine va_get (D := D) (ci := 2) (v := .ref g3) (C := RX3) (T := TX3) (N := 9) hx hb hts (by decide +kernel) hown hK.1 hP 0 rfl rfl 3 (by decide) (hts (.fieldLink RX3 25 "HomeRounds$Setting" "bars" "[Z") (by decide +kernel)) (fun _ h9 => h9) rfl dX3_startAnew_12 ?_
    refine va_alen hx hb hK.1 hP 8 1 rfl rfl (v := nI 30) rfl dX3_startAnew_15 ?_
    refine lv_icmp_ge (tgt := 32) hx hb dX3_startAnew_16 (by decide) (fun cn_9 => ?_) (fun cn_9 => ?_)
    · skip
      have cn_9 : 30 ≤ i := (nI_leI (a := 30) (b := i) (by omega) (by omega)).mp cn_9
      have hie : i = 30 := by omega
      refine lv_aload_n hx hb dX3_startAnew_32 rfl (lv_at hl 0 rfl) ?_
      refine va_get (D := D) (ci := 2) (v := .ref g5) (C := RX3) (T := TX3) (N := 9) hx hb hts (by decide +kernel) hown hK.1 hP 0 rfl rfl 6 (by decide) (hts (.fieldLink RX3 37 "HomeRounds$Setting" "seen" "LHomeRounds$Rows;") (by decide +kernel)) (fun _ h9 => h9) rfl dX3_startAnew_33 ?_
      have hPc := hP.sub (ws' := [(g5, .inr (1, [.int (nI 6), .ref s5, .int (nI z5)])), (s5, .inl (E 0, 48, .inl c5))]) [9, 10] rfl
      have hDc := hD.sub (ws' := [(g5, .inr (1, [.int (nI 6), .ref s5, .int (nI z5)])), (s5, .inl (E 0, 48, .inl c5))]) [9, 10] (by decide +kernel) rfl
      have hAc := zw_AA (wc := [(g5, .inr (1, [.int (nI 6), .ref s5, .int (nI z5)])), (s5, .inl (E 0, 48, .inl c5))]) hD [9, 10] rfl
      refine zw_cv hAc hS (va_runV (As := []) (rest := []) ⟨hx, hb, hml, hown, hts⟩ (c_X2_empty l D E g5 s5 6 48 z5 c5 ) (cwV 0 hts gX3_startAnew_X2_empty rfl rfl rfl (by decide +kernel) ⟨Nat.le_of_ble_eq_true rfl, Nat.le_of_ble_eq_true rfl⟩) (zw_V hK hPc hDc (ci := 1) (q0 := 0) rfl rfl) rfl rfl hl.1 rfl (lv_room (Nat.le_of_ble_eq_true rfl)) dX3_startAnew_36 ⟨Nat.zero_le _, Nat.zero_le _⟩) (fun u_12 H locs hw_11 hP1 hD1 hk1 hS => ?_)
      obtain ⟨hP, hD⟩ := zw_join (wr := [(g0, .inr (2, [.ref h0, .ref g1, .ref g2, .ref g3, .ref g4, .int (nI sk), .ref g5, .ref g6, .ref g7])), (h0, .inr (0, [.int (nI M), .ref h1, .ref h2, .ref h3, .ref h4, .ref h5, .ref h6])), (h1, .inl (E 0, 15, .inl hm_4)), (h2, .inl (E 0, 15, .inl aw_5)), (h3, .inl (E 0, 30, .inl rv_6)), (h4, .inl (E 0, 30, .inl sd_7)), (h5, .inl (E 0, 30, .inl gm_8)), (h6, .inl (E 0, 36, .inl ca)), (g3, .inl (E 1, 30, .inl bzv)), (g6, .inr (1, [.int (nI 8), .ref s6, .int (nI z6)])), (s6, .inl (E 0, 48, .inl c6)), (g7, .inr (1, [.int (nI 8), .ref s7, .int (nI z7)])), (s7, .inl (E 0, 48, .inl c7))]) (w1 := [(g5, .inr (1, [.int (nI 6), .ref s5, .int (nI 0)])), (s5, .inl (E 0, 48, .inl c5))]) (ws' := [(g0, .inr (2, [.ref h0, .ref g1, .ref g2, .ref g3, .ref g4, .int (nI sk), .ref g5, .ref g6, .ref g7])), (h0, .inr (0, [.int (nI M), .ref h1, .ref h2, .ref h3, .ref h4, .ref h5, .ref h6])), (h1, .inl (E 0, 15, .inl hm_4)), (h2, .inl (E 0, 15, .inl aw_5)), (h3, .inl (E 0, 30, .inl rv_6)), (h4, .inl (E 0, 30, .inl sd_7)), (h5, .inl (E 0, 30, .inl gm_8)), (h6, .inl (E 0, 36, .inl ca)), (g3, .inl (E 1, 30, .inl bzv)), (g5, .inr (1, [.int (nI 6), .ref s5, .int (nI 0)])), (s5, .inl (E 0, 48, .inl c5)), (g6, .inr (1, [.int (nI 8), .ref s6, .int (nI z6)])), (s6, .inl (E 0, 48, .inl c6)), (g7, .inr (1, [.int (nI 8), .ref s7, .int (nI z7)])), (s7, .inl (E 0, 48, .inl c7))]) hP hD [9, 10] [0, 1, 2, 3, 4, 5, 6, 7, 8, 11, 12, 13, 14] [0, 1, 2, 3, 4, 5, 6, 7, 8, 13, 14, 9, 10, 11, 12] rfl rfl (by decide +kernel) (by decide +kernel) hAc hk1 hP1 hD1 (by decide +kernel) rfl
      clear hP1 hD1 hk1 hPc hDc hAc
      refine lv_aload_n hx hb dX3_startAnew_39 rfl (lv_at hl 0 rfl) ?_
      refine va_get (D := D) (ci := 2) (v := .ref g6) (C := RX3) (T := TX3) (N := 9) hx hb hts (by decide +kernel) hown hK.1 hP 0 rfl rfl 7 (by decide) (hts (.fieldLink RX3 41 "HomeRounds$Setting" "events" "LHomeRounds$Rows;") (by decide +kernel)) (fun _ h9 => h9) rfl dX3_startAnew_40 ?_
      have hPc := hP.sub (ws' := [(g6, .inr (1, [.int (nI 8), .ref s6, .int (nI z6)])), (s6, .inl (E 0, 48, .inl c6))]) [11, 12] rfl
      have hDc := hD.sub (ws' := [(g6, .inr (1, [.int (nI 8), .ref s6, .int (nI z6)])), (s6, .inl (E 0, 48, .inl c6))]) [11, 12] (by decide +kernel) rfl
      have hAc := zw_AA (wc := [(g6, .inr (1, [.int (nI 8), .ref s6, .int (nI z6)])), (s6, .inl (E 0, 48, .inl c6))]) hD [11, 12] rfl
      refine zw_cv hAc hS (va_runV (As := []) (rest := []) ⟨hx, hb, hml, hown, hts⟩ (c_X2_empty l D E g6 s6 8 48 z6 c6 ) (cwV 0 hts gX3_startAnew_X2_empty rfl rfl rfl (by decide +kernel) ⟨Nat.le_of_ble_eq_true rfl, Nat.le_of_ble_eq_true rfl⟩) (zw_V hK hPc hDc (ci := 1) (q0 := 0) rfl rfl) rfl rfl hl.1 rfl (lv_room (Nat.le_of_ble_eq_true rfl)) dX3_startAnew_43 ⟨Nat.zero_le _, Nat.zero_le _⟩) (fun u_15 H locs hw_14 hP1 hD1 hk1 hS => ?_)
      obtain ⟨hP, hD⟩ := zw_join (wr := [(g0, .inr (2, [.ref h0, .ref g1, .ref g2, .ref g3, .ref g4, .int (nI sk), .ref g5, .ref g6, .ref g7])), (h0, .inr (0, [.int (nI M), .ref h1, .ref h2, .ref h3, .ref h4, .ref h5, .ref h6])), (h1, .inl (E 0, 15, .inl hm_4)), (h2, .inl (E 0, 15, .inl aw_5)), (h3, .inl (E 0, 30, .inl rv_6)), (h4, .inl (E 0, 30, .inl sd_7)), (h5, .inl (E 0, 30, .inl gm_8)), (h6, .inl (E 0, 36, .inl ca)), (g3, .inl (E 1, 30, .inl bzv)), (g5, .inr (1, [.int (nI 6), .ref s5, .int (nI 0)])), (s5, .inl (E 0, 48, .inl c5)), (g7, .inr (1, [.int (nI 8), .ref s7, .int (nI z7)])), (s7, .inl (E 0, 48, .inl c7))]) (w1 := [(g6, .inr (1, [.int (nI 8), .ref s6, .int (nI 0)])), (s6, .inl (E 0, 48, .inl c6))]) (ws' := [(g0, .inr (2, [.ref h0, .ref g1, .ref g2, .ref g3, .ref g4, .int (nI sk), .ref g5, .ref g6, .ref g7])), (h0, .inr (0, [.int (nI M), .ref h1, .ref h2, .ref h3, .ref h4, .ref h5, .ref h6])), (h1, .inl (E 0, 15, .inl hm_4)), (h2, .inl (E 0, 15, .inl aw_5)), (h3, .inl (E 0, 30, .inl rv_6)), (h4, .inl (E 0, 30, .inl sd_7)), (h5, .inl (E 0, 30, .inl gm_8)), (h6, .inl (E 0, 36, .inl ca)), (g3, .inl (E 1, 30, .inl bzv)), (g5, .inr (1, [.int (nI 6), .ref s5, .int (nI 0)])), (s5, .inl (E 0, 48, .inl c5)), (g6, .inr (1, [.int (nI 8), .ref s6, .int (nI 0)])), (s6, .inl (E 0, 48, .inl c6)), (g7, .inr (1, [.int (nI 8), .ref s7, .int (nI z7)])), (s7, .inl (E 0, 48, .inl c7))]) hP hD [11, 12] [0, 1, 2, 3, 4, 5, 6, 7, 8, 9, 10, 13, 14] [0, 1, 2, 3, 4, 5, 6, 7, 8, 9, 10, 13, 14, 11, 12] rfl rfl (by decide +kernel) (by decide +kernel) hAc hk1 hP1 hD1 (by decide +kernel) rfl
      clear hP1 hD1 hk1 hPc hDc hAc
      refine lv_aload_n hx hb dX3_startAnew_46 rfl (lv_at hl 0 rfl) ?_
      refine va_get (D := D) (ci := 2) (v := .ref g7) (C := RX3) (T := TX3) (N := 9) hx hb hts (by decide +kernel) hown hK.1 hP 0 rfl rfl 8 (by decide) (hts (.fieldLink RX3 44 "HomeRounds$Setting" "ledger" "LHomeRounds$Rows;") (by decide +kernel)) (fun _ h9 => h9) rfl dX3_startAnew_47 ?_
      have hPc := hP.sub (ws' := [(g7, .inr (1, [.int (nI 8), .ref s7, .int (nI z7)])), (s7, .inl (E 0, 48, .inl c7))]) [13, 14] rfl
      have hDc := hD.sub (ws' := [(g7, .inr (1, [.int (nI 8), .ref s7, .int (nI z7)])), (s7, .inl (E 0, 48, .inl c7))]) [13, 14] (by decide +kernel) rfl
      have hAc := zw_AA (wc := [(g7, .inr (1, [.int (nI 8), .ref s7, .int (nI z7)])), (s7, .inl (E 0, 48, .inl c7))]) hD [13, 14] rfl
      refine zw_cv hAc hS (va_runV (As := []) (rest := []) ⟨hx, hb, hml, hown, hts⟩ (c_X2_empty l D E g7 s7 8 48 z7 c7 ) (cwV 0 hts gX3_startAnew_X2_empty rfl rfl rfl (by decide +kernel) ⟨Nat.le_of_ble_eq_true rfl, Nat.le_of_ble_eq_true rfl⟩) (zw_V hK hPc hDc (ci := 1) (q0 := 0) rfl rfl) rfl rfl hl.1 rfl (lv_room (Nat.le_of_ble_eq_true rfl)) dX3_startAnew_50 ⟨Nat.zero_le _, Nat.zero_le _⟩) (fun u_18 H locs hw_17 hP1 hD1 hk1 hS => ?_)
      obtain ⟨hP, hD⟩ := zw_join (wr := [(g0, .inr (2, [.ref h0, .ref g1, .ref g2, .ref g3, .ref g4, .int (nI sk), .ref g5, .ref g6, .ref g7])), (h0, .inr (0, [.int (nI M), .ref h1, .ref h2, .ref h3, .ref h4, .ref h5, .ref h6])), (h1, .inl (E 0, 15, .inl hm_4)), (h2, .inl (E 0, 15, .inl aw_5)), (h3, .inl (E 0, 30, .inl rv_6)), (h4, .inl (E 0, 30, .inl sd_7)), (h5, .inl (E 0, 30, .inl gm_8)), (h6, .inl (E 0, 36, .inl ca)), (g3, .inl (E 1, 30, .inl bzv)), (g5, .inr (1, [.int (nI 6), .ref s5, .int (nI 0)])), (s5, .inl (E 0, 48, .inl c5)), (g6, .inr (1, [.int (nI 8), .ref s6, .int (nI 0)])), (s6, .inl (E 0, 48, .inl c6))]) (w1 := [(g7, .inr (1, [.int (nI 8), .ref s7, .int (nI 0)])), (s7, .inl (E 0, 48, .inl c7))]) (ws' := [(g0, .inr (2, [.ref h0, .ref g1, .ref g2, .ref g3, .ref g4, .int (nI sk), .ref g5, .ref g6, .ref g7])), (h0, .inr (0, [.int (nI M), .ref h1, .ref h2, .ref h3, .ref h4, .ref h5, .ref h6])), (h1, .inl (E 0, 15, .inl hm_4)), (h2, .inl (E 0, 15, .inl aw_5)), (h3, .inl (E 0, 30, .inl rv_6)), (h4, .inl (E 0, 30, .inl sd_7)), (h5, .inl (E 0, 30, .inl gm_8)), (h6, .inl (E 0, 36, .inl ca)), (g3, .inl (E 1, 30, .inl bzv)), (g5, .inr (1, [.int (nI 6), .ref s5, .int (nI 0)])), (s5, .inl (E 0, 48, .inl c5)), (g6, .inr (1, [.int (nI 8), .ref s6, .int (nI 0)])), (s6, .inl (E 0, 48, .inl c6)), (g7, .inr (1, [.int (nI 8), .ref s7, .int (nI 0)])), (s7, .inl (E 0, 48, .inl c7))]) hP hD [13, 14] [0, 1, 2, 3, 4, 5, 6, 7, 8, 9, 10, 11, 12] [0, 1, 2, 3, 4, 5, 6, 7, 8, 9, 10, 11, 12, 13, 14] rfl rfl (by decide +kernel) (by decide +kernel) hAc hk1 hP1 hD1 (by decide +kernel) rfl
      clear hP1 hD1 hk1 hPc hDc hAc
      subst hQ; subst hAe
      exact W.vret hx hb hr (fun tz htz hWz => ⟨⟨(hm_4, aw_5, rv_6, sd_7, gm_8, bzv), rfl, ⟨hnew, fun j hj => hI j (by omega)⟩, by rw [htz]; exact hP, hD⟩, hS.F htz⟩) hS.2.2 dX3_startAnew_53
    · skip
      have cn_9 : ¬ (30 ≤ i) := fun hz => cn_9 ((nI_leI (a := 30) (b := i) (by omega) (by omega)).mpr hz)
      refine lv_aload_n hx hb dX3_startAnew_19 rfl (lv_at hl 0 rfl) ?_
      refine va_get (D := D) (ci := 2) (v := .ref g3) (C := RX3) (T := TX3) (N := 9) hx hb hts (by decide +kernel) hown hK.1 hP 0 rfl rfl 3 (by decide) (hts (.fieldLink RX3 25 "HomeRounds$Setting" "bars" "[Z") (by decide +kernel)) (fun _ h9 => h9) rfl dX3_startAnew_20 ?_
      refine lv_iload_n hx hb dX3_startAnew_23 rfl (lv_at hl 2 rfl) ?_
      refine lv_iconst (v := nI 0) hx hb dX3_startAnew_24 (by rfl) ?_
      refine va_zast hx hb hK.1 hP hD hS 8 1 rfl rfl (vp_in_nI (by omega) (by omega)) dX3_startAnew_25 (fun H locs hP hD hS => ?_)
      have hP : va_P D vwCl [(g0, .inr (2, [.ref h0, .ref g1, .ref g2, .ref g3, .ref g4, .int (nI sk), .ref g5, .ref g6, .ref g7])), (h0, .inr (0, [.int (nI M), .ref h1, .ref h2, .ref h3, .ref h4, .ref h5, .ref h6])), (h1, .inl (E 0, 15, .inl hm_4)), (h2, .inl (E 0, 15, .inl aw_5)), (h3, .inl (E 0, 30, .inl rv_6)), (h4, .inl (E 0, 30, .inl sd_7)), (h5, .inl (E 0, 30, .inl gm_8)), (h6, .inl (E 0, 36, .inl ca)), (g3, .inl (E 1, 30, .inl (upd bzv (nI i).toNatClampNeg (vp_nar .boolean (nI 0))))), (g5, .inr (1, [.int (nI 6), .ref s5, .int (nI z5)])), (s5, .inl (E 0, 48, .inl c5)), (g6, .inr (1, [.int (nI 8), .ref s6, .int (nI z6)])), (s6, .inl (E 0, 48, .inl c6)), (g7, .inr (1, [.int (nI 8), .ref s7, .int (nI z7)])), (s7, .inl (E 0, 48, .inl c7))] H := hP
      have hD : va_D A [(g0, .inr (2, [.ref h0, .ref g1, .ref g2, .ref g3, .ref g4, .int (nI sk), .ref g5, .ref g6, .ref g7])), (h0, .inr (0, [.int (nI M), .ref h1, .ref h2, .ref h3, .ref h4, .ref h5, .ref h6])), (h1, .inl (E 0, 15, .inl hm_4)), (h2, .inl (E 0, 15, .inl aw_5)), (h3, .inl (E 0, 30, .inl rv_6)), (h4, .inl (E 0, 30, .inl sd_7)), (h5, .inl (E 0, 30, .inl gm_8)), (h6, .inl (E 0, 36, .inl ca)), (g3, .inl (E 1, 30, .inl (upd bzv (nI i).toNatClampNeg (vp_nar .boolean (nI 0))))), (g5, .inr (1, [.int (nI 6), .ref s5, .int (nI z5)])), (s5, .inl (E 0, 48, .inl c5)), (g6, .inr (1, [.int (nI 8), .ref s6, .int (nI z6)])), (s6, .inl (E 0, 48, .inl c6)), (g7, .inr (1, [.int (nI 8), .ref s7, .int (nI z7)])), (s7, .inl (E 0, 48, .inl c7))] := hD
      have hcz : (upd bzv (nI i).toNatClampNeg (vp_nar .boolean (nI 0))) = (upd bzv i (nI 0)) := by rw [nI_clamp (n := i) (by omega), show vp_nar .boolean (nI 0) = nI 0 from rfl]
      rw [hcz] at hP hD
      refine lv_iinc (v := nI (i + 1)) (lv' := [(2, .int (nI (i + 1))), (0, .ref g0), (1, .int (nI M))]) hx hb dX3_startAnew_26 hl (k := 2) rfl (nI_add _ _) (by decide) rfl (fun ls hl => ?_)
      refine lv_goto (tgt := 10) hx hb dX3_startAnew_29 (by decide) ?_
      have hl : lv_has ls 3 [(0, .ref g0), (1, .int (nI M)), (2, .int (nI (i + 1)))] := lv_sub hl [1, 2, 0] rfl
      exact ih10 (i + 1) (upd bzv i (nI 0)) H locs ls (by omega) (fun j hj => by unfold upd; split; exact rfl; exact hI j (by omega)) (by omega) hP hD hS hl

theorem zw_eD {A B : Nat → Prop} {ws : va_W} (e : A = B) (h : va_D A ws) : va_D B ws := e ▸ h
theorem zw_eS {A B : Nat → Prop} {H0 H : Heap} {locs : List Loc} (e : A = B) (h : va_S A H0 H locs) : va_S B H0 H locs := e ▸ h
theorem zw_eP {D : va_G} {cl : List vw_C} {ws : va_W} {H K : Heap} (e : K = H) (h : va_P D cl ws H) : va_P D cl ws K := e ▸ h

set_option maxHeartbeats 4000000 in
set_option maxRecDepth 100000 in
theorem c_X3_become (l : Launch) (D : va_G) (E : Nat → ClassId) (g0 : Nat) (g1 : Nat) (g2 : Nat) (g3 : Nat) (g4 : Nat) (g5 : Nat) (g6 : Nat) (g7 : Nat) (sk : Nat) (h0 : Nat) (h1 : Nat) (h2 : Nat) (h3 : Nat) (h4 : Nat) (h5 : Nat) (h6 : Nat) (N : Nat) (hm : Nat → Int32) (aw : Nat → Int32) (rv : Nat → Int32) (sd : Nat → Int32) (gm : Nat → Int32) (ca : Nat → Int32) (G : Nat → Nat → Nat) (P : Nat → Nat → Nat) (xs : Nat → Int32) (ys : Nat → Int32) (bz : Nat → Int32) (rt : Nat → Int32) (s5 : Nat) (s6 : Nat) (s7 : Nat) (z5 : Nat) (z6 : Nat) (z7 : Nat) (c5 : Nat → Int32) (c6 : Nat → Int32) (c7 : Nat → Int32) (og0 : Nat) (og1 : Nat) (og2 : Nat) (og3 : Nat) (og4 : Nat) (og5 : Nat) (og6 : Nat) (og7 : Nat) (osk : Nat) (o0 : Nat) (o1 : Nat) (o2 : Nat) (o3 : Nat) (o4 : Nat) (o5 : Nat) (o6 : Nat) (N0 : Nat) (om : Nat → Int32) (oa : Nat → Int32) (ov : Nat → Int32) (os : Nat → Int32) (og : Nat → Int32) (oc : Nat → Int32) (oxs : Nat → Int32) (oys : Nat → Int32) (obz : Nat → Int32) (ort : Nat → Int32) (os5 : Nat) (os6 : Nat) (os7 : Nat) (oz5 : Nat) (oz6 : Nat) (oz7 : Nat) (oc5 : Nat → Int32) (oc6 : Nat → Int32) (oc7 : Nat → Int32) (hpo : zm_pl N G P om oa ov os og) (hfo : ∀ j, j < 30 → fits .boolean (.int (obz j)) = true) (hoz5 : oz5 ≤ 6) (hoz6 : oz6 ≤ 8) (hoz7 : oz7 ≤ 8) : Met l yX3_become wsX3_become ({ frames := 2, cells := 0, slots := 0, locals := 81 }) (zw_P D E [.ref g0, .ref og0] [(g0, .inr (2, [.ref h0, .ref g1, .ref g2, .ref g3, .ref g4, .int (nI sk), .ref g5, .ref g6, .ref g7])), (h0, .inr (0, [.int (nI N0), .ref h1, .ref h2, .ref h3, .ref h4, .ref h5, .ref h6])), (h1, .inl (E 0, 15, .inl hm)), (h2, .inl (E 0, 15, .inl aw)), (h3, .inl (E 0, 30, .inl rv)), (h4, .inl (E 0, 30, .inl sd)), (h5, .inl (E 0, 30, .inl gm)), (h6, .inl (E 0, 36, .inl ca)), (g1, .inl (E 0, 6, .inl xs)), (g2, .inl (E 0, 6, .inl ys)), (g3, .inl (E 1, 30, .inl bz)), (g4, .inl (E 0, 4, .inl rt)), (g5, .inr (1, [.int (nI 6), .ref s5, .int (nI z5)])), (s5, .inl (E 0, 48, .inl c5)), (g6, .inr (1, [.int (nI 8), .ref s6, .int (nI z6)])), (s6, .inl (E 0, 48, .inl c6)), (g7, .inr (1, [.int (nI 8), .ref s7, .int (nI z7)])), (s7, .inl (E 0, 48, .inl c7)), (og0, .inr (2, [.ref o0, .ref og1, .ref og2, .ref og3, .ref og4, .int (nI osk), .ref og5, .ref og6, .ref og7])), (o0, .inr (0, [.int (nI N), .ref o1, .ref o2, .ref o3, .ref o4, .ref o5, .ref o6])), (o1, .inl (E 0, 15, .inl om)), (o2, .inl (E 0, 15, .inl oa)), (o3, .inl (E 0, 30, .inl ov)), (o4, .inl (E 0, 30, .inl os)), (o5, .inl (E 0, 30, .inl og)), (o6, .inl (E 0, 36, .inl oc)), (og1, .inl (E 0, 6, .inl oxs)), (og2, .inl (E 0, 6, .inl oys)), (og3, .inl (E 1, 30, .inl obz)), (og4, .inl (E 0, 4, .inl ort)), (og5, .inr (1, [.int (nI 6), .ref os5, .int (nI oz5)])), (os5, .inl (E 0, 48, .inl oc5)), (og6, .inr (1, [.int (nI 8), .ref os6, .int (nI oz6)])), (os6, .inl (E 0, 48, .inl oc6)), (og7, .inr (1, [.int (nI 8), .ref os7, .int (nI oz7)])), (os7, .inl (E 0, 48, .inl oc7))]) (zw_Qv D [(g0, .inr (2, [.ref h0, .ref g1, .ref g2, .ref g3, .ref g4, .int (nI sk), .ref g5, .ref g6, .ref g7])), (h0, .inr (0, [.int (nI N0), .ref h1, .ref h2, .ref h3, .ref h4, .ref h5, .ref h6])), (h1, .inl (E 0, 15, .inl hm)), (h2, .inl (E 0, 15, .inl aw)), (h3, .inl (E 0, 30, .inl rv)), (h4, .inl (E 0, 30, .inl sd)), (h5, .inl (E 0, 30, .inl gm)), (h6, .inl (E 0, 36, .inl ca)), (g1, .inl (E 0, 6, .inl xs)), (g2, .inl (E 0, 6, .inl ys)), (g3, .inl (E 1, 30, .inl bz)), (g4, .inl (E 0, 4, .inl rt)), (g5, .inr (1, [.int (nI 6), .ref s5, .int (nI z5)])), (s5, .inl (E 0, 48, .inl c5)), (g6, .inr (1, [.int (nI 8), .ref s6, .int (nI z6)])), (s6, .inl (E 0, 48, .inl c6)), (g7, .inr (1, [.int (nI 8), .ref s7, .int (nI z7)])), (s7, .inl (E 0, 48, .inl c7)), (og0, .inr (2, [.ref o0, .ref og1, .ref og2, .ref og3, .ref og4, .int (nI osk), .ref og5, .ref og6, .ref og7])), (o0, .inr (0, [.int (nI N), .ref o1, .ref o2, .ref o3, .ref o4, .ref o5, .ref o6])), (o1, .inl (E 0, 15, .inl om)), (o2, .inl (E 0, 15, .inl oa)), (o3, .inl (E 0, 30, .inl ov)), (o4, .inl (E 0, 30, .inl os)), (o5, .inl (E 0, 30, .inl og)), (o6, .inl (E 0, 36, .inl oc)), (og1, .inl (E 0, 6, .inl oxs)), (og2, .inl (E 0, 6, .inl oys)), (og3, .inl (E 1, 30, .inl obz)), (og4, .inl (E 0, 4, .inl ort)), (og5, .inr (1, [.int (nI 6), .ref os5, .int (nI oz5)])), (os5, .inl (E 0, 48, .inl oc5)), (og6, .inr (1, [.int (nI 8), .ref os6, .int (nI oz6)])), (os6, .inl (E 0, 48, .inl oc6)), (og7, .inr (1, [.int (nI 8), .ref os7, .int (nI oz7)])), (os7, .inl (E 0, 48, .inl oc7))] (fun (u : (Nat → Int32) × (Nat → Int32) × (Nat → Int32) × (Nat → Int32) × (Nat → Int32) × (Nat → Int32) × (Nat → Int32) × (Nat → Int32) × (Nat → Int32) × (Nat → Int32) × (Nat → Int32) × (Nat → Int32)) => zm_pl N G P u.1 u.2.1 u.2.2.1 u.2.2.2.1 u.2.2.2.2.1 ∧ (∀ j, j < 6 → u.2.2.2.2.2.1 j = oxs j) ∧ (∀ j, j < 6 → u.2.2.2.2.2.2.1 j = oys j) ∧ (∀ j, j < 30 → u.2.2.2.2.2.2.2.1 j = obz j) ∧ (∀ j, j < 4 → u.2.2.2.2.2.2.2.2.1 j = ort j) ∧ (∀ j, j < 48 → u.2.2.2.2.2.2.2.2.2.1 j = oc5 j) ∧ (∀ j, j < 48 → u.2.2.2.2.2.2.2.2.2.2.1 j = oc6 j) ∧ (∀ j, j < 48 → u.2.2.2.2.2.2.2.2.2.2.2 j = oc7 j)) (fun (u : (Nat → Int32) × (Nat → Int32) × (Nat → Int32) × (Nat → Int32) × (Nat → Int32) × (Nat → Int32) × (Nat → Int32) × (Nat → Int32) × (Nat → Int32) × (Nat → Int32) × (Nat → Int32) × (Nat → Int32)) => [(g0, .inr (2, [.ref h0, .ref g1, .ref g2, .ref g3, .ref g4, .int (nI osk), .ref g5, .ref g6, .ref g7])), (h0, .inr (0, [.int (nI N), .ref h1, .ref h2, .ref h3, .ref h4, .ref h5, .ref h6])), (h1, .inl (E 0, 15, .inl u.1)), (h2, .inl (E 0, 15, .inl u.2.1)), (h3, .inl (E 0, 30, .inl u.2.2.1)), (h4, .inl (E 0, 30, .inl u.2.2.2.1)), (h5, .inl (E 0, 30, .inl u.2.2.2.2.1)), (h6, .inl (E 0, 36, .inl ca)), (g1, .inl (E 0, 6, .inl u.2.2.2.2.2.1)), (g2, .inl (E 0, 6, .inl u.2.2.2.2.2.2.1)), (g3, .inl (E 1, 30, .inl u.2.2.2.2.2.2.2.1)), (g4, .inl (E 0, 4, .inl u.2.2.2.2.2.2.2.2.1)), (g5, .inr (1, [.int (nI 6), .ref s5, .int (nI oz5)])), (s5, .inl (E 0, 48, .inl u.2.2.2.2.2.2.2.2.2.1)), (g6, .inr (1, [.int (nI 8), .ref s6, .int (nI oz6)])), (s6, .inl (E 0, 48, .inl u.2.2.2.2.2.2.2.2.2.2.1)), (g7, .inr (1, [.int (nI 8), .ref s7, .int (nI oz7)])), (s7, .inl (E 0, 48, .inl u.2.2.2.2.2.2.2.2.2.2.2)), (og0, .inr (2, [.ref o0, .ref og1, .ref og2, .ref og3, .ref og4, .int (nI osk), .ref og5, .ref og6, .ref og7])), (o0, .inr (0, [.int (nI N), .ref o1, .ref o2, .ref o3, .ref o4, .ref o5, .ref o6])), (o1, .inl (E 0, 15, .inl om)), (o2, .inl (E 0, 15, .inl oa)), (o3, .inl (E 0, 30, .inl ov)), (o4, .inl (E 0, 30, .inl os)), (o5, .inl (E 0, 30, .inl og)), (o6, .inl (E 0, 36, .inl oc)), (og1, .inl (E 0, 6, .inl oxs)), (og2, .inl (E 0, 6, .inl oys)), (og3, .inl (E 1, 30, .inl obz)), (og4, .inl (E 0, 4, .inl ort)), (og5, .inr (1, [.int (nI 6), .ref os5, .int (nI oz5)])), (os5, .inl (E 0, 48, .inl oc5)), (og6, .inr (1, [.int (nI 8), .ref os6, .int (nI oz6)])), (os6, .inl (E 0, 48, .inl oc6)), (og7, .inr (1, [.int (nI 8), .ref os7, .int (nI oz7)])), (os7, .inl (E 0, 48, .inl oc7))])) 0 0 (zw_A [(g0, .inr (2, [.ref h0, .ref g1, .ref g2, .ref g3, .ref g4, .int (nI sk), .ref g5, .ref g6, .ref g7])), (h0, .inr (0, [.int (nI N0), .ref h1, .ref h2, .ref h3, .ref h4, .ref h5, .ref h6])), (h1, .inl (E 0, 15, .inl hm)), (h2, .inl (E 0, 15, .inl aw)), (h3, .inl (E 0, 30, .inl rv)), (h4, .inl (E 0, 30, .inl sd)), (h5, .inl (E 0, 30, .inl gm)), (h6, .inl (E 0, 36, .inl ca)), (g1, .inl (E 0, 6, .inl xs)), (g2, .inl (E 0, 6, .inl ys)), (g3, .inl (E 1, 30, .inl bz)), (g4, .inl (E 0, 4, .inl rt)), (g5, .inr (1, [.int (nI 6), .ref s5, .int (nI z5)])), (s5, .inl (E 0, 48, .inl c5)), (g6, .inr (1, [.int (nI 8), .ref s6, .int (nI z6)])), (s6, .inl (E 0, 48, .inl c6)), (g7, .inr (1, [.int (nI 8), .ref s7, .int (nI z7)])), (s7, .inl (E 0, 48, .inl c7)), (og0, .inr (2, [.ref o0, .ref og1, .ref og2, .ref og3, .ref og4, .int (nI osk), .ref og5, .ref og6, .ref og7])), (o0, .inr (0, [.int (nI N), .ref o1, .ref o2, .ref o3, .ref o4, .ref o5, .ref o6])), (o1, .inl (E 0, 15, .inl om)), (o2, .inl (E 0, 15, .inl oa)), (o3, .inl (E 0, 30, .inl ov)), (o4, .inl (E 0, 30, .inl os)), (o5, .inl (E 0, 30, .inl og)), (o6, .inl (E 0, 36, .inl oc)), (og1, .inl (E 0, 6, .inl oxs)), (og2, .inl (E 0, 6, .inl oys)), (og3, .inl (E 1, 30, .inl obz)), (og4, .inl (E 0, 4, .inl ort)), (og5, .inr (1, [.int (nI 6), .ref os5, .int (nI oz5)])), (os5, .inl (E 0, 48, .inl oc5)), (og6, .inr (1, [.int (nI 8), .ref os6, .int (nI oz6)])), (os6, .inl (E 0, 48, .inl oc6)), (og7, .inr (1, [.int (nI 8), .ref os7, .int (nI oz7)])), (os7, .inl (E 0, 48, .inl oc7))]) := by
  refine Met.ofW (cc := cX3_become) (maxL := 2) (ret := none) (by decide) rfl ?_
  intro p e s m args below meth c s₁ Bz hml hv
  obtain ⟨rfl, hP, hK, hD0⟩ := hv
  have hx := Bz.exec
  have hb := Bz.bytes
  have hr := Bz.returns
  have hts := atoms_spec (ws := wsX3_become) Bz.pre
  have hown : s.vm.findClass RX3 = some m.cls := findClass_of_methodNamed Bz.named
  have hlocks := Bz.notSynchronized
  have hP : va_P D vwCl [(g0, .inr (2, [.ref h0, .ref g1, .ref g2, .ref g3, .ref g4, .int (nI sk), .ref g5, .ref g6, .ref g7])), (h0, .inr (0, [.int (nI N0), .ref h1, .ref h2, .ref h3, .ref h4, .ref h5, .ref h6])), (h1, .inl (E 0, 15, .inl hm)), (h2, .inl (E 0, 15, .inl aw)), (h3, .inl (E 0, 30, .inl rv)), (h4, .inl (E 0, 30, .inl sd)), (h5, .inl (E 0, 30, .inl gm)), (h6, .inl (E 0, 36, .inl ca)), (g1, .inl (E 0, 6, .inl xs)), (g2, .inl (E 0, 6, .inl ys)), (g3, .inl (E 1, 30, .inl bz)), (g4, .inl (E 0, 4, .inl rt)), (g5, .inr (1, [.int (nI 6), .ref s5, .int (nI z5)])), (s5, .inl (E 0, 48, .inl c5)), (g6, .inr (1, [.int (nI 8), .ref s6, .int (nI z6)])), (s6, .inl (E 0, 48, .inl c6)), (g7, .inr (1, [.int (nI 8), .ref s7, .int (nI z7)])), (s7, .inl (E 0, 48, .inl c7)), (og0, .inr (2, [.ref o0, .ref og1, .ref og2, .ref og3, .ref og4, .int (nI osk), .ref og5, .ref og6, .ref og7])), (o0, .inr (0, [.int (nI N), .ref o1, .ref o2, .ref o3, .ref o4, .ref o5, .ref o6])), (o1, .inl (E 0, 15, .inl om)), (o2, .inl (E 0, 15, .inl oa)), (o3, .inl (E 0, 30, .inl ov)), (o4, .inl (E 0, 30, .inl os)), (o5, .inl (E 0, 30, .inl og)), (o6, .inl (E 0, 36, .inl oc)), (og1, .inl (E 0, 6, .inl oxs)), (og2, .inl (E 0, 6, .inl oys)), (og3, .inl (E 1, 30, .inl obz)), (og4, .inl (E 0, 4, .inl ort)), (og5, .inr (1, [.int (nI 6), .ref os5, .int (nI oz5)])), (os5, .inl (E 0, 48, .inl oc5)), (og6, .inr (1, [.int (nI 8), .ref os6, .int (nI oz6)])), (os6, .inl (E 0, 48, .inl oc6)), (og7, .inr (1, [.int (nI 8), .ref os7, .int (nI oz7)])), (os7, .inl (E 0, 48, .inl oc7))] s.heap := hP
  obtain ⟨A, hAe⟩ : ∃ A : Nat → Prop, A = zw_A [(g0, .inr (2, [.ref h0, .ref g1, .ref g2, .ref g3, .ref g4, .int (nI sk), .ref g5, .ref g6, .ref g7])), (h0, .inr (0, [.int (nI N0), .ref h1, .ref h2, .ref h3, .ref h4, .ref h5, .ref h6])), (h1, .inl (E 0, 15, .inl hm)), (h2, .inl (E 0, 15, .inl aw)), (h3, .inl (E 0, 30, .inl rv)), (h4, .inl (E 0, 30, .inl sd)), (h5, .inl (E 0, 30, .inl gm)), (h6, .inl (E 0, 36, .inl ca)), (g1, .inl (E 0, 6, .inl xs)), (g2, .inl (E 0, 6, .inl ys)), (g3, .inl (E 1, 30, .inl bz)), (g4, .inl (E 0, 4, .inl rt)), (g5, .inr (1, [.int (nI 6), .ref s5, .int (nI z5)])), (s5, .inl (E 0, 48, .inl c5)), (g6, .inr (1, [.int (nI 8), .ref s6, .int (nI z6)])), (s6, .inl (E 0, 48, .inl c6)), (g7, .inr (1, [.int (nI 8), .ref s7, .int (nI z7)])), (s7, .inl (E 0, 48, .inl c7)), (og0, .inr (2, [.ref o0, .ref og1, .ref og2, .ref og3, .ref og4, .int (nI osk), .ref og5, .ref og6, .ref og7])), (o0, .inr (0, [.int (nI N), .ref o1, .ref o2, .ref o3, .ref o4, .ref o5, .ref o6])), (o1, .inl (E 0, 15, .inl om)), (o2, .inl (E 0, 15, .inl oa)), (o3, .inl (E 0, 30, .inl ov)), (o4, .inl (E 0, 30, .inl os)), (o5, .inl (E 0, 30, .inl og)), (o6, .inl (E 0, 36, .inl oc)), (og1, .inl (E 0, 6, .inl oxs)), (og2, .inl (E 0, 6, .inl oys)), (og3, .inl (E 1, 30, .inl obz)), (og4, .inl (E 0, 4, .inl ort)), (og5, .inr (1, [.int (nI 6), .ref os5, .int (nI oz5)])), (os5, .inl (E 0, 48, .inl oc5)), (og6, .inr (1, [.int (nI 8), .ref os6, .int (nI oz6)])), (os6, .inl (E 0, 48, .inl oc6)), (og7, .inr (1, [.int (nI 8), .ref os7, .int (nI oz7)])), (os7, .inl (E 0, 48, .inl oc7))] := ⟨_, rfl⟩
  have hD : va_D A [(g0, .inr (2, [.ref h0, .ref g1, .ref g2, .ref g3, .ref g4, .int (nI sk), .ref g5, .ref g6, .ref g7])), (h0, .inr (0, [.int (nI N0), .ref h1, .ref h2, .ref h3, .ref h4, .ref h5, .ref h6])), (h1, .inl (E 0, 15, .inl hm)), (h2, .inl (E 0, 15, .inl aw)), (h3, .inl (E 0, 30, .inl rv)), (h4, .inl (E 0, 30, .inl sd)), (h5, .inl (E 0, 30, .inl gm)), (h6, .inl (E 0, 36, .inl ca)), (g1, .inl (E 0, 6, .inl xs)), (g2, .inl (E 0, 6, .inl ys)), (g3, .inl (E 1, 30, .inl bz)), (g4, .inl (E 0, 4, .inl rt)), (g5, .inr (1, [.int (nI 6), .ref s5, .int (nI z5)])), (s5, .inl (E 0, 48, .inl c5)), (g6, .inr (1, [.int (nI 8), .ref s6, .int (nI z6)])), (s6, .inl (E 0, 48, .inl c6)), (g7, .inr (1, [.int (nI 8), .ref s7, .int (nI z7)])), (s7, .inl (E 0, 48, .inl c7)), (og0, .inr (2, [.ref o0, .ref og1, .ref og2, .ref og3, .ref og4, .int (nI osk), .ref og5, .ref og6, .ref og7])), (o0, .inr (0, [.int (nI N), .ref o1, .ref o2, .ref o3, .ref o4, .ref o5, .ref o6])), (o1, .inl (E 0, 15, .inl om)), (o2, .inl (E 0, 15, .inl oa)), (o3, .inl (E 0, 30, .inl ov)), (o4, .inl (E 0, 30, .inl os)), (o5, .inl (E 0, 30, .inl og)), (o6, .inl (E 0, 36, .inl oc)), (og1, .inl (E 0, 6, .inl oxs)), (og2, .inl (E 0, 6, .inl oys)), (og3, .inl (E 1, 30, .inl obz)), (og4, .inl (E 0, 4, .inl ort)), (og5, .inr (1, [.int (nI 6), .ref os5, .int (nI oz5)])), (os5, .inl (E 0, 48, .inl oc5)), (og6, .inr (1, [.int (nI 8), .ref os6, .int (nI oz6)])), (os6, .inl (E 0, 48, .inl oc6)), (og7, .inr (1, [.int (nI 8), .ref os7, .int (nI oz7)])), (os7, .inl (E 0, 48, .inl oc7))] := hAe ▸ zw_own hD0
  have hS : va_S A s.heap s.heap [] := va_S.rf
  have hl := lv_entry ([.ref g0, .ref og0]) (n := 2) (Nat.le_of_ble_eq_true rfl)
  rw [lg_entry_eq]
  generalize (lg_sl ([.ref g0, .ref og0]) ++ List.replicate (2 - (lg_sl ([.ref g0, .ref og0])).length) Slot.unset).toArray = ls at hl ⊢
  have hl : lv_has ls 2 [(0, .ref g0), (1, .ref og0)] := hl
  refine zr_nQ (fun Q hQ => ?_)
  refine lv_aload_n hx hb dX3_become_0 rfl (lv_at hl 0 rfl) ?_
  refine va_get (D := D) (ci := 2) (v := .ref h0) (C := RX3) (T := TX3) (N := 9) hx hb hts (by decide +kernel) hown hK.1 hP 0 rfl rfl 0 (by decide) (hts (.fieldLink RX3 12 "HomeRounds$Setting" "plan" "LHomeRounds$Plan;") (by decide +kernel)) (fun _ h9 => h9) rfl dX3_become_1 ?_
  refine lv_aload_n hx hb dX3_become_4 rfl (lv_at hl 1 rfl) ?_
  refine va_get (D := D) (ci := 2) (v := .ref o0) (C := RX3) (T := TX3) (N := 9) hx hb hts (by decide +kernel) hown hK.1 hP 18 rfl rfl 0 (by decide) (hts (.fieldLink RX3 12 "HomeRounds$Setting" "plan" "LHomeRounds$Plan;") (by decide +kernel)) (fun _ h9 => h9) rfl dX3_become_5 ?_
  have hPc := hP.sub (ws' := [(h0, .inr (0, [.int (nI N0), .ref h1, .ref h2, .ref h3, .ref h4, .ref h5, .ref h6])), (h1, .inl (E 0, 15, .inl hm)), (h2, .inl (E 0, 15, .inl aw)), (h3, .inl (E 0, 30, .inl rv)), (h4, .inl (E 0, 30, .inl sd)), (h5, .inl (E 0, 30, .inl gm)), (h6, .inl (E 0, 36, .inl ca)), (o0, .inr (0, [.int (nI N), .ref o1, .ref o2, .ref o3, .ref o4, .ref o5, .ref o6])), (o1, .inl (E 0, 15, .inl om)), (o2, .inl (E 0, 15, .inl oa)), (o3, .inl (E 0, 30, .inl ov)), (o4, .inl (E 0, 30, .inl os)), (o5, .inl (E 0, 30, .inl og)), (o6, .inl (E 0, 36, .inl oc))]) [1, 2, 3, 4, 5, 6, 7, 19, 20, 21, 22, 23, 24, 25] rfl
  have hDc := hD.sub (ws' := [(h0, .inr (0, [.int (nI N0), .ref h1, .ref h2, .ref h3, .ref h4, .ref h5, .ref h6])), (h1, .inl (E 0, 15, .inl hm)), (h2, .inl (E 0, 15, .inl aw)), (h3, .inl (E 0, 30, .inl rv)), (h4, .inl (E 0, 30, .inl sd)), (h5, .inl (E 0, 30, .inl gm)), (h6, .inl (E 0, 36, .inl ca)), (o0, .inr (0, [.int (nI N), .ref o1, .ref o2, .ref o3, .ref o4, .ref o5, .ref o6])), (o1, .inl (E 0, 15, .inl om)), (o2, .inl (E 0, 15, .inl oa)), (o3, .inl (E 0, 30, .inl ov)), (o4, .inl (E 0, 30, .inl os)), (o5, .inl (E 0, 30, .inl og)), (o6, .inl (E 0, 36, .inl oc))]) [1, 2, 3, 4, 5, 6, 7, 19, 20, 21, 22, 23, 24, 25] (by decide +kernel) rfl
  have hAc := zw_AA (wc := [(h0, .inr (0, [.int (nI N0), .ref h1, .ref h2, .ref h3, .ref h4, .ref h5, .ref h6])), (h1, .inl (E 0, 15, .inl hm)), (h2, .inl (E 0, 15, .inl aw)), (h3, .inl (E 0, 30, .inl rv)), (h4, .inl (E 0, 30, .inl sd)), (h5, .inl (E 0, 30, .inl gm)), (h6, .inl (E 0, 36, .inl ca)), (o0, .inr (0, [.int (nI N), .ref o1, .ref o2, .ref o3, .ref o4, .ref o5, .ref o6])), (o1, .inl (E 0, 15, .inl om)), (o2, .inl (E 0, 15, .inl oa)), (o3, .inl (E 0, 30, .inl ov)), (o4, .inl (E 0, 30, .inl os)), (o5, .inl (E 0, 30, .inl og)), (o6, .inl (E 0, 36, .inl oc))]) hD [1, 2, 3, 4, 5, 6, 7, 19, 20, 21, 22, 23, 24, 25] rfl
  refine zw_cv hAc hS (va_runV (As := [.ref o0]) (rest := []) ⟨hx, hb, hml, hown, hts⟩ (c_X1_become l D E h0 h1 h2 h3 h4 h5 h6 N hm aw rv sd gm ca G P o0 o1 o2 o3 o4 o5 o6 N0 om oa ov os og oc (hpo)) (cwV 1 hts gX3_become_X1_become rfl rfl rfl (by decide +kernel) ⟨Nat.le_of_ble_eq_true rfl, Nat.le_of_ble_eq_true rfl⟩) (zw_V hK hPc hDc (ci := 0) (q0 := 0) rfl rfl) rfl rfl hl.1 rfl (lv_room (Nat.le_of_ble_eq_true rfl)) dX3_become_8 ⟨Nat.zero_le _, Nat.zero_le _⟩) (fun u_3 H locs hw_2 hP1 hD1 hk1 hS => ?_)
  obtain ⟨hm_4, aw_5, rv_6, sd_7, gm_8⟩ := u_3
  try dsimp only at hw_2 hP1 hD1
  obtain ⟨hP, hD⟩ := zw_join (wr := [(g0, .inr (2, [.ref h0, .ref g1, .ref g2, .ref g3, .ref g4, .int (nI sk), .ref g5, .ref g6, .ref g7])), (g1, .inl (E 0, 6, .inl xs)), (g2, .inl (E 0, 6, .inl ys)), (g3, .inl (E 1, 30, .inl bz)), (g4, .inl (E 0, 4, .inl rt)), (g5, .inr (1, [.int (nI 6), .ref s5, .int (nI z5)])), (s5, .inl (E 0, 48, .inl c5)), (g6, .inr (1, [.int (nI 8), .ref s6, .int (nI z6)])), (s6, .inl (E 0, 48, .inl c6)), (g7, .inr (1, [.int (nI 8), .ref s7, .int (nI z7)])), (s7, .inl (E 0, 48, .inl c7)), (og0, .inr (2, [.ref o0, .ref og1, .ref og2, .ref og3, .ref og4, .int (nI osk), .ref og5, .ref og6, .ref og7])), (og1, .inl (E 0, 6, .inl oxs)), (og2, .inl (E 0, 6, .inl oys)), (og3, .inl (E 1, 30, .inl obz)), (og4, .inl (E 0, 4, .inl ort)), (og5, .inr (1, [.int (nI 6), .ref os5, .int (nI oz5)])), (os5, .inl (E 0, 48, .inl oc5)), (og6, .inr (1, [.int (nI 8), .ref os6, .int (nI oz6)])), (os6, .inl (E 0, 48, .inl oc6)), (og7, .inr (1, [.int (nI 8), .ref os7, .int (nI oz7)])), (os7, .inl (E 0, 48, .inl oc7))]) (w1 := [(h0, .inr (0, [.int (nI N), .ref h1, .ref h2, .ref h3, .ref h4, .ref h5, .ref h6])), (h1, .inl (E 0, 15, .inl hm_4)), (h2, .inl (E 0, 15, .inl aw_5)), (h3, .inl (E 0, 30, .inl rv_6)), (h4, .inl (E 0, 30, .inl sd_7)), (h5, .inl (E 0, 30, .inl gm_8)), (h6, .inl (E 0, 36, .inl ca)), (o0, .inr (0, [.int (nI N), .ref o1, .ref o2, .ref o3, .ref o4, .ref o5, .ref o6])), (o1, .inl (E 0, 15, .inl om)), (o2, .inl (E 0, 15, .inl oa)), (o3, .inl (E 0, 30, .inl ov)), (o4, .inl (E 0, 30, .inl os)), (o5, .inl (E 0, 30, .inl og)), (o6, .inl (E 0, 36, .inl oc))]) (ws' := [(g0, .inr (2, [.ref h0, .ref g1, .ref g2, .ref g3, .ref g4, .int (nI sk), .ref g5, .ref g6, .ref g7])), (h0, .inr (0, [.int (nI N), .ref h1, .ref h2, .ref h3, .ref h4, .ref h5, .ref h6])), (h1, .inl (E 0, 15, .inl hm_4)), (h2, .inl (E 0, 15, .inl aw_5)), (h3, .inl (E 0, 30, .inl rv_6)), (h4, .inl (E 0, 30, .inl sd_7)), (h5, .inl (E 0, 30, .inl gm_8)), (h6, .inl (E 0, 36, .inl ca)), (g1, .inl (E 0, 6, .inl xs)), (g2, .inl (E 0, 6, .inl ys)), (g3, .inl (E 1, 30, .inl bz)), (g4, .inl (E 0, 4, .inl rt)), (g5, .inr (1, [.int (nI 6), .ref s5, .int (nI z5)])), (s5, .inl (E 0, 48, .inl c5)), (g6, .inr (1, [.int (nI 8), .ref s6, .int (nI z6)])), (s6, .inl (E 0, 48, .inl c6)), (g7, .inr (1, [.int (nI 8), .ref s7, .int (nI z7)])), (s7, .inl (E 0, 48, .inl c7)), (og0, .inr (2, [.ref o0, .ref og1, .ref og2, .ref og3, .ref og4, .int (nI osk), .ref og5, .ref og6, .ref og7])), (o0, .inr (0, [.int (nI N), .ref o1, .ref o2, .ref o3, .ref o4, .ref o5, .ref o6])), (o1, .inl (E 0, 15, .inl om)), (o2, .inl (E 0, 15, .inl oa)), (o3, .inl (E 0, 30, .inl ov)), (o4, .inl (E 0, 30, .inl os)), (o5, .inl (E 0, 30, .inl og)), (o6, .inl (E 0, 36, .inl oc)), (og1, .inl (E 0, 6, .inl oxs)), (og2, .inl (E 0, 6, .inl oys)), (og3, .inl (E 1, 30, .inl obz)), (og4, .inl (E 0, 4, .inl ort)), (og5, .inr (1, [.int (nI 6), .ref os5, .int (nI oz5)])), (os5, .inl (E 0, 48, .inl oc5)), (og6, .inr (1, [.int (nI 8), .ref os6, .int (nI oz6)])), (os6, .inl (E 0, 48, .inl oc6)), (og7, .inr (1, [.int (nI 8), .ref os7, .int (nI oz7)])), (os7, .inl (E 0, 48, .inl oc7))]) hP hD [1, 2, 3, 4, 5, 6, 7, 19, 20, 21, 22, 23, 24, 25] [0, 8, 9, 10, 11, 12, 13, 14, 15, 16, 17, 18, 26, 27, 28, 29, 30, 31, 32, 33, 34, 35] [0, 22, 23, 24, 25, 26, 27, 28, 1, 2, 3, 4, 5, 6, 7, 8, 9, 10, 11, 29, 30, 31, 32, 33, 34, 35, 12, 13, 14, 15, 16, 17, 18, 19, 20, 21] rfl rfl (by decide +kernel) (by decide +kernel) hAc hk1 hP1 hD1 (by decide +kernel) rfl
  clear hP1 hD1 hk1 hPc hDc hAc
  have hp1 := hw_2
  refine lv_aload_n hx hb dX3_become_11 rfl (lv_at hl 1 rfl) ?_
  refine va_get (D := D) (ci := 2) (v := .ref og1) (C := RX3) (T := TX3) (N := 9) hx hb hts (by decide +kernel) hown hK.1 hP 18 rfl rfl 1 (by decide) (hts (.fieldLink RX3 18 "HomeRounds$Setting" "xs" "[I") (by decide +kernel)) (fun _ h9 => h9) rfl dX3_become_12 ?_
  refine lv_iconst (v := nI 0) hx hb dX3_become_15 (by rfl) ?_
  refine lv_aload_n hx hb dX3_become_16 rfl (lv_at hl 0 rfl) ?_
  refine va_get (D := D) (ci := 2) (v := .ref g1) (C := RX3) (T := TX3) (N := 9) hx hb hts (by decide +kernel) hown hK.1 hP 0 rfl rfl 1 (by decide) (hts (.fieldLink RX3 18 "HomeRounds$Setting" "xs" "[I") (by decide +kernel)) (fun _ h9 => h9) rfl dX3_become_17 ?_
  refine lv_iconst (v := nI 0) hx hb dX3_become_20 (by rfl) ?_
  refine lv_aload_n hx hb dX3_become_21 rfl (lv_at hl 0 rfl) ?_
  refine va_get (D := D) (ci := 2) (v := .ref g1) (C := RX3) (T := TX3) (N := 9) hx hb hts (by decide +kernel) hown hK.1 hP 0 rfl rfl 1 (by decide) (hts (.fieldLink RX3 18 "HomeRounds$Setting" "xs" "[I") (by decide +kernel)) (fun _ h9 => h9) rfl dX3_become_22 ?_
  refine va_alen hx hb hK.1 hP 8 0 rfl rfl (v := nI 6) rfl dX3_become_25 ?_
  refine va_copyi hx hb (hml.trans hl.1.symm) hown (hts (.methodLink RX3 57 arraycopyName) (by decide +kernel)) (hts (.native arraycopyName) (by decide +kernel)) (hts (.static arraycopyName) (by decide +kernel)) (hts (.initialized "java/lang/System") (by decide +kernel)) hK.1 hP hD hS 26 8 0 0 rfl rfl rfl rfl rfl (by decide +kernel) (by decide +kernel) (by decide +kernel) (by decide +kernel) (by decide +kernel) (fun _ _ => rfl) (Nat.le_of_ble_eq_true rfl) (by decide) dX3_become_26 (fun H locs hP hD hS => ?_)
  have hP : va_P D vwCl [(g0, .inr (2, [.ref h0, .ref g1, .ref g2, .ref g3, .ref g4, .int (nI sk), .ref g5, .ref g6, .ref g7])), (h0, .inr (0, [.int (nI N), .ref h1, .ref h2, .ref h3, .ref h4, .ref h5, .ref h6])), (h1, .inl (E 0, 15, .inl hm_4)), (h2, .inl (E 0, 15, .inl aw_5)), (h3, .inl (E 0, 30, .inl rv_6)), (h4, .inl (E 0, 30, .inl sd_7)), (h5, .inl (E 0, 30, .inl gm_8)), (h6, .inl (E 0, 36, .inl ca)), (g1, .inl (E 0, 6, .inl (va_cpy oxs xs (nI 0).toNatClampNeg (nI 0).toNatClampNeg (nI 6).toNatClampNeg))), (g2, .inl (E 0, 6, .inl ys)), (g3, .inl (E 1, 30, .inl bz)), (g4, .inl (E 0, 4, .inl rt)), (g5, .inr (1, [.int (nI 6), .ref s5, .int (nI z5)])), (s5, .inl (E 0, 48, .inl c5)), (g6, .inr (1, [.int (nI 8), .ref s6, .int (nI z6)])), (s6, .inl (E 0, 48, .inl c6)), (g7, .inr (1, [.int (nI 8), .ref s7, .int (nI z7)])), (s7, .inl (E 0, 48, .inl c7)), (og0, .inr (2, [.ref o0, .ref og1, .ref og2, .ref og3, .ref og4, .int (nI osk), .ref og5, .ref og6, .ref og7])), (o0, .inr (0, [.int (nI N), .ref o1, .ref o2, .ref o3, .ref o4, .ref o5, .ref o6])), (o1, .inl (E 0, 15, .inl om)), (o2, .inl (E 0, 15, .inl oa)), (o3, .inl (E 0, 30, .inl ov)), (o4, .inl (E 0, 30, .inl os)), (o5, .inl (E 0, 30, .inl og)), (o6, .inl (E 0, 36, .inl oc)), (og1, .inl (E 0, 6, .inl oxs)), (og2, .inl (E 0, 6, .inl oys)), (og3, .inl (E 1, 30, .inl obz)), (og4, .inl (E 0, 4, .inl ort)), (og5, .inr (1, [.int (nI 6), .ref os5, .int (nI oz5)])), (os5, .inl (E 0, 48, .inl oc5)), (og6, .inr (1, [.int (nI 8), .ref os6, .int (nI oz6)])), (os6, .inl (E 0, 48, .inl oc6)), (og7, .inr (1, [.int (nI 8), .ref os7, .int (nI oz7)])), (os7, .inl (E 0, 48, .inl oc7))] H := hP
  have hD : va_D A [(g0, .inr (2, [.ref h0, .ref g1, .ref g2, .ref g3, .ref g4, .int (nI sk), .ref g5, .ref g6, .ref g7])), (h0, .inr (0, [.int (nI N), .ref h1, .ref h2, .ref h3, .ref h4, .ref h5, .ref h6])), (h1, .inl (E 0, 15, .inl hm_4)), (h2, .inl (E 0, 15, .inl aw_5)), (h3, .inl (E 0, 30, .inl rv_6)), (h4, .inl (E 0, 30, .inl sd_7)), (h5, .inl (E 0, 30, .inl gm_8)), (h6, .inl (E 0, 36, .inl ca)), (g1, .inl (E 0, 6, .inl (va_cpy oxs xs (nI 0).toNatClampNeg (nI 0).toNatClampNeg (nI 6).toNatClampNeg))), (g2, .inl (E 0, 6, .inl ys)), (g3, .inl (E 1, 30, .inl bz)), (g4, .inl (E 0, 4, .inl rt)), (g5, .inr (1, [.int (nI 6), .ref s5, .int (nI z5)])), (s5, .inl (E 0, 48, .inl c5)), (g6, .inr (1, [.int (nI 8), .ref s6, .int (nI z6)])), (s6, .inl (E 0, 48, .inl c6)), (g7, .inr (1, [.int (nI 8), .ref s7, .int (nI z7)])), (s7, .inl (E 0, 48, .inl c7)), (og0, .inr (2, [.ref o0, .ref og1, .ref og2, .ref og3, .ref og4, .int (nI osk), .ref og5, .ref og6, .ref og7])), (o0, .inr (0, [.int (nI N), .ref o1, .ref o2, .ref o3, .ref o4, .ref o5, .ref o6])), (o1, .inl (E 0, 15, .inl om)), (o2, .inl (E 0, 15, .inl oa)), (o3, .inl (E 0, 30, .inl ov)), (o4, .inl (E 0, 30, .inl os)), (o5, .inl (E 0, 30, .inl og)), (o6, .inl (E 0, 36, .inl oc)), (og1, .inl (E 0, 6, .inl oxs)), (og2, .inl (E 0, 6, .inl oys)), (og3, .inl (E 1, 30, .inl obz)), (og4, .inl (E 0, 4, .inl ort)), (og5, .inr (1, [.int (nI 6), .ref os5, .int (nI oz5)])), (os5, .inl (E 0, 48, .inl oc5)), (og6, .inr (1, [.int (nI 8), .ref os6, .int (nI oz6)])), (os6, .inl (E 0, 48, .inl oc6)), (og7, .inr (1, [.int (nI 8), .ref os7, .int (nI oz7)])), (os7, .inl (E 0, 48, .inl oc7))] := hD
  obtain ⟨xs9, hxs9⟩ : ∃ zf : Nat → Int32, zf = (va_cpy oxs xs (nI 0).toNatClampNeg (nI 0).toNatClampNeg (nI 6).toNatClampNeg) := ⟨_, rfl⟩
  rw [← hxs9] at hP hD
  have kxs9 : ∀ j, j < 6 → xs9 j = oxs j := fun j hj => by rw [hxs9]; exact zn_cpy (by omega) hj
  clear hxs9
  refine lv_aload_n hx hb dX3_become_29 rfl (lv_at hl 1 rfl) ?_
  refine va_get (D := D) (ci := 2) (v := .ref og2) (C := RX3) (T := TX3) (N := 9) hx hb hts (by decide +kernel) hown hK.1 hP 18 rfl rfl 2 (by decide) (hts (.fieldLink RX3 22 "HomeRounds$Setting" "ys" "[I") (by decide +kernel)) (fun _ h9 => h9) rfl dX3_become_30 ?_
  refine lv_iconst (v := nI 0) hx hb dX3_become_33 (by rfl) ?_
  refine lv_aload_n hx hb dX3_become_34 rfl (lv_at hl 0 rfl) ?_
  refine va_get (D := D) (ci := 2) (v := .ref g2) (C := RX3) (T := TX3) (N := 9) hx hb hts (by decide +kernel) hown hK.1 hP 0 rfl rfl 2 (by decide) (hts (.fieldLink RX3 22 "HomeRounds$Setting" "ys" "[I") (by decide +kernel)) (fun _ h9 => h9) rfl dX3_become_35 ?_
  refine lv_iconst (v := nI 0) hx hb dX3_become_38 (by rfl) ?_
  refine lv_aload_n hx hb dX3_become_39 rfl (lv_at hl 0 rfl) ?_
  refine va_get (D := D) (ci := 2) (v := .ref g2) (C := RX3) (T := TX3) (N := 9) hx hb hts (by decide +kernel) hown hK.1 hP 0 rfl rfl 2 (by decide) (hts (.fieldLink RX3 22 "HomeRounds$Setting" "ys" "[I") (by decide +kernel)) (fun _ h9 => h9) rfl dX3_become_40 ?_
  refine va_alen hx hb hK.1 hP 9 0 rfl rfl (v := nI 6) rfl dX3_become_43 ?_
  refine va_copyi hx hb (hml.trans hl.1.symm) hown (hts (.methodLink RX3 57 arraycopyName) (by decide +kernel)) (hts (.native arraycopyName) (by decide +kernel)) (hts (.static arraycopyName) (by decide +kernel)) (hts (.initialized "java/lang/System") (by decide +kernel)) hK.1 hP hD hS 27 9 0 0 rfl rfl rfl rfl rfl (by decide +kernel) (by decide +kernel) (by decide +kernel) (by decide +kernel) (by decide +kernel) (fun _ _ => rfl) (Nat.le_of_ble_eq_true rfl) (by decide) dX3_become_44 (fun H locs hP hD hS => ?_)
  have hP : va_P D vwCl [(g0, .inr (2, [.ref h0, .ref g1, .ref g2, .ref g3, .ref g4, .int (nI sk), .ref g5, .ref g6, .ref g7])), (h0, .inr (0, [.int (nI N), .ref h1, .ref h2, .ref h3, .ref h4, .ref h5, .ref h6])), (h1, .inl (E 0, 15, .inl hm_4)), (h2, .inl (E 0, 15, .inl aw_5)), (h3, .inl (E 0, 30, .inl rv_6)), (h4, .inl (E 0, 30, .inl sd_7)), (h5, .inl (E 0, 30, .inl gm_8)), (h6, .inl (E 0, 36, .inl ca)), (g1, .inl (E 0, 6, .inl xs9)), (g2, .inl (E 0, 6, .inl (va_cpy oys ys (nI 0).toNatClampNeg (nI 0).toNatClampNeg (nI 6).toNatClampNeg))), (g3, .inl (E 1, 30, .inl bz)), (g4, .inl (E 0, 4, .inl rt)), (g5, .inr (1, [.int (nI 6), .ref s5, .int (nI z5)])), (s5, .inl (E 0, 48, .inl c5)), (g6, .inr (1, [.int (nI 8), .ref s6, .int (nI z6)])), (s6, .inl (E 0, 48, .inl c6)), (g7, .inr (1, [.int (nI 8), .ref s7, .int (nI z7)])), (s7, .inl (E 0, 48, .inl c7)), (og0, .inr (2, [.ref o0, .ref og1, .ref og2, .ref og3, .ref og4, .int (nI osk), .ref og5, .ref og6, .ref og7])), (o0, .inr (0, [.int (nI N), .ref o1, .ref o2, .ref o3, .ref o4, .ref o5, .ref o6])), (o1, .inl (E 0, 15, .inl om)), (o2, .inl (E 0, 15, .inl oa)), (o3, .inl (E 0, 30, .inl ov)), (o4, .inl (E 0, 30, .inl os)), (o5, .inl (E 0, 30, .inl og)), (o6, .inl (E 0, 36, .inl oc)), (og1, .inl (E 0, 6, .inl oxs)), (og2, .inl (E 0, 6, .inl oys)), (og3, .inl (E 1, 30, .inl obz)), (og4, .inl (E 0, 4, .inl ort)), (og5, .inr (1, [.int (nI 6), .ref os5, .int (nI oz5)])), (os5, .inl (E 0, 48, .inl oc5)), (og6, .inr (1, [.int (nI 8), .ref os6, .int (nI oz6)])), (os6, .inl (E 0, 48, .inl oc6)), (og7, .inr (1, [.int (nI 8), .ref os7, .int (nI oz7)])), (os7, .inl (E 0, 48, .inl oc7))] H := hP
  have hD : va_D A [(g0, .inr (2, [.ref h0, .ref g1, .ref g2, .ref g3, .ref g4, .int (nI sk), .ref g5, .ref g6, .ref g7])), (h0, .inr (0, [.int (nI N), .ref h1, .ref h2, .ref h3, .ref h4, .ref h5, .ref h6])), (h1, .inl (E 0, 15, .inl hm_4)), (h2, .inl (E 0, 15, .inl aw_5)), (h3, .inl (E 0, 30, .inl rv_6)), (h4, .inl (E 0, 30, .inl sd_7)), (h5, .inl (E 0, 30, .inl gm_8)), (h6, .inl (E 0, 36, .inl ca)), (g1, .inl (E 0, 6, .inl xs9)), (g2, .inl (E 0, 6, .inl (va_cpy oys ys (nI 0).toNatClampNeg (nI 0).toNatClampNeg (nI 6).toNatClampNeg))), (g3, .inl (E 1, 30, .inl bz)), (g4, .inl (E 0, 4, .inl rt)), (g5, .inr (1, [.int (nI 6), .ref s5, .int (nI z5)])), (s5, .inl (E 0, 48, .inl c5)), (g6, .inr (1, [.int (nI 8), .ref s6, .int (nI z6)])), (s6, .inl (E 0, 48, .inl c6)), (g7, .inr (1, [.int (nI 8), .ref s7, .int (nI z7)])), (s7, .inl (E 0, 48, .inl c7)), (og0, .inr (2, [.ref o0, .ref og1, .ref og2, .ref og3, .ref og4, .int (nI osk), .ref og5, .ref og6, .ref og7])), (o0, .inr (0, [.int (nI N), .ref o1, .ref o2, .ref o3, .ref o4, .ref o5, .ref o6])), (o1, .inl (E 0, 15, .inl om)), (o2, .inl (E 0, 15, .inl oa)), (o3, .inl (E 0, 30, .inl ov)), (o4, .inl (E 0, 30, .inl os)), (o5, .inl (E 0, 30, .inl og)), (o6, .inl (E 0, 36, .inl oc)), (og1, .inl (E 0, 6, .inl oxs)), (og2, .inl (E 0, 6, .inl oys)), (og3, .inl (E 1, 30, .inl obz)), (og4, .inl (E 0, 4, .inl ort)), (og5, .inr (1, [.int (nI 6), .ref os5, .int (nI oz5)])), (os5, .inl (E 0, 48, .inl oc5)), (og6, .inr (1, [.int (nI 8), .ref os6, .int (nI oz6)])), (os6, .inl (E 0, 48, .inl oc6)), (og7, .inr (1, [.int (nI 8), .ref os7, .int (nI oz7)])), (os7, .inl (E 0, 48, .inl oc7))] := hD
  obtain ⟨ys9, hys9⟩ : ∃ zf : Nat → Int32, zf = (va_cpy oys ys (nI 0).toNatClampNeg (nI 0).toNatClampNeg (nI 6).toNatClampNeg) := ⟨_, rfl⟩
  rw [← hys9] at hP hD
  have kys9 : ∀ j, j < 6 → ys9 j = oys j := fun j hj => by rw [hys9]; exact zn_cpy (by omega) hj
  clear hys9
  refine lv_aload_n hx hb dX3_become_47 rfl (lv_at hl 1 rfl) ?_
  refine va_get (D := D) (ci := 2) (v := .ref og3) (C := RX3) (T := TX3) (N := 9) hx hb hts (by decide +kernel) hown hK.1 hP 18 rfl rfl 3 (by decide) (hts (.fieldLink RX3 25 "HomeRounds$Setting" "bars" "[Z") (by decide +kernel)) (fun _ h9 => h9) rfl dX3_become_48 ?_
  refine lv_iconst (v := nI 0) hx hb dX3_become_51 (by rfl) ?_
  refine lv_aload_n hx hb dX3_become_52 rfl (lv_at hl 0 rfl) ?_
  refine va_get (D := D) (ci := 2) (v := .ref g3) (C := RX3) (T := TX3) (N := 9) hx hb hts (by decide +kernel) hown hK.1 hP 0 rfl rfl 3 (by decide) (hts (.fieldLink RX3 25 "HomeRounds$Setting" "bars" "[Z") (by decide +kernel)) (fun _ h9 => h9) rfl dX3_become_53 ?_
  refine lv_iconst (v := nI 0) hx hb dX3_become_56 (by rfl) ?_
  refine lv_aload_n hx hb dX3_become_57 rfl (lv_at hl 0 rfl) ?_
  refine va_get (D := D) (ci := 2) (v := .ref g3) (C := RX3) (T := TX3) (N := 9) hx hb hts (by decide +kernel) hown hK.1 hP 0 rfl rfl 3 (by decide) (hts (.fieldLink RX3 25 "HomeRounds$Setting" "bars" "[Z") (by decide +kernel)) (fun _ h9 => h9) rfl dX3_become_58 ?_
  refine va_alen hx hb hK.1 hP 10 1 rfl rfl (v := nI 30) rfl dX3_become_61 ?_
  refine va_copyi hx hb (hml.trans hl.1.symm) hown (hts (.methodLink RX3 57 arraycopyName) (by decide +kernel)) (hts (.native arraycopyName) (by decide +kernel)) (hts (.static arraycopyName) (by decide +kernel)) (hts (.initialized "java/lang/System") (by decide +kernel)) hK.1 hP hD hS 28 10 1 1 rfl rfl rfl rfl rfl (by decide +kernel) (by decide +kernel) (by decide +kernel) (by decide +kernel) (by decide +kernel) (fun i hi => hfo _ (by rw [show (nI 0).toNatClampNeg = 0 from by decide +kernel]; rw [show (nI 30).toNatClampNeg = 30 from by decide +kernel] at hi; omega)) (Nat.le_of_ble_eq_true rfl) (by decide) dX3_become_62 (fun H locs hP hD hS => ?_)
  have hP : va_P D vwCl [(g0, .inr (2, [.ref h0, .ref g1, .ref g2, .ref g3, .ref g4, .int (nI sk), .ref g5, .ref g6, .ref g7])), (h0, .inr (0, [.int (nI N), .ref h1, .ref h2, .ref h3, .ref h4, .ref h5, .ref h6])), (h1, .inl (E 0, 15, .inl hm_4)), (h2, .inl (E 0, 15, .inl aw_5)), (h3, .inl (E 0, 30, .inl rv_6)), (h4, .inl (E 0, 30, .inl sd_7)), (h5, .inl (E 0, 30, .inl gm_8)), (h6, .inl (E 0, 36, .inl ca)), (g1, .inl (E 0, 6, .inl xs9)), (g2, .inl (E 0, 6, .inl ys9)), (g3, .inl (E 1, 30, .inl (va_cpy obz bz (nI 0).toNatClampNeg (nI 0).toNatClampNeg (nI 30).toNatClampNeg))), (g4, .inl (E 0, 4, .inl rt)), (g5, .inr (1, [.int (nI 6), .ref s5, .int (nI z5)])), (s5, .inl (E 0, 48, .inl c5)), (g6, .inr (1, [.int (nI 8), .ref s6, .int (nI z6)])), (s6, .inl (E 0, 48, .inl c6)), (g7, .inr (1, [.int (nI 8), .ref s7, .int (nI z7)])), (s7, .inl (E 0, 48, .inl c7)), (og0, .inr (2, [.ref o0, .ref og1, .ref og2, .ref og3, .ref og4, .int (nI osk), .ref og5, .ref og6, .ref og7])), (o0, .inr (0, [.int (nI N), .ref o1, .ref o2, .ref o3, .ref o4, .ref o5, .ref o6])), (o1, .inl (E 0, 15, .inl om)), (o2, .inl (E 0, 15, .inl oa)), (o3, .inl (E 0, 30, .inl ov)), (o4, .inl (E 0, 30, .inl os)), (o5, .inl (E 0, 30, .inl og)), (o6, .inl (E 0, 36, .inl oc)), (og1, .inl (E 0, 6, .inl oxs)), (og2, .inl (E 0, 6, .inl oys)), (og3, .inl (E 1, 30, .inl obz)), (og4, .inl (E 0, 4, .inl ort)), (og5, .inr (1, [.int (nI 6), .ref os5, .int (nI oz5)])), (os5, .inl (E 0, 48, .inl oc5)), (og6, .inr (1, [.int (nI 8), .ref os6, .int (nI oz6)])), (os6, .inl (E 0, 48, .inl oc6)), (og7, .inr (1, [.int (nI 8), .ref os7, .int (nI oz7)])), (os7, .inl (E 0, 48, .inl oc7))] H := hP
  have hD : va_D A [(g0, .inr (2, [.ref h0, .ref g1, .ref g2, .ref g3, .ref g4, .int (nI sk), .ref g5, .ref g6, .ref g7])), (h0, .inr (0, [.int (nI N), .ref h1, .ref h2, .ref h3, .ref h4, .ref h5, .ref h6])), (h1, .inl (E 0, 15, .inl hm_4)), (h2, .inl (E 0, 15, .inl aw_5)), (h3, .inl (E 0, 30, .inl rv_6)), (h4, .inl (E 0, 30, .inl sd_7)), (h5, .inl (E 0, 30, .inl gm_8)), (h6, .inl (E 0, 36, .inl ca)), (g1, .inl (E 0, 6, .inl xs9)), (g2, .inl (E 0, 6, .inl ys9)), (g3, .inl (E 1, 30, .inl (va_cpy obz bz (nI 0).toNatClampNeg (nI 0).toNatClampNeg (nI 30).toNatClampNeg))), (g4, .inl (E 0, 4, .inl rt)), (g5, .inr (1, [.int (nI 6), .ref s5, .int (nI z5)])), (s5, .inl (E 0, 48, .inl c5)), (g6, .inr (1, [.int (nI 8), .ref s6, .int (nI z6)])), (s6, .inl (E 0, 48, .inl c6)), (g7, .inr (1, [.int (nI 8), .ref s7, .int (nI z7)])), (s7, .inl (E 0, 48, .inl c7)), (og0, .inr (2, [.ref o0, .ref og1, .ref og2, .ref og3, .ref og4, .int (nI osk), .ref og5, .ref og6, .ref og7])), (o0, .inr (0, [.int (nI N), .ref o1, .ref o2, .ref o3, .ref o4, .ref o5, .ref o6])), (o1, .inl (E 0, 15, .inl om)), (o2, .inl (E 0, 15, .inl oa)), (o3, .inl (E 0, 30, .inl ov)), (o4, .inl (E 0, 30, .inl os)), (o5, .inl (E 0, 30, .inl og)), (o6, .inl (E 0, 36, .inl oc)), (og1, .inl (E 0, 6, .inl oxs)), (og2, .inl (E 0, 6, .inl oys)), (og3, .inl (E 1, 30, .inl obz)), (og4, .inl (E 0, 4, .inl ort)), (og5, .inr (1, [.int (nI 6), .ref os5, .int (nI oz5)])), (os5, .inl (E 0, 48, .inl oc5)), (og6, .inr (1, [.int (nI 8), .ref os6, .int (nI oz6)])), (os6, .inl (E 0, 48, .inl oc6)), (og7, .inr (1, [.int (nI 8), .ref os7, .int (nI oz7)])), (os7, .inl (E 0, 48, .inl oc7))] := hD
  obtain ⟨bz9, hbz9⟩ : ∃ zf : Nat → Int32, zf = (va_cpy obz bz (nI 0).toNatClampNeg (nI 0).toNatClampNeg (nI 30).toNatClampNeg) := ⟨_, rfl⟩
  rw [← hbz9] at hP hD
  have kbz9 : ∀ j, j < 30 → bz9 j = obz j := fun j hj => by rw [hbz9]; exact zn_cpy (by omega) hj
  clear hbz9
  refine lv_aload_n hx hb dX3_become_65 rfl (lv_at hl 1 rfl) ?_
  refine va_get (D := D) (ci := 2) (v := .ref og4) (C := RX3) (T := TX3) (N := 9) hx hb hts (by decide +kernel) hown hK.1 hP 18 rfl rfl 4 (by decide) (hts (.fieldLink RX3 29 "HomeRounds$Setting" "rates" "[I") (by decide +kernel)) (fun _ h9 => h9) rfl dX3_become_66 ?_
  refine lv_iconst (v := nI 0) hx hb dX3_become_69 (by rfl) ?_
  refine lv_aload_n hx hb dX3_become_70 rfl (lv_at hl 0 rfl) ?_
  refine va_get (D := D) (ci := 2) (v := .ref g4) (C := RX3) (T := TX3) (N := 9) hx hb hts (by decide +kernel) hown hK.1 hP 0 rfl rfl 4 (by decide) (hts (.fieldLink RX3 29 "HomeRounds$Setting" "rates" "[I") (by decide +kernel)) (fun _ h9 => h9) rfl dX3_become_71 ?_
  refine lv_iconst (v := nI 0) hx hb dX3_become_74 (by rfl) ?_
  refine lv_aload_n hx hb dX3_become_75 rfl (lv_at hl 0 rfl) ?_
  refine va_get (D := D) (ci := 2) (v := .ref g4) (C := RX3) (T := TX3) (N := 9) hx hb hts (by decide +kernel) hown hK.1 hP 0 rfl rfl 4 (by decide) (hts (.fieldLink RX3 29 "HomeRounds$Setting" "rates" "[I") (by decide +kernel)) (fun _ h9 => h9) rfl dX3_become_76 ?_
  refine va_alen hx hb hK.1 hP 11 0 rfl rfl (v := nI 4) rfl dX3_become_79 ?_
  refine va_copyi hx hb (hml.trans hl.1.symm) hown (hts (.methodLink RX3 57 arraycopyName) (by decide +kernel)) (hts (.native arraycopyName) (by decide +kernel)) (hts (.static arraycopyName) (by decide +kernel)) (hts (.initialized "java/lang/System") (by decide +kernel)) hK.1 hP hD hS 29 11 0 0 rfl rfl rfl rfl rfl (by decide +kernel) (by decide +kernel) (by decide +kernel) (by decide +kernel) (by decide +kernel) (fun _ _ => rfl) (Nat.le_of_ble_eq_true rfl) (by decide) dX3_become_80 (fun H locs hP hD hS => ?_)
  have hP : va_P D vwCl [(g0, .inr (2, [.ref h0, .ref g1, .ref g2, .ref g3, .ref g4, .int (nI sk), .ref g5, .ref g6, .ref g7])), (h0, .inr (0, [.int (nI N), .ref h1, .ref h2, .ref h3, .ref h4, .ref h5, .ref h6])), (h1, .inl (E 0, 15, .inl hm_4)), (h2, .inl (E 0, 15, .inl aw_5)), (h3, .inl (E 0, 30, .inl rv_6)), (h4, .inl (E 0, 30, .inl sd_7)), (h5, .inl (E 0, 30, .inl gm_8)), (h6, .inl (E 0, 36, .inl ca)), (g1, .inl (E 0, 6, .inl xs9)), (g2, .inl (E 0, 6, .inl ys9)), (g3, .inl (E 1, 30, .inl bz9)), (g4, .inl (E 0, 4, .inl (va_cpy ort rt (nI 0).toNatClampNeg (nI 0).toNatClampNeg (nI 4).toNatClampNeg))), (g5, .inr (1, [.int (nI 6), .ref s5, .int (nI z5)])), (s5, .inl (E 0, 48, .inl c5)), (g6, .inr (1, [.int (nI 8), .ref s6, .int (nI z6)])), (s6, .inl (E 0, 48, .inl c6)), (g7, .inr (1, [.int (nI 8), .ref s7, .int (nI z7)])), (s7, .inl (E 0, 48, .inl c7)), (og0, .inr (2, [.ref o0, .ref og1, .ref og2, .ref og3, .ref og4, .int (nI osk), .ref og5, .ref og6, .ref og7])), (o0, .inr (0, [.int (nI N), .ref o1, .ref o2, .ref o3, .ref o4, .ref o5, .ref o6])), (o1, .inl (E 0, 15, .inl om)), (o2, .inl (E 0, 15, .inl oa)), (o3, .inl (E 0, 30, .inl ov)), (o4, .inl (E 0, 30, .inl os)), (o5, .inl (E 0, 30, .inl og)), (o6, .inl (E 0, 36, .inl oc)), (og1, .inl (E 0, 6, .inl oxs)), (og2, .inl (E 0, 6, .inl oys)), (og3, .inl (E 1, 30, .inl obz)), (og4, .inl (E 0, 4, .inl ort)), (og5, .inr (1, [.int (nI 6), .ref os5, .int (nI oz5)])), (os5, .inl (E 0, 48, .inl oc5)), (og6, .inr (1, [.int (nI 8), .ref os6, .int (nI oz6)])), (os6, .inl (E 0, 48, .inl oc6)), (og7, .inr (1, [.int (nI 8), .ref os7, .int (nI oz7)])), (os7, .inl (E 0, 48, .inl oc7))] H := hP
  have hD : va_D A [(g0, .inr (2, [.ref h0, .ref g1, .ref g2, .ref g3, .ref g4, .int (nI sk), .ref g5, .ref g6, .ref g7])), (h0, .inr (0, [.int (nI N), .ref h1, .ref h2, .ref h3, .ref h4, .ref h5, .ref h6])), (h1, .inl (E 0, 15, .inl hm_4)), (h2, .inl (E 0, 15, .inl aw_5)), (h3, .inl (E 0, 30, .inl rv_6)), (h4, .inl (E 0, 30, .inl sd_7)), (h5, .inl (E 0, 30, .inl gm_8)), (h6, .inl (E 0, 36, .inl ca)), (g1, .inl (E 0, 6, .inl xs9)), (g2, .inl (E 0, 6, .inl ys9)), (g3, .inl (E 1, 30, .inl bz9)), (g4, .inl (E 0, 4, .inl (va_cpy ort rt (nI 0).toNatClampNeg (nI 0).toNatClampNeg (nI 4).toNatClampNeg))), (g5, .inr (1, [.int (nI 6), .ref s5, .int (nI z5)])), (s5, .inl (E 0, 48, .inl c5)), (g6, .inr (1, [.int (nI 8), .ref s6, .int (nI z6)])), (s6, .inl (E 0, 48, .inl c6)), (g7, .inr (1, [.int (nI 8), .ref s7, .int (nI z7)])), (s7, .inl (E 0, 48, .inl c7)), (og0, .inr (2, [.ref o0, .ref og1, .ref og2, .ref og3, .ref og4, .int (nI osk), .ref og5, .ref og6, .ref og7])), (o0, .inr (0, [.int (nI N), .ref o1, .ref o2, .ref o3, .ref o4, .ref o5, .ref o6])), (o1, .inl (E 0, 15, .inl om)), (o2, .inl (E 0, 15, .inl oa)), (o3, .inl (E 0, 30, .inl ov)), (o4, .inl (E 0, 30, .inl os)), (o5, .inl (E 0, 30, .inl og)), (o6, .inl (E 0, 36, .inl oc)), (og1, .inl (E 0, 6, .inl oxs)), (og2, .inl (E 0, 6, .inl oys)), (og3, .inl (E 1, 30, .inl obz)), (og4, .inl (E 0, 4, .inl ort)), (og5, .inr (1, [.int (nI 6), .ref os5, .int (nI oz5)])), (os5, .inl (E 0, 48, .inl oc5)), (og6, .inr (1, [.int (nI 8), .ref os6, .int (nI oz6)])), (os6, .inl (E 0, 48, .inl oc6)), (og7, .inr (1, [.int (nI 8), .ref os7, .int (nI oz7)])), (os7, .inl (E 0, 48, .inl oc7))] := hD
  obtain ⟨rt9, hrt9⟩ : ∃ zf : Nat → Int32, zf = (va_cpy ort rt (nI 0).toNatClampNeg (nI 0).toNatClampNeg (nI 4).toNatClampNeg) := ⟨_, rfl⟩
  rw [← hrt9] at hP hD
  have krt9 : ∀ j, j < 4 → rt9 j = ort j := fun j hj => by rw [hrt9]; exact zn_cpy (by omega) hj
  clear hrt9
  refine lv_aload_n hx hb dX3_become_83 rfl (lv_at hl 0 rfl) ?_
  refine lv_aload_n hx hb dX3_become_84 rfl (lv_at hl 1 rfl) ?_
  refine va_get (D := D) (ci := 2) (v := .int (nI osk)) (C := RX3) (T := TX3) (N := 9) hx hb hts (by decide +kernel) hown hK.1 hP 18 rfl rfl 5 (by decide) (hts (.fieldLink RX3 63 "HomeRounds$Setting" "seasonKind" "I") (by decide +kernel)) (fun _ h9 => h9) rfl dX3_become_85 ?_
  refine va_put (D := D) (ci := 2) (v := .int (nI osk)) (ty := .int) (C := RX3) (T := TX3) (N := 9) hx hb hts (by decide +kernel) tyX3 tyX3_ok nmX3 hown hK.1 hP hD hS 0 rfl rfl 5 (by decide) (hts (.fieldLink RX3 63 "HomeRounds$Setting" "seasonKind" "I") (by decide +kernel)) (fun _ h9 => h9) rfl (by decide +kernel) rfl rfl (Nat.le_of_ble_eq_true rfl) dX3_become_88 (fun H locs hP hD hS => ?_)
  have hP : va_P D vwCl [(g0, .inr (2, [.ref h0, .ref g1, .ref g2, .ref g3, .ref g4, .int (nI osk), .ref g5, .ref g6, .ref g7])), (h0, .inr (0, [.int (nI N), .ref h1, .ref h2, .ref h3, .ref h4, .ref h5, .ref h6])), (h1, .inl (E 0, 15, .inl hm_4)), (h2, .inl (E 0, 15, .inl aw_5)), (h3, .inl (E 0, 30, .inl rv_6)), (h4, .inl (E 0, 30, .inl sd_7)), (h5, .inl (E 0, 30, .inl gm_8)), (h6, .inl (E 0, 36, .inl ca)), (g1, .inl (E 0, 6, .inl xs9)), (g2, .inl (E 0, 6, .inl ys9)), (g3, .inl (E 1, 30, .inl bz9)), (g4, .inl (E 0, 4, .inl rt9)), (g5, .inr (1, [.int (nI 6), .ref s5, .int (nI z5)])), (s5, .inl (E 0, 48, .inl c5)), (g6, .inr (1, [.int (nI 8), .ref s6, .int (nI z6)])), (s6, .inl (E 0, 48, .inl c6)), (g7, .inr (1, [.int (nI 8), .ref s7, .int (nI z7)])), (s7, .inl (E 0, 48, .inl c7)), (og0, .inr (2, [.ref o0, .ref og1, .ref og2, .ref og3, .ref og4, .int (nI osk), .ref og5, .ref og6, .ref og7])), (o0, .inr (0, [.int (nI N), .ref o1, .ref o2, .ref o3, .ref o4, .ref o5, .ref o6])), (o1, .inl (E 0, 15, .inl om)), (o2, .inl (E 0, 15, .inl oa)), (o3, .inl (E 0, 30, .inl ov)), (o4, .inl (E 0, 30, .inl os)), (o5, .inl (E 0, 30, .inl og)), (o6, .inl (E 0, 36, .inl oc)), (og1, .inl (E 0, 6, .inl oxs)), (og2, .inl (E 0, 6, .inl oys)), (og3, .inl (E 1, 30, .inl obz)), (og4, .inl (E 0, 4, .inl ort)), (og5, .inr (1, [.int (nI 6), .ref os5, .int (nI oz5)])), (os5, .inl (E 0, 48, .inl oc5)), (og6, .inr (1, [.int (nI 8), .ref os6, .int (nI oz6)])), (os6, .inl (E 0, 48, .inl oc6)), (og7, .inr (1, [.int (nI 8), .ref os7, .int (nI oz7)])), (os7, .inl (E 0, 48, .inl oc7))] H := hP
  have hD : va_D A [(g0, .inr (2, [.ref h0, .ref g1, .ref g2, .ref g3, .ref g4, .int (nI osk), .ref g5, .ref g6, .ref g7])), (h0, .inr (0, [.int (nI N), .ref h1, .ref h2, .ref h3, .ref h4, .ref h5, .ref h6])), (h1, .inl (E 0, 15, .inl hm_4)), (h2, .inl (E 0, 15, .inl aw_5)), (h3, .inl (E 0, 30, .inl rv_6)), (h4, .inl (E 0, 30, .inl sd_7)), (h5, .inl (E 0, 30, .inl gm_8)), (h6, .inl (E 0, 36, .inl ca)), (g1, .inl (E 0, 6, .inl xs9)), (g2, .inl (E 0, 6, .inl ys9)), (g3, .inl (E 1, 30, .inl bz9)), (g4, .inl (E 0, 4, .inl rt9)), (g5, .inr (1, [.int (nI 6), .ref s5, .int (nI z5)])), (s5, .inl (E 0, 48, .inl c5)), (g6, .inr (1, [.int (nI 8), .ref s6, .int (nI z6)])), (s6, .inl (E 0, 48, .inl c6)), (g7, .inr (1, [.int (nI 8), .ref s7, .int (nI z7)])), (s7, .inl (E 0, 48, .inl c7)), (og0, .inr (2, [.ref o0, .ref og1, .ref og2, .ref og3, .ref og4, .int (nI osk), .ref og5, .ref og6, .ref og7])), (o0, .inr (0, [.int (nI N), .ref o1, .ref o2, .ref o3, .ref o4, .ref o5, .ref o6])), (o1, .inl (E 0, 15, .inl om)), (o2, .inl (E 0, 15, .inl oa)), (o3, .inl (E 0, 30, .inl ov)), (o4, .inl (E 0, 30, .inl os)), (o5, .inl (E 0, 30, .inl og)), (o6, .inl (E 0, 36, .inl oc)), (og1, .inl (E 0, 6, .inl oxs)), (og2, .inl (E 0, 6, .inl oys)), (og3, .inl (E 1, 30, .inl obz)), (og4, .inl (E 0, 4, .inl ort)), (og5, .inr (1, [.int (nI 6), .ref os5, .int (nI oz5)])), (os5, .inl (E 0, 48, .inl oc5)), (og6, .inr (1, [.int (nI 8), .ref os6, .int (nI oz6)])), (os6, .inl (E 0, 48, .inl oc6)), (og7, .inr (1, [.int (nI 8), .ref os7, .int (nI oz7)])), (os7, .inl (E 0, 48, .inl oc7))] := hD
  refine lv_aload_n hx hb dX3_become_91 rfl (lv_at hl 0 rfl) ?_
  refine va_get (D := D) (ci := 2) (v := .ref g5) (C := RX3) (T := TX3) (N := 9) hx hb hts (by decide +kernel) hown hK.1 hP 0 rfl rfl 6 (by decide) (hts (.fieldLink RX3 37 "HomeRounds$Setting" "seen" "LHomeRounds$Rows;") (by decide +kernel)) (fun _ h9 => h9) rfl dX3_become_92 ?_
  refine lv_aload_n hx hb dX3_become_95 rfl (lv_at hl 1 rfl) ?_
  refine va_get (D := D) (ci := 2) (v := .ref og5) (C := RX3) (T := TX3) (N := 9) hx hb hts (by decide +kernel) hown hK.1 hP 18 rfl rfl 6 (by decide) (hts (.fieldLink RX3 37 "HomeRounds$Setting" "seen" "LHomeRounds$Rows;") (by decide +kernel)) (fun _ h9 => h9) rfl dX3_become_96 ?_
  have hPc := hP.sub (ws' := [(g5, .inr (1, [.int (nI 6), .ref s5, .int (nI z5)])), (s5, .inl (E 0, 48, .inl c5)), (og5, .inr (1, [.int (nI 6), .ref os5, .int (nI oz5)])), (os5, .inl (E 0, 48, .inl oc5))]) [12, 13, 30, 31] rfl
  have hDc := hD.sub (ws' := [(g5, .inr (1, [.int (nI 6), .ref s5, .int (nI z5)])), (s5, .inl (E 0, 48, .inl c5)), (og5, .inr (1, [.int (nI 6), .ref os5, .int (nI oz5)])), (os5, .inl (E 0, 48, .inl oc5))]) [12, 13, 30, 31] (by decide +kernel) rfl
  have hAc := zw_AA (wc := [(g5, .inr (1, [.int (nI 6), .ref s5, .int (nI z5)])), (s5, .inl (E 0, 48, .inl c5)), (og5, .inr (1, [.int (nI 6), .ref os5, .int (nI oz5)])), (os5, .inl (E 0, 48, .inl oc5))]) hD [12, 13, 30, 31] rfl
  refine zw_cv hAc hS (va_runV (As := [.ref og5]) (rest := []) ⟨hx, hb, hml, hown, hts⟩ (c_X2_become l D E g5 s5 6 48 z5 c5 og5 os5 oz5 oc5 (by omega) (by omega) (by omega)) (cwV 1 hts gX3_become_X2_become rfl rfl rfl (by decide +kernel) ⟨Nat.le_of_ble_eq_true rfl, Nat.le_of_ble_eq_true rfl⟩) (zw_V hK hPc hDc (ci := 1) (q0 := 0) rfl rfl) rfl rfl hl.1 rfl (lv_room (Nat.le_of_ble_eq_true rfl)) dX3_become_99 ⟨Nat.zero_le _, Nat.zero_le _⟩) (fun u_11 H locs hw_10 hP1 hD1 hk1 hS => ?_)
  obtain ⟨cs_12, rfl⟩ : ∃ z, z = u_11 := ⟨_, rfl⟩
  try dsimp only at hw_10 hP1 hD1
  obtain ⟨hP, hD⟩ := zw_join (wr := [(g0, .inr (2, [.ref h0, .ref g1, .ref g2, .ref g3, .ref g4, .int (nI osk), .ref g5, .ref g6, .ref g7])), (h0, .inr (0, [.int (nI N), .ref h1, .ref h2, .ref h3, .ref h4, .ref h5, .ref h6])), (h1, .inl (E 0, 15, .inl hm_4)), (h2, .inl (E 0, 15, .inl aw_5)), (h3, .inl (E 0, 30, .inl rv_6)), (h4, .inl (E 0, 30, .inl sd_7)), (h5, .inl (E 0, 30, .inl gm_8)), (h6, .inl (E 0, 36, .inl ca)), (g1, .inl (E 0, 6, .inl xs9)), (g2, .inl (E 0, 6, .inl ys9)), (g3, .inl (E 1, 30, .inl bz9)), (g4, .inl (E 0, 4, .inl rt9)), (g6, .inr (1, [.int (nI 8), .ref s6, .int (nI z6)])), (s6, .inl (E 0, 48, .inl c6)), (g7, .inr (1, [.int (nI 8), .ref s7, .int (nI z7)])), (s7, .inl (E 0, 48, .inl c7)), (og0, .inr (2, [.ref o0, .ref og1, .ref og2, .ref og3, .ref og4, .int (nI osk), .ref og5, .ref og6, .ref og7])), (o0, .inr (0, [.int (nI N), .ref o1, .ref o2, .ref o3, .ref o4, .ref o5, .ref o6])), (o1, .inl (E 0, 15, .inl om)), (o2, .inl (E 0, 15, .inl oa)), (o3, .inl (E 0, 30, .inl ov)), (o4, .inl (E 0, 30, .inl os)), (o5, .inl (E 0, 30, .inl og)), (o6, .inl (E 0, 36, .inl oc)), (og1, .inl (E 0, 6, .inl oxs)), (og2, .inl (E 0, 6, .inl oys)), (og3, .inl (E 1, 30, .inl obz)), (og4, .inl (E 0, 4, .inl ort)), (og6, .inr (1, [.int (nI 8), .ref os6, .int (nI oz6)])), (os6, .inl (E 0, 48, .inl oc6)), (og7, .inr (1, [.int (nI 8), .ref os7, .int (nI oz7)])), (os7, .inl (E 0, 48, .inl oc7))]) (w1 := [(g5, .inr (1, [.int (nI 6), .ref s5, .int (nI oz5)])), (s5, .inl (E 0, 48, .inl cs_12)), (og5, .inr (1, [.int (nI 6), .ref os5, .int (nI oz5)])), (os5, .inl (E 0, 48, .inl oc5))]) (ws' := [(g0, .inr (2, [.ref h0, .ref g1, .ref g2, .ref g3, .ref g4, .int (nI osk), .ref g5, .ref g6, .ref g7])), (h0, .inr (0, [.int (nI N), .ref h1, .ref h2, .ref h3, .ref h4, .ref h5, .ref h6])), (h1, .inl (E 0, 15, .inl hm_4)), (h2, .inl (E 0, 15, .inl aw_5)), (h3, .inl (E 0, 30, .inl rv_6)), (h4, .inl (E 0, 30, .inl sd_7)), (h5, .inl (E 0, 30, .inl gm_8)), (h6, .inl (E 0, 36, .inl ca)), (g1, .inl (E 0, 6, .inl xs9)), (g2, .inl (E 0, 6, .inl ys9)), (g3, .inl (E 1, 30, .inl bz9)), (g4, .inl (E 0, 4, .inl rt9)), (g5, .inr (1, [.int (nI 6), .ref s5, .int (nI oz5)])), (s5, .inl (E 0, 48, .inl cs_12)), (g6, .inr (1, [.int (nI 8), .ref s6, .int (nI z6)])), (s6, .inl (E 0, 48, .inl c6)), (g7, .inr (1, [.int (nI 8), .ref s7, .int (nI z7)])), (s7, .inl (E 0, 48, .inl c7)), (og0, .inr (2, [.ref o0, .ref og1, .ref og2, .ref og3, .ref og4, .int (nI osk), .ref og5, .ref og6, .ref og7])), (o0, .inr (0, [.int (nI N), .ref o1, .ref o2, .ref o3, .ref o4, .ref o5, .ref o6])), (o1, .inl (E 0, 15, .inl om)), (o2, .inl (E 0, 15, .inl oa)), (o3, .inl (E 0, 30, .inl ov)), (o4, .inl (E 0, 30, .inl os)), (o5, .inl (E 0, 30, .inl og)), (o6, .inl (E 0, 36, .inl oc)), (og1, .inl (E 0, 6, .inl oxs)), (og2, .inl (E 0, 6, .inl oys)), (og3, .inl (E 1, 30, .inl obz)), (og4, .inl (E 0, 4, .inl ort)), (og5, .inr (1, [.int (nI 6), .ref os5, .int (nI oz5)])), (os5, .inl (E 0, 48, .inl oc5)), (og6, .inr (1, [.int (nI 8), .ref os6, .int (nI oz6)])), (os6, .inl (E 0, 48, .inl oc6)), (og7, .inr (1, [.int (nI 8), .ref os7, .int (nI oz7)])), (os7, .inl (E 0, 48, .inl oc7))]) hP hD [12, 13, 30, 31] [0, 1, 2, 3, 4, 5, 6, 7, 8, 9, 10, 11, 14, 15, 16, 17, 18, 19, 20, 21, 22, 23, 24, 25, 26, 27, 28, 29, 32, 33, 34, 35] [0, 1, 2, 3, 4, 5, 6, 7, 8, 9, 10, 11, 32, 33, 12, 13, 14, 15, 16, 17, 18, 19, 20, 21, 22, 23, 24, 25, 26, 27, 34, 35, 28, 29, 30, 31] rfl rfl (by decide +kernel) (by decide +kernel) hAc hk1 hP1 hD1 (by decide +kernel) rfl
  clear hP1 hD1 hk1 hPc hDc hAc
  have hr1 := hw_10
  refine lv_aload_n hx hb dX3_become_102 rfl (lv_at hl 0 rfl) ?_
  refine va_get (D := D) (ci := 2) (v := .ref g6) (C := RX3) (T := TX3) (N := 9) hx hb hts (by decide +kernel) hown hK.1 hP 0 rfl rfl 7 (by decide) (hts (.fieldLink RX3 41 "HomeRounds$Setting" "events" "LHomeRounds$Rows;") (by decide +kernel)) (fun _ h9 => h9) rfl dX3_become_103 ?_
  refine lv_aload_n hx hb dX3_become_106 rfl (lv_at hl 1 rfl) ?_
  refine va_get (D := D) (ci := 2) (v := .ref og6) (C := RX3) (T := TX3) (N := 9) hx hb hts (by decide +kernel) hown hK.1 hP 18 rfl rfl 7 (by decide) (hts (.fieldLink RX3 41 "HomeRounds$Setting" "events" "LHomeRounds$Rows;") (by decide +kernel)) (fun _ h9 => h9) rfl dX3_become_107 ?_
  have hPc := hP.sub (ws' := [(g6, .inr (1, [.int (nI 8), .ref s6, .int (nI z6)])), (s6, .inl (E 0, 48, .inl c6)), (og6, .inr (1, [.int (nI 8), .ref os6, .int (nI oz6)])), (os6, .inl (E 0, 48, .inl oc6))]) [14, 15, 32, 33] rfl
  have hDc := hD.sub (ws' := [(g6, .inr (1, [.int (nI 8), .ref s6, .int (nI z6)])), (s6, .inl (E 0, 48, .inl c6)), (og6, .inr (1, [.int (nI 8), .ref os6, .int (nI oz6)])), (os6, .inl (E 0, 48, .inl oc6))]) [14, 15, 32, 33] (by decide +kernel) rfl
  have hAc := zw_AA (wc := [(g6, .inr (1, [.int (nI 8), .ref s6, .int (nI z6)])), (s6, .inl (E 0, 48, .inl c6)), (og6, .inr (1, [.int (nI 8), .ref os6, .int (nI oz6)])), (os6, .inl (E 0, 48, .inl oc6))]) hD [14, 15, 32, 33] rfl
  refine zw_cv hAc hS (va_runV (As := [.ref og6]) (rest := []) ⟨hx, hb, hml, hown, hts⟩ (c_X2_become l D E g6 s6 8 48 z6 c6 og6 os6 oz6 oc6 (by omega) (by omega) (by omega)) (cwV 1 hts gX3_become_X2_become rfl rfl rfl (by decide +kernel) ⟨Nat.le_of_ble_eq_true rfl, Nat.le_of_ble_eq_true rfl⟩) (zw_V hK hPc hDc (ci := 1) (q0 := 0) rfl rfl) rfl rfl hl.1 rfl (lv_room (Nat.le_of_ble_eq_true rfl)) dX3_become_110 ⟨Nat.zero_le _, Nat.zero_le _⟩) (fun u_15 H locs hw_14 hP1 hD1 hk1 hS => ?_)
  obtain ⟨cs_16, rfl⟩ : ∃ z, z = u_15 := ⟨_, rfl⟩
  try dsimp only at hw_14 hP1 hD1
  obtain ⟨hP, hD⟩ := zw_join (wr := [(g0, .inr (2, [.ref h0, .ref g1, .ref g2, .ref g3, .ref g4, .int (nI osk), .ref g5, .ref g6, .ref g7])), (h0, .inr (0, [.int (nI N), .ref h1, .ref h2, .ref h3, .ref h4, .ref h5, .ref h6])), (h1, .inl (E 0, 15, .inl hm_4)), (h2, .inl (E 0, 15, .inl aw_5)), (h3, .inl (E 0, 30, .inl rv_6)), (h4, .inl (E 0, 30, .inl sd_7)), (h5, .inl (E 0, 30, .inl gm_8)), (h6, .inl (E 0, 36, .inl ca)), (g1, .inl (E 0, 6, .inl xs9)), (g2, .inl (E 0, 6, .inl ys9)), (g3, .inl (E 1, 30, .inl bz9)), (g4, .inl (E 0, 4, .inl rt9)), (g5, .inr (1, [.int (nI 6), .ref s5, .int (nI oz5)])), (s5, .inl (E 0, 48, .inl cs_12)), (g7, .inr (1, [.int (nI 8), .ref s7, .int (nI z7)])), (s7, .inl (E 0, 48, .inl c7)), (og0, .inr (2, [.ref o0, .ref og1, .ref og2, .ref og3, .ref og4, .int (nI osk), .ref og5, .ref og6, .ref og7])), (o0, .inr (0, [.int (nI N), .ref o1, .ref o2, .ref o3, .ref o4, .ref o5, .ref o6])), (o1, .inl (E 0, 15, .inl om)), (o2, .inl (E 0, 15, .inl oa)), (o3, .inl (E 0, 30, .inl ov)), (o4, .inl (E 0, 30, .inl os)), (o5, .inl (E 0, 30, .inl og)), (o6, .inl (E 0, 36, .inl oc)), (og1, .inl (E 0, 6, .inl oxs)), (og2, .inl (E 0, 6, .inl oys)), (og3, .inl (E 1, 30, .inl obz)), (og4, .inl (E 0, 4, .inl ort)), (og5, .inr (1, [.int (nI 6), .ref os5, .int (nI oz5)])), (os5, .inl (E 0, 48, .inl oc5)), (og7, .inr (1, [.int (nI 8), .ref os7, .int (nI oz7)])), (os7, .inl (E 0, 48, .inl oc7))]) (w1 := [(g6, .inr (1, [.int (nI 8), .ref s6, .int (nI oz6)])), (s6, .inl (E 0, 48, .inl cs_16)), (og6, .inr (1, [.int (nI 8), .ref os6, .int (nI oz6)])), (os6, .inl (E 0, 48, .inl oc6))]) (ws' := [(g0, .inr (2, [.ref h0, .ref g1, .ref g2, .ref g3, .ref g4, .int (nI osk), .ref g5, .ref g6, .ref g7])), (h0, .inr (0, [.int (nI N), .ref h1, .ref h2, .ref h3, .ref h4, .ref h5, .ref h6])), (h1, .inl (E 0, 15, .inl hm_4)), (h2, .inl (E 0, 15, .inl aw_5)), (h3, .inl (E 0, 30, .inl rv_6)), (h4, .inl (E 0, 30, .inl sd_7)), (h5, .inl (E 0, 30, .inl gm_8)), (h6, .inl (E 0, 36, .inl ca)), (g1, .inl (E 0, 6, .inl xs9)), (g2, .inl (E 0, 6, .inl ys9)), (g3, .inl (E 1, 30, .inl bz9)), (g4, .inl (E 0, 4, .inl rt9)), (g5, .inr (1, [.int (nI 6), .ref s5, .int (nI oz5)])), (s5, .inl (E 0, 48, .inl cs_12)), (g6, .inr (1, [.int (nI 8), .ref s6, .int (nI oz6)])), (s6, .inl (E 0, 48, .inl cs_16)), (g7, .inr (1, [.int (nI 8), .ref s7, .int (nI z7)])), (s7, .inl (E 0, 48, .inl c7)), (og0, .inr (2, [.ref o0, .ref og1, .ref og2, .ref og3, .ref og4, .int (nI osk), .ref og5, .ref og6, .ref og7])), (o0, .inr (0, [.int (nI N), .ref o1, .ref o2, .ref o3, .ref o4, .ref o5, .ref o6])), (o1, .inl (E 0, 15, .inl om)), (o2, .inl (E 0, 15, .inl oa)), (o3, .inl (E 0, 30, .inl ov)), (o4, .inl (E 0, 30, .inl os)), (o5, .inl (E 0, 30, .inl og)), (o6, .inl (E 0, 36, .inl oc)), (og1, .inl (E 0, 6, .inl oxs)), (og2, .inl (E 0, 6, .inl oys)), (og3, .inl (E 1, 30, .inl obz)), (og4, .inl (E 0, 4, .inl ort)), (og5, .inr (1, [.int (nI 6), .ref os5, .int (nI oz5)])), (os5, .inl (E 0, 48, .inl oc5)), (og6, .inr (1, [.int (nI 8), .ref os6, .int (nI oz6)])), (os6, .inl (E 0, 48, .inl oc6)), (og7, .inr (1, [.int (nI 8), .ref os7, .int (nI oz7)])), (os7, .inl (E 0, 48, .inl oc7))]) hP hD [14, 15, 32, 33] [0, 1, 2, 3, 4, 5, 6, 7, 8, 9, 10, 11, 12, 13, 16, 17, 18, 19, 20, 21, 22, 23, 24, 25, 26, 27, 28, 29, 30, 31, 34, 35] [0, 1, 2, 3, 4, 5, 6, 7, 8, 9, 10, 11, 12, 13, 32, 33, 14, 15, 16, 17, 18, 19, 20, 21, 22, 23, 24, 25, 26, 27, 28, 29, 34, 35, 30, 31] rfl rfl (by decide +kernel) (by decide +kernel) hAc hk1 hP1 hD1 (by decide +kernel) rfl
  clear hP1 hD1 hk1 hPc hDc hAc
  have hr2 := hw_14
  refine lv_aload_n hx hb dX3_become_113 rfl (lv_at hl 0 rfl) ?_
  refine va_get (D := D) (ci := 2) (v := .ref g7) (C := RX3) (T := TX3) (N := 9) hx hb hts (by decide +kernel) hown hK.1 hP 0 rfl rfl 8 (by decide) (hts (.fieldLink RX3 44 "HomeRounds$Setting" "ledger" "LHomeRounds$Rows;") (by decide +kernel)) (fun _ h9 => h9) rfl dX3_become_114 ?_
  refine lv_aload_n hx hb dX3_become_117 rfl (lv_at hl 1 rfl) ?_
  refine va_get (D := D) (ci := 2) (v := .ref og7) (C := RX3) (T := TX3) (N := 9) hx hb hts (by decide +kernel) hown hK.1 hP 18 rfl rfl 8 (by decide) (hts (.fieldLink RX3 44 "HomeRounds$Setting" "ledger" "LHomeRounds$Rows;") (by decide +kernel)) (fun _ h9 => h9) rfl dX3_become_118 ?_
  have hPc := hP.sub (ws' := [(g7, .inr (1, [.int (nI 8), .ref s7, .int (nI z7)])), (s7, .inl (E 0, 48, .inl c7)), (og7, .inr (1, [.int (nI 8), .ref os7, .int (nI oz7)])), (os7, .inl (E 0, 48, .inl oc7))]) [16, 17, 34, 35] rfl
  have hDc := hD.sub (ws' := [(g7, .inr (1, [.int (nI 8), .ref s7, .int (nI z7)])), (s7, .inl (E 0, 48, .inl c7)), (og7, .inr (1, [.int (nI 8), .ref os7, .int (nI oz7)])), (os7, .inl (E 0, 48, .inl oc7))]) [16, 17, 34, 35] (by decide +kernel) rfl
  have hAc := zw_AA (wc := [(g7, .inr (1, [.int (nI 8), .ref s7, .int (nI z7)])), (s7, .inl (E 0, 48, .inl c7)), (og7, .inr (1, [.int (nI 8), .ref os7, .int (nI oz7)])), (os7, .inl (E 0, 48, .inl oc7))]) hD [16, 17, 34, 35] rfl
  refine zw_cv hAc hS (va_runV (As := [.ref og7]) (rest := []) ⟨hx, hb, hml, hown, hts⟩ (c_X2_become l D E g7 s7 8 48 z7 c7 og7 os7 oz7 oc7 (by omega) (by omega) (by omega)) (cwV 1 hts gX3_become_X2_become rfl rfl rfl (by decide +kernel) ⟨Nat.le_of_ble_eq_true rfl, Nat.le_of_ble_eq_true rfl⟩) (zw_V hK hPc hDc (ci := 1) (q0 := 0) rfl rfl) rfl rfl hl.1 rfl (lv_room (Nat.le_of_ble_eq_true rfl)) dX3_become_121 ⟨Nat.zero_le _, Nat.zero_le _⟩) (fun u_19 H locs hw_18 hP1 hD1 hk1 hS => ?_)
  obtain ⟨cs_20, rfl⟩ : ∃ z, z = u_19 := ⟨_, rfl⟩
  try dsimp only at hw_18 hP1 hD1
  obtain ⟨hP, hD⟩ := zw_join (wr := [(g0, .inr (2, [.ref h0, .ref g1, .ref g2, .ref g3, .ref g4, .int (nI osk), .ref g5, .ref g6, .ref g7])), (h0, .inr (0, [.int (nI N), .ref h1, .ref h2, .ref h3, .ref h4, .ref h5, .ref h6])), (h1, .inl (E 0, 15, .inl hm_4)), (h2, .inl (E 0, 15, .inl aw_5)), (h3, .inl (E 0, 30, .inl rv_6)), (h4, .inl (E 0, 30, .inl sd_7)), (h5, .inl (E 0, 30, .inl gm_8)), (h6, .inl (E 0, 36, .inl ca)), (g1, .inl (E 0, 6, .inl xs9)), (g2, .inl (E 0, 6, .inl ys9)), (g3, .inl (E 1, 30, .inl bz9)), (g4, .inl (E 0, 4, .inl rt9)), (g5, .inr (1, [.int (nI 6), .ref s5, .int (nI oz5)])), (s5, .inl (E 0, 48, .inl cs_12)), (g6, .inr (1, [.int (nI 8), .ref s6, .int (nI oz6)])), (s6, .inl (E 0, 48, .inl cs_16)), (og0, .inr (2, [.ref o0, .ref og1, .ref og2, .ref og3, .ref og4, .int (nI osk), .ref og5, .ref og6, .ref og7])), (o0, .inr (0, [.int (nI N), .ref o1, .ref o2, .ref o3, .ref o4, .ref o5, .ref o6])), (o1, .inl (E 0, 15, .inl om)), (o2, .inl (E 0, 15, .inl oa)), (o3, .inl (E 0, 30, .inl ov)), (o4, .inl (E 0, 30, .inl os)), (o5, .inl (E 0, 30, .inl og)), (o6, .inl (E 0, 36, .inl oc)), (og1, .inl (E 0, 6, .inl oxs)), (og2, .inl (E 0, 6, .inl oys)), (og3, .inl (E 1, 30, .inl obz)), (og4, .inl (E 0, 4, .inl ort)), (og5, .inr (1, [.int (nI 6), .ref os5, .int (nI oz5)])), (os5, .inl (E 0, 48, .inl oc5)), (og6, .inr (1, [.int (nI 8), .ref os6, .int (nI oz6)])), (os6, .inl (E 0, 48, .inl oc6))]) (w1 := [(g7, .inr (1, [.int (nI 8), .ref s7, .int (nI oz7)])), (s7, .inl (E 0, 48, .inl cs_20)), (og7, .inr (1, [.int (nI 8), .ref os7, .int (nI oz7)])), (os7, .inl (E 0, 48, .inl oc7))]) (ws' := [(g0, .inr (2, [.ref h0, .ref g1, .ref g2, .ref g3, .ref g4, .int (nI osk), .ref g5, .ref g6, .ref g7])), (h0, .inr (0, [.int (nI N), .ref h1, .ref h2, .ref h3, .ref h4, .ref h5, .ref h6])), (h1, .inl (E 0, 15, .inl hm_4)), (h2, .inl (E 0, 15, .inl aw_5)), (h3, .inl (E 0, 30, .inl rv_6)), (h4, .inl (E 0, 30, .inl sd_7)), (h5, .inl (E 0, 30, .inl gm_8)), (h6, .inl (E 0, 36, .inl ca)), (g1, .inl (E 0, 6, .inl xs9)), (g2, .inl (E 0, 6, .inl ys9)), (g3, .inl (E 1, 30, .inl bz9)), (g4, .inl (E 0, 4, .inl rt9)), (g5, .inr (1, [.int (nI 6), .ref s5, .int (nI oz5)])), (s5, .inl (E 0, 48, .inl cs_12)), (g6, .inr (1, [.int (nI 8), .ref s6, .int (nI oz6)])), (s6, .inl (E 0, 48, .inl cs_16)), (g7, .inr (1, [.int (nI 8), .ref s7, .int (nI oz7)])), (s7, .inl (E 0, 48, .inl cs_20)), (og0, .inr (2, [.ref o0, .ref og1, .ref og2, .ref og3, .ref og4, .int (nI osk), .ref og5, .ref og6, .ref og7])), (o0, .inr (0, [.int (nI N), .ref o1, .ref o2, .ref o3, .ref o4, .ref o5, .ref o6])), (o1, .inl (E 0, 15, .inl om)), (o2, .inl (E 0, 15, .inl oa)), (o3, .inl (E 0, 30, .inl ov)), (o4, .inl (E 0, 30, .inl os)), (o5, .inl (E 0, 30, .inl og)), (o6, .inl (E 0, 36, .inl oc)), (og1, .inl (E 0, 6, .inl oxs)), (og2, .inl (E 0, 6, .inl oys)), (og3, .inl (E 1, 30, .inl obz)), (og4, .inl (E 0, 4, .inl ort)), (og5, .inr (1, [.int (nI 6), .ref os5, .int (nI oz5)])), (os5, .inl (E 0, 48, .inl oc5)), (og6, .inr (1, [.int (nI 8), .ref os6, .int (nI oz6)])), (os6, .inl (E 0, 48, .inl oc6)), (og7, .inr (1, [.int (nI 8), .ref os7, .int (nI oz7)])), (os7, .inl (E 0, 48, .inl oc7))]) hP hD [16, 17, 34, 35] [0, 1, 2, 3, 4, 5, 6, 7, 8, 9, 10, 11, 12, 13, 14, 15, 18, 19, 20, 21, 22, 23, 24, 25, 26, 27, 28, 29, 30, 31, 32, 33] [0, 1, 2, 3, 4, 5, 6, 7, 8, 9, 10, 11, 12, 13, 14, 15, 32, 33, 16, 17, 18, 19, 20, 21, 22, 23, 24, 25, 26, 27, 28, 29, 30, 31, 34, 35] rfl rfl (by decide +kernel) (by decide +kernel) hAc hk1 hP1 hD1 (by decide +kernel) rfl
  clear hP1 hD1 hk1 hPc hDc hAc
  have hr3 := hw_18
  subst hQ; have hS := zw_eS hAe hS
  exact W.vret hx hb hr (fun tz htz hWz => ⟨⟨(hm_4, aw_5, rv_6, sd_7, gm_8, xs9, ys9, bz9, rt9, cs_12, cs_16, cs_20), rfl, ⟨hp1, kxs9, kys9, kbz9, krt9, hr1, hr2, hr3⟩, zw_eP htz hP, zw_eD hAe hD⟩, hS.F htz⟩) hS.2.2 dX3_become_124

set_option maxHeartbeats 4000000 in
set_option maxRecDepth 100000 in
theorem c_X3_isSeenBy (l : Launch) (D : va_G) (E : Nat → ClassId) (g0 : Nat) (g1 : Nat) (g2 : Nat) (g3 : Nat) (g4 : Nat) (g5 : Nat) (g6 : Nat) (g7 : Nat) (sk : Nat) (h0 : Nat) (h1 : Nat) (h2 : Nat) (h3 : Nat) (h4 : Nat) (h5 : Nat) (h6 : Nat) (N : Nat) (hm : Nat → Int32) (aw : Nat → Int32) (rv : Nat → Int32) (sd : Nat → Int32) (gm : Nat → Int32) (ca : Nat → Int32) (G : Nat → Nat → Nat) (P : Nat → Nat → Nat) (s5 : Nat) (z5 : Nat) (c5 : Nat → Int32) (sT : Nat → Nat) (sR : Nat → Nat) (sH : Nat → Nat) (kd : Nat) (hpl : zm_pl N G P hm aw rv sd gm) (hse : zs_se N z5 sT sR sH) (hsc : zm_sc z5 sT sR sH c5) (hkd : kd < 3) : Met l yX3_isSeenBy wsX3_isSeenBy ({ frames := 3, cells := 0, slots := 0, locals := 68 }) (zr_P D E [.ref g0, .int (nI kd)] [(g0, .inr (2, [.ref h0, .ref g1, .ref g2, .ref g3, .ref g4, .int (nI sk), .ref g5, .ref g6, .ref g7])), (h0, .inr (0, [.int (nI N), .ref h1, .ref h2, .ref h3, .ref h4, .ref h5, .ref h6])), (h1, .inl (E 0, 15, .inl hm)), (h2, .inl (E 0, 15, .inl aw)), (h3, .inl (E 0, 30, .inl rv)), (h4, .inl (E 0, 30, .inl sd)), (h5, .inl (E 0, 30, .inl gm)), (h6, .inl (E 0, 36, .inl ca)), (g5, .inr (1, [.int (nI 6), .ref s5, .int (nI z5)])), (s5, .inl (E 0, 48, .inl c5))]) (zr_Qi (fun zv => (zv = 1 ∧ (zm_seen N P kd sT sR sH z5 = true)) ∨ (zv = 0 ∧ (zm_seen N P kd sT sR sH z5 = false)))) 0 0 (fun _ => False) := by
  refine Met.ofW (cc := cX3_isSeenBy) (maxL := 4) (ret := (some .boolean)) (by decide) rfl ?_
  intro p e s m args below meth c s₁ Bz hml hv
  obtain ⟨rfl, hP, hK⟩ := hv
  have hx := Bz.exec
  have hb := Bz.bytes
  have hr := Bz.returns
  have hts := atoms_spec (ws := wsX3_isSeenBy) Bz.pre
  have hown : s.vm.findClass RX3 = some m.cls := findClass_of_methodNamed Bz.named
  have hlocks := Bz.notSynchronized
  have hP : va_P D vwCl [(g0, .inr (2, [.ref h0, .ref g1, .ref g2, .ref g3, .ref g4, .int (nI sk), .ref g5, .ref g6, .ref g7])), (h0, .inr (0, [.int (nI N), .ref h1, .ref h2, .ref h3, .ref h4, .ref h5, .ref h6])), (h1, .inl (E 0, 15, .inl hm)), (h2, .inl (E 0, 15, .inl aw)), (h3, .inl (E 0, 30, .inl rv)), (h4, .inl (E 0, 30, .inl sd)), (h5, .inl (E 0, 30, .inl gm)), (h6, .inl (E 0, 36, .inl ca)), (g5, .inr (1, [.int (nI 6), .ref s5, .int (nI z5)])), (s5, .inl (E 0, 48, .inl c5))] s.heap := hP
  have hS : va_S (fun _ : Nat => False) s.heap s.heap [] := va_S.rf
  have hl := lv_entry ([.ref g0, .int (nI kd)]) (n := 4) (Nat.le_of_ble_eq_true rfl)
  rw [lg_entry_eq]
  generalize (lg_sl ([.ref g0, .int (nI kd)]) ++ List.replicate (4 - (lg_sl ([.ref g0, .int (nI kd)])).length) Slot.unset).toArray = ls at hl ⊢
  have hl : lv_has ls 4 [(0, .ref g0), (1, .int (nI kd))] := hl
  refine zr_nQ (fun Q hQ => ?_)
  have hN := hpl.1.1
  have hok := hpl.1
  have hs0 := hse.1
  refine lv_iconst (v := nI 0) hx hb dX3_isSeenBy_0 (by rfl) ?_
  refine lv_istore_n (lv' := [(2, .int (nI 0)), (0, .ref g0), (1, .int (nI kd))]) hx hb dX3_isSeenBy_1 rfl hl (by decide) rfl (fun ls hl => ?_)
  suffices KL2 : ∀ (kz : Nat) (i : Nat) (H : Heap) (locs : List Loc) (ls : Array Slot), (z5 - i) < kz → (zm_seen N P kd sT sR sH i = true) → (i ≤ z5) → va_P D vwCl [(g0, .inr (2, [.ref h0, .ref g1, .ref g2, .ref g3, .ref g4, .int (nI sk), .ref g5, .ref g6, .ref g7])), (h0, .inr (0, [.int (nI N), .ref h1, .ref h2, .ref h3, .ref h4, .ref h5, .ref h6])), (h1, .inl (E 0, 15, .inl hm)), (h2, .inl (E 0, 15, .inl aw)), (h3, .inl (E 0, 30, .inl rv)), (h4, .inl (E 0, 30, .inl sd)), (h5, .inl (E 0, 30, .inl gm)), (h6, .inl (E 0, 36, .inl ca)), (g5, .inr (1, [.int (nI 6), .ref s5, .int (nI z5)])), (s5, .inl (E 0, 48, .inl c5))] H → va_S (fun _ : Nat => False) s.heap H locs → lv_has ls 4 [(0, .ref g0), (1, .int (nI kd)), (2, .int (nI i))] → W p l e (headSpec wsX3_isSeenBy ({ frames := 3, cells := 0, slots := 0, locals := 68 })).room s m ([.ref g0, .int (nI kd)] : List Value).toArray below meth c H locs 0 0 Q (F0 m 2 ls []) from
    KL2 _ 0 _ _ ls (Nat.lt_succ_self _) (rfl) (by omega) hP hS (lv_sub hl [1, 2, 0] rfl)
  clear hP hS hl
  intro kz
  induction kz with
  | zero => intro i H locs ls hkz; exact absurd hkz (Nat.not_lt_zero _)
  | succ kz ih2 =>
    intro i H locs ls hkz hI hi hP hS hl
    refine lv_iload_n hx hb dX3_isSeenBy_2 rfl (lv_at hl 2 rfl) ?_
    refine lv_aload_n hx hb dX3_isSeenBy_3 rfl (lv_at hl 0 rfl) ?_
    refine va_get (D := D) (ci := 2) (v := .ref g5) (C := RX3) (T := TX3) (N := 9) hx hb hts (by decide +kernel) hown hK.1 hP 0 rfl rfl 6 (by decide) (hts (.fieldLink RX3 37 "HomeRounds$Setting" "seen" "LHomeRounds$Rows;") (by decide +kernel)) (fun _ h9 => h9) rfl dX3_isSeenBy_4 ?_
    refine va_get (D := D) (ci := 1) (v := .int (nI z5)) (C := RX2) (T := TX2) (N := 3) hx hb hts (by decide +kernel) hown hK.1 hP 8 rfl rfl 2 (by decide) (hts (.fieldLink RX3 170 "HomeRounds$Rows" "size" "I") (by decide +kernel)) (fun _ h9 => h9) rfl dX3_isSeenBy_7 ?_
    refine lv_icmp_ge (tgt := 74) hx hb dX3_isSeenBy_10 (by decide) (fun cn_1 => ?_) (fun cn_1 => ?_)
    · skip
      have cn_1 : z5 ≤ i := (nI_leI (a := z5) (b := i) (by omega) (by omega)).mp cn_1
      have hie : i = z5 := by omega
      refine lv_iconst (v := nI 1) hx hb dX3_isSeenBy_74 (by rfl) ?_
      subst hQ
      exact W.zret (v := nI 1) hx hb hr (by decide) (fun tz htz hWz => ⟨⟨nI 1, (), rfl, Or.inl ⟨rfl, hie ▸ hI⟩, trivial⟩, hS.F htz⟩) hS.2.2 dX3_isSeenBy_75
    · skip
      have cn_1 : ¬ (z5 ≤ i) := fun hz => cn_1 ((nI_leI (a := z5) (b := i) (by omega) (by omega)).mpr hz)
      have hin : i < z5 := by omega
      obtain ⟨hs1, hs2, hs3⟩ := hse.2 i hin
      obtain ⟨hc1, hc2, hc3⟩ := hsc i hin
      have hzs := zm_ss_lt (N := N) (P := P) (kd := kd) (t := sT i) (r := sR i)
      refine lv_aload_n hx hb dX3_isSeenBy_13 rfl (lv_at hl 0 rfl) ?_
      refine va_get (D := D) (ci := 2) (v := .ref g5) (C := RX3) (T := TX3) (N := 9) hx hb hts (by decide +kernel) hown hK.1 hP 0 rfl rfl 6 (by decide) (hts (.fieldLink RX3 37 "HomeRounds$Setting" "seen" "LHomeRounds$Rows;") (by decide +kernel)) (fun _ h9 => h9) rfl dX3_isSeenBy_14 ?_
      refine lv_iload_n hx hb dX3_isSeenBy_17 rfl (lv_at hl 2 rfl) ?_
      refine lv_iconst (v := nI 1) hx hb dX3_isSeenBy_18 (by rfl) ?_
      refine zr_ci hP hS (va_runV (As := [.int (nI i), .int (nI 1)]) (rest := []) ⟨hx, hb, hml, hown, hts⟩ (c_X2_at l D E g5 s5 6 48 z5 c5 i 1 (by omega) (by omega) (by omega) (by omega) (by omega)) (cwV 2 hts gX3_isSeenBy_X2_at rfl rfl rfl (by decide +kernel) ⟨Nat.le_of_ble_eq_true rfl, Nat.le_of_ble_eq_true rfl⟩) (zr_V hK (hP.sub (ws' := [(g5, .inr (1, [.int (nI 6), .ref s5, .int (nI z5)])), (s5, .inl (E 0, 48, .inl c5))]) [8, 9] rfl) (ci := 1) (q0 := 0) rfl rfl) rfl rfl hl.1 rfl (lv_room (Nat.le_of_ble_eq_true rfl)) dX3_isSeenBy_19 ⟨Nat.zero_le _, Nat.zero_le _⟩) (fun r_2 H locs hw_3 hP hS => ?_)
      subst hw_3
      refine zr_ti (y := nI (sR i)) (hc2) ?_
      refine lv_istore_n (lv' := [(3, .int (nI (sR i))), (0, .ref g0), (1, .int (nI kd)), (2, .int (nI i))]) hx hb dX3_isSeenBy_22 rfl hl (by decide) rfl (fun ls hl => ?_)
      refine lv_aload_n hx hb dX3_isSeenBy_23 rfl (lv_at hl 1 rfl) ?_
      refine va_get (D := D) (ci := 2) (v := .ref h0) (C := RX3) (T := TX3) (N := 9) hx hb hts (by decide +kernel) hown hK.1 hP 0 rfl rfl 0 (by decide) (hts (.fieldLink RX3 12 "HomeRounds$Setting" "plan" "LHomeRounds$Plan;") (by decide +kernel)) (fun _ h9 => h9) rfl dX3_isSeenBy_24 ?_
      refine lv_iload_n hx hb dX3_isSeenBy_27 rfl (lv_at hl 0 rfl) ?_
      refine zr_ci hP hS (va_runV (As := [.int (nI (sR i))]) (rest := []) ⟨hx, hb, hml, hown, hts⟩ (c_X1_hasSeasonRound l D E h0 h1 h2 h3 h4 h5 h6 N hm aw rv sd gm ca (nI (sR i)) (hN)) (cwV 1 hts gX3_isSeenBy_X1_hasSeasonRound rfl rfl rfl (by decide +kernel) ⟨Nat.le_of_ble_eq_true rfl, Nat.le_of_ble_eq_true rfl⟩) (zr_V hK (hP.sub (ws' := [(h0, .inr (0, [.int (nI N), .ref h1, .ref h2, .ref h3, .ref h4, .ref h5, .ref h6])), (h1, .inl (E 0, 15, .inl hm)), (h2, .inl (E 0, 15, .inl aw)), (h3, .inl (E 0, 30, .inl rv)), (h4, .inl (E 0, 30, .inl sd)), (h5, .inl (E 0, 30, .inl gm)), (h6, .inl (E 0, 36, .inl ca))]) [1, 2, 3, 4, 5, 6, 7] rfl) (ci := 0) (q0 := 0) rfl rfl) rfl rfl hl.1 rfl (lv_room (Nat.le_of_ble_eq_true rfl)) dX3_isSeenBy_28 ⟨Nat.zero_le _, Nat.zero_le _⟩) (fun r_4 H locs hw_5 hP hS => ?_)
      rcases hw_5 with ⟨rfl, hw_5⟩ | ⟨rfl, hw_5⟩
      · skip
        have hsr : sR i < 2 * (N - 1) := by
          obtain ⟨t9, h9, e9⟩ := hw_5
          have e8 := (nI_eq (by omega) (by omega)).mp e9
          omega
        refine zr_ti (y := nI 1) rfl ?_
        refine lv_if_ne (tgt := 36) hx hb dX3_isSeenBy_31 (by decide) (fun cn_6 => ?_) (fun cn_6 => ?_)
        · skip
          refine lv_aload_n hx hb dX3_isSeenBy_36 rfl (lv_at hl 1 rfl) ?_
          refine va_get (D := D) (ci := 2) (v := .ref h0) (C := RX3) (T := TX3) (N := 9) hx hb hts (by decide +kernel) hown hK.1 hP 0 rfl rfl 0 (by decide) (hts (.fieldLink RX3 12 "HomeRounds$Setting" "plan" "LHomeRounds$Plan;") (by decide +kernel)) (fun _ h9 => h9) rfl dX3_isSeenBy_37 ?_
          refine lv_aload_n hx hb dX3_isSeenBy_40 rfl (lv_at hl 1 rfl) ?_
          refine va_get (D := D) (ci := 2) (v := .ref g5) (C := RX3) (T := TX3) (N := 9) hx hb hts (by decide +kernel) hown hK.1 hP 0 rfl rfl 6 (by decide) (hts (.fieldLink RX3 37 "HomeRounds$Setting" "seen" "LHomeRounds$Rows;") (by decide +kernel)) (fun _ h9 => h9) rfl dX3_isSeenBy_41 ?_
          refine lv_iload_n hx hb dX3_isSeenBy_44 rfl (lv_at hl 3 rfl) ?_
          refine lv_iconst (v := nI 0) hx hb dX3_isSeenBy_45 (by rfl) ?_
          refine zr_ci hP hS (va_runV (As := [.int (nI i), .int (nI 0)]) (rest := [.ref h0]) ⟨hx, hb, hml, hown, hts⟩ (c_X2_at l D E g5 s5 6 48 z5 c5 i 0 (by omega) (by omega) (by omega) (by omega) (by omega)) (cwV 2 hts gX3_isSeenBy_X2_at rfl rfl rfl (by decide +kernel) ⟨Nat.le_of_ble_eq_true rfl, Nat.le_of_ble_eq_true rfl⟩) (zr_V hK (hP.sub (ws' := [(g5, .inr (1, [.int (nI 6), .ref s5, .int (nI z5)])), (s5, .inl (E 0, 48, .inl c5))]) [8, 9] rfl) (ci := 1) (q0 := 0) rfl rfl) rfl rfl hl.1 rfl (lv_room (Nat.le_of_ble_eq_true rfl)) dX3_isSeenBy_46 ⟨Nat.zero_le _, Nat.zero_le _⟩) (fun r_7 H locs hw_8 hP hS => ?_)
          subst hw_8
          refine zr_ti (y := nI (sT i)) (hc1) ?_
          refine lv_iload_n hx hb dX3_isSeenBy_49 rfl (lv_at hl 0 rfl) ?_
          refine lv_iload_n hx hb dX3_isSeenBy_50 rfl (lv_at hl 2 rfl) ?_
          refine zr_ci hP hS (va_runV (As := [.int (nI (sT i)), .int (nI (sR i)), .int (nI kd)]) (rest := []) ⟨hx, hb, hml, hown, hts⟩ (c_X1_seasonSide l D E h0 h1 h2 h3 h4 h5 h6 N hm aw rv sd gm ca G P (sT i) (sR i) kd (hpl) (by omega) (by omega) (by omega)) (cwV 3 hts gX3_isSeenBy_X1_seasonSide rfl rfl rfl (by decide +kernel) ⟨Nat.le_of_ble_eq_true rfl, Nat.le_of_ble_eq_true rfl⟩) (zr_V hK (hP.sub (ws' := [(h0, .inr (0, [.int (nI N), .ref h1, .ref h2, .ref h3, .ref h4, .ref h5, .ref h6])), (h1, .inl (E 0, 15, .inl hm)), (h2, .inl (E 0, 15, .inl aw)), (h3, .inl (E 0, 30, .inl rv)), (h4, .inl (E 0, 30, .inl sd)), (h5, .inl (E 0, 30, .inl gm)), (h6, .inl (E 0, 36, .inl ca))]) [1, 2, 3, 4, 5, 6, 7] rfl) (ci := 0) (q0 := 0) rfl rfl) rfl rfl hl.1 rfl (lv_room (Nat.le_of_ble_eq_true rfl)) dX3_isSeenBy_51 ⟨Nat.zero_le _, Nat.zero_le _⟩) (fun r_9 H locs hw_10 hP hS => ?_)
          subst hw_10
          refine lv_aload_n hx hb dX3_isSeenBy_54 rfl (lv_at hl 1 rfl) ?_
          refine va_get (D := D) (ci := 2) (v := .ref g5) (C := RX3) (T := TX3) (N := 9) hx hb hts (by decide +kernel) hown hK.1 hP 0 rfl rfl 6 (by decide) (hts (.fieldLink RX3 37 "HomeRounds$Setting" "seen" "LHomeRounds$Rows;") (by decide +kernel)) (fun _ h9 => h9) rfl dX3_isSeenBy_55 ?_
          refine lv_iload_n hx hb dX3_isSeenBy_58 rfl (lv_at hl 3 rfl) ?_
          refine lv_iconst (v := nI 2) hx hb dX3_isSeenBy_59 (by rfl) ?_
          refine zr_ci hP hS (va_runV (As := [.int (nI i), .int (nI 2)]) (rest := [.int (nI (zm_ss N P kd (sT i) (sR i)))]) ⟨hx, hb, hml, hown, hts⟩ (c_X2_at l D E g5 s5 6 48 z5 c5 i 2 (by omega) (by omega) (by omega) (by omega) (by omega)) (cwV 2 hts gX3_isSeenBy_X2_at rfl rfl rfl (by decide +kernel) ⟨Nat.le_of_ble_eq_true rfl, Nat.le_of_ble_eq_true rfl⟩) (zr_V hK (hP.sub (ws' := [(g5, .inr (1, [.int (nI 6), .ref s5, .int (nI z5)])), (s5, .inl (E 0, 48, .inl c5))]) [8, 9] rfl) (ci := 1) (q0 := 0) rfl rfl) rfl rfl hl.1 rfl (lv_room (Nat.le_of_ble_eq_true rfl)) dX3_isSeenBy_60 ⟨Nat.zero_le _, Nat.zero_le _⟩) (fun r_11 H locs hw_12 hP hS => ?_)
          subst hw_12
          refine zr_ti (y := nI (sH i)) (hc3) ?_
          refine lv_icmp_eq (tgt := 68) hx hb dX3_isSeenBy_63 (by decide) (fun cn_13 => ?_) (fun cn_13 => ?_)
          · skip
            have cn_13 : zm_ss N P kd (sT i) (sR i) = sH i := (nI_eq (a := zm_ss N P kd (sT i) (sR i)) (b := sH i) (by omega) (by omega)).mp cn_13
            have hkt : zm_sk N P kd (sT i) (sR i) (sH i) = true := by unfold zm_sk; rw [decide_eq_true hsr, decide_eq_true cn_13]; rfl
            refine lv_iinc (v := nI (i + 1)) (lv' := [(2, .int (nI (i + 1))), (3, .int (nI (sR i))), (0, .ref g0), (1, .int (nI kd))]) hx hb dX3_isSeenBy_68 hl (k := 3) rfl (nI_add _ _) (by decide) rfl (fun ls hl => ?_)
            refine lv_goto (tgt := 2) hx hb dX3_isSeenBy_71 (by decide) ?_
            have hl : lv_has ls 4 [(0, .ref g0), (1, .int (nI kd)), (2, .int (nI (i + 1)))] := lv_sub hl [2, 3, 0] rfl
            exact ih2 (i + 1) H locs ls (by omega) (by rw [zm_seen, hI, hkt]; rfl) (by omega) hP hS hl
          · skip
            have cn_13 : ¬ (zm_ss N P kd (sT i) (sR i) = sH i) := fun hz => cn_13 ((nI_eq (a := zm_ss N P kd (sT i) (sR i)) (b := sH i) (by omega) (by omega)).mpr hz)
            have hkf : zm_sk N P kd (sT i) (sR i) (sH i) = false := by unfold zm_sk; rw [decide_eq_false cn_13, Bool.and_false]
            refine lv_iconst (v := nI 0) hx hb dX3_isSeenBy_66 (by rfl) ?_
            subst hQ
            exact W.zret (v := nI 0) hx hb hr (by decide) (fun tz htz hWz => ⟨⟨nI 0, (), rfl, Or.inr ⟨rfl, zm_seen_f (i := i) hkf _ hin⟩, trivial⟩, hS.F htz⟩) hS.2.2 dX3_isSeenBy_67
        · skip
          exact absurd cn_6 (by decide)
      · skip
        have hkf : zm_sk N P kd (sT i) (sR i) (sH i) = false := by unfold zm_sk; rw [decide_eq_false (fun q => hw_5 _ q rfl)]; rfl
        refine zr_ti (y := nI 0) rfl ?_
        refine lv_if_ne (tgt := 36) hx hb dX3_isSeenBy_31 (by decide) (fun cn_14 => ?_) (fun cn_14 => ?_)
        · skip
          exact absurd cn_14 (by decide)
        · skip
          refine lv_iconst (v := nI 0) hx hb dX3_isSeenBy_34 (by rfl) ?_
          subst hQ
          exact W.zret (v := nI 0) hx hb hr (by decide) (fun tz htz hWz => ⟨⟨nI 0, (), rfl, Or.inr ⟨rfl, zm_seen_f (i := i) hkf _ hin⟩, trivial⟩, hS.F htz⟩) hS.2.2 dX3_isSeenBy_35

set_option maxHeartbeats 4000000 in
set_option maxRecDepth 100000 in
theorem c_X3_allBars (l : Launch) (D : va_G) (E : Nat → ClassId) (g0 : Nat) (g1 : Nat) (g2 : Nat) (g3 : Nat) (g4 : Nat) (g5 : Nat) (g6 : Nat) (g7 : Nat) (sk : Nat) (h0 : Nat) (bz : Nat → Int32) (B : Nat → Nat → Nat) (hbz : zm_bz B bz) : Met l yX3_allBars wsX3_allBars ({ frames := 0, cells := 0, slots := 0, locals := 0 }) (zr_P D E [.ref g0] [(g0, .inr (2, [.ref h0, .ref g1, .ref g2, .ref g3, .ref g4, .int (nI sk), .ref g5, .ref g6, .ref g7])), (g3, .inl (E 1, 30, .inl bz))]) (zr_Qi (fun zv => zv = nI (zm_allb B))) 0 0 (fun _ => False) := by
  refine Met.ofW (cc := cX3_allBars) (maxL := 3) (ret := (some .int)) (by decide) rfl ?_
  intro p e s m args below meth c s₁ Bz hml hv
  obtain ⟨rfl, hP, hK⟩ := hv
  have hx := Bz.exec
  have hb := Bz.bytes
  have hr := Bz.returns
  have hts := atoms_spec (ws := wsX3_allBars) Bz.pre
  have hown : s.vm.findClass RX3 = some m.cls := findClass_of_methodNamed Bz.named
  have hlocks := Bz.notSynchronized
  have hP : va_P D vwCl [(g0, .inr (2, [.ref h0, .ref g1, .ref g2, .ref g3, .ref g4, .int (nI sk), .ref g5, .ref g6, .ref g7])), (g3, .inl (E 1, 30, .inl bz))] s.heap := hP
  have hS : va_S (fun _ : Nat => False) s.heap s.heap [] := va_S.rf
  have hl := lv_entry ([.ref g0]) (n := 3) (Nat.le_of_ble_eq_true rfl)
  rw [lg_entry_eq]
  generalize (lg_sl ([.ref g0]) ++ List.replicate (3 - (lg_sl ([.ref g0])).length) Slot.unset).toArray = ls at hl ⊢
  have hl : lv_has ls 3 [(0, .ref g0)] := hl
  refine zr_nQ (fun Q hQ => ?_)
  refine lv_iconst (v := nI 0) hx hb dX3_allBars_0 (by rfl) ?_
  refine lv_istore_n (lv' := [(1, .int (nI 0)), (0, .ref g0)]) hx hb dX3_allBars_1 rfl hl (by decide) rfl (fun ls hl => ?_)
  refine lv_iconst (v := nI 0) hx hb dX3_allBars_2 (by rfl) ?_
  refine lv_istore_n (lv' := [(2, .int (nI 0)), (1, .int (nI 0)), (0, .ref g0)]) hx hb dX3_allBars_3 rfl hl (by decide) rfl (fun ls hl => ?_)
  suffices KL4 : ∀ (kz : Nat) (i : Nat) (q : Nat) (H : Heap) (locs : List Loc) (ls : Array Slot), (30 - i) < kz → (q = zm_sum (fun i => B (i % 6) (i / 6)) i) → (i ≤ 30) → va_P D vwCl [(g0, .inr (2, [.ref h0, .ref g1, .ref g2, .ref g3, .ref g4, .int (nI sk), .ref g5, .ref g6, .ref g7])), (g3, .inl (E 1, 30, .inl bz))] H → va_S (fun _ : Nat => False) s.heap H locs → lv_has ls 3 [(0, .ref g0), (1, .int (nI q)), (2, .int (nI i))] → W p l e (headSpec wsX3_allBars ({ frames := 0, cells := 0, slots := 0, locals := 0 })).room s m ([.ref g0] : List Value).toArray below meth c H locs 0 0 Q (F0 m 4 ls []) from
    KL4 _ 0 0 _ _ ls (Nat.lt_succ_self _) (rfl) (by omega) hP hS (lv_sub hl [2, 1, 0] rfl)
  clear hP hS hl
  intro kz
  induction kz with
  | zero => intro i q H locs ls hkz; exact absurd hkz (Nat.not_lt_zero _)
  | succ kz ih4 =>
    intro i q H locs ls hkz hq hi hP hS hl
    refine lv_iload_n hx hb dX3_allBars_4 rfl (lv_at hl 2 rfl) ?_
    refine lv_aload_n hx hb dX3_allBars_5 rfl (lv_at hl 0 rfl) ?_
    refine va_get (D := D) (ci := 2) (v := .ref g3) (C := RX3) (T := TX3) (N := 9) hx hb hts (by decide +kernel) hown hK.1 hP 0 rfl rfl 3 (by decide) (hts (.fieldLink RX3 25 "HomeRounds$Setting" "bars" "[Z") (by decide +kernel)) (fun _ h9 => h9) rfl dX3_allBars_6 ?_
    refine va_alen hx hb hK.1 hP 1 1 rfl rfl (v := nI 30) rfl dX3_allBars_9 ?_
    refine lv_icmp_ge (tgt := 36) hx hb dX3_allBars_10 (by decide) (fun cn_1 => ?_) (fun cn_1 => ?_)
    · skip
      have cn_1 : 30 ≤ i := (nI_leI (a := 30) (b := i) (by omega) (by omega)).mp cn_1
      have hie : i = 30 := by omega
      refine lv_iload_n hx hb dX3_allBars_36 rfl (lv_at hl 1 rfl) ?_
      subst hQ
      exact W.iret (v := nI q) hx hb hr (fun tz htz hWz => ⟨⟨nI q, (), rfl, by rw [hq, hie]; rfl, trivial⟩, hS.F htz⟩) hS.2.2 dX3_allBars_37
    · skip
      have cn_1 : ¬ (30 ≤ i) := fun hz => cn_1 ((nI_leI (a := 30) (b := i) (by omega) (by omega)).mpr hz)
      obtain ⟨hb1, hb2⟩ := hbz (i / 6) (i % 6) (by omega) (by omega)
      refine lv_iload_n hx hb dX3_allBars_13 rfl (lv_at hl 1 rfl) ?_
      refine lv_aload_n hx hb dX3_allBars_14 rfl (lv_at hl 0 rfl) ?_
      refine va_get (D := D) (ci := 2) (v := .ref g3) (C := RX3) (T := TX3) (N := 9) hx hb hts (by decide +kernel) hown hK.1 hP 0 rfl rfl 3 (by decide) (hts (.fieldLink RX3 25 "HomeRounds$Setting" "bars" "[Z") (by decide +kernel)) (fun _ h9 => h9) rfl dX3_allBars_15 ?_
      refine lv_iload_n hx hb dX3_allBars_18 rfl (lv_at hl 2 rfl) ?_
      refine va_zald hx hb hK.1 hP 1 1 rfl rfl (vp_in_nI (by omega) (by omega)) dX3_allBars_19 ?_
      refine zr_ti (y := nI (B (i % 6) (i / 6))) ((congrArg bz (nI_clamp (by omega))).trans (by rw [← hb2]; congr 1; omega)) ?_
      refine lv_if_eq (tgt := 27) hx hb dX3_allBars_20 (by decide) (fun cn_2 => ?_) (fun cn_2 => ?_)
      · skip
        have cn_2 : B (i % 6) (i / 6) = 0 := (nI_eq (a := B (i % 6) (i / 6)) (b := 0) (by omega) (by omega)).mp cn_2
        have hbr := cn_2
        refine lv_iconst (v := nI 0) hx hb dX3_allBars_27 (by rfl) ?_
        refine lv_iadd hx hb dX3_allBars_28 ?_
        refine zr_ti (y := nI (q + 0)) (nI_add _ _) ?_
        refine lv_istore_n (lv' := [(1, .int (nI (q + 0))), (0, .ref g0), (2, .int (nI i))]) hx hb dX3_allBars_29 rfl hl (by decide) rfl (fun ls hl => ?_)
        refine lv_iinc (v := nI (i + 1)) (lv' := [(2, .int (nI (i + 1))), (1, .int (nI (q + 0))), (0, .ref g0)]) hx hb dX3_allBars_30 hl (k := 2) rfl (nI_add _ _) (by decide) rfl (fun ls hl => ?_)
        refine lv_goto (tgt := 4) hx hb dX3_allBars_33 (by decide) ?_
        have hl : lv_has ls 3 [(0, .ref g0), (1, .int (nI (q + 0))), (2, .int (nI (i + 1)))] := lv_sub hl [2, 1, 0] rfl
        exact ih4 (i + 1) (q + 0) H locs ls (by omega) (by rw [zm_sum, hq]; omega) (by omega) hP hS hl
      · skip
        have cn_2 : ¬ (B (i % 6) (i / 6) = 0) := fun hz => cn_2 ((nI_eq (a := B (i % 6) (i / 6)) (b := 0) (by omega) (by omega)).mpr hz)
        have hbr := cn_2
        refine lv_iconst (v := nI 1) hx hb dX3_allBars_23 (by rfl) ?_
        refine lv_goto (tgt := 28) hx hb dX3_allBars_24 (by decide) ?_
        refine lv_iadd hx hb dX3_allBars_28 ?_
        refine zr_ti (y := nI (q + 1)) (nI_add _ _) ?_
        refine lv_istore_n (lv' := [(1, .int (nI (q + 1))), (0, .ref g0), (2, .int (nI i))]) hx hb dX3_allBars_29 rfl hl (by decide) rfl (fun ls hl => ?_)
        refine lv_iinc (v := nI (i + 1)) (lv' := [(2, .int (nI (i + 1))), (1, .int (nI (q + 1))), (0, .ref g0)]) hx hb dX3_allBars_30 hl (k := 2) rfl (nI_add _ _) (by decide) rfl (fun ls hl => ?_)
        refine lv_goto (tgt := 4) hx hb dX3_allBars_33 (by decide) ?_
        have hl : lv_has ls 3 [(0, .ref g0), (1, .int (nI (q + 1))), (2, .int (nI (i + 1)))] := lv_sub hl [2, 1, 0] rfl
        exact ih4 (i + 1) (q + 1) H locs ls (by omega) (by rw [zm_sum, hq]; omega) (by omega) hP hS hl

set_option maxHeartbeats 4000000 in
set_option maxRecDepth 100000 in
theorem c_X7_lowest (l : Launch) (D : va_G) (E : Nat → ClassId) (ab : Nat) (be : Nat) (v : Int32) (hab : ab < 1000) (hbe : be ≤ 60) (hb1 : 0 < be) (hv2 : v = nI 0 ∨ v = nI 1) : Met l yX7_lowest wsX7_lowest ({ frames := 0, cells := 0, slots := 0, locals := 0 }) (zr_P D E [.int (nI ab), .int (nI be), .int v] []) (zr_Ql (fun zv => zv = lN (zm_low v ab be))) 0 0 (fun _ => False) := by
  refine Met.ofW (cc := cX7_lowest) (maxL := 7) (ret := (some .long)) (by decide) rfl ?_
  intro p e s m args below meth c s₁ Bz hml hv
  obtain ⟨rfl, hP, hK⟩ := hv
  have hx := Bz.exec
  have hb := Bz.bytes
  have hr := Bz.returns
  have hts := atoms_spec (ws := wsX7_lowest) Bz.pre
  have hown : s.vm.findClass RX7 = some m.cls := findClass_of_methodNamed Bz.named
  have hlocks := Bz.notSynchronized
  have hP : va_P D vwCl [] s.heap := hP
  have hS : va_S (fun _ : Nat => False) s.heap s.heap [] := va_S.rf
  have hl := lv_entry ([.int (nI ab), .int (nI be), .int v]) (n := 7) (Nat.le_of_ble_eq_true rfl)
  rw [lg_entry_eq]
  generalize (lg_sl ([.int (nI ab), .int (nI be), .int v]) ++ List.replicate (7 - (lg_sl ([.int (nI ab), .int (nI be), .int v])).length) Slot.unset).toArray = ls at hl ⊢
  have hl : lv_has ls 7 [(0, .int (nI ab)), (1, .int (nI be)), (2, .int v)] := hl
  refine zr_nQ (fun Q hQ => ?_)
  have hg1 : 0 < Nat.gcd ab be := Nat.gcd_pos_of_pos_right _ hb1
  have hg2 : Nat.gcd ab be ≤ be := Nat.gcd_le_right _ hb1
  refine lv_iload_n hx hb dX7_lowest_0 rfl (lv_at hl 0 rfl) ?_
  refine lv_istore_n (lv' := [(3, .int (nI ab)), (0, .int (nI ab)), (1, .int (nI be)), (2, .int v)]) hx hb dX7_lowest_1 rfl hl (by decide) rfl (fun ls hl => ?_)
  refine lv_iload_n hx hb dX7_lowest_2 rfl (lv_at hl 2 rfl) ?_
  refine lv_istore (lv' := [(4, .int (nI be)), (3, .int (nI ab)), (0, .int (nI ab)), (1, .int (nI be)), (2, .int v)]) hx hb dX7_lowest_3 hl (by decide) rfl (fun ls hl => ?_)
  refine lv_iconst (v := nI 0) hx hb dX7_lowest_5 (by rfl) ?_
  refine lv_istore (lv' := [(5, .int (nI 0)), (4, .int (nI be)), (3, .int (nI ab)), (0, .int (nI ab)), (1, .int (nI be)), (2, .int v)]) hx hb dX7_lowest_6 hl (by decide) rfl (fun ls hl => ?_)
  suffices KL8 : ∀ (kz : Nat) (a : Nat) (b : Nat) (i : Nat) (H : Heap) (locs : List Loc) (ls : Array Slot), b < kz → (Nat.gcd a b = Nat.gcd ab be) → (a < 1000) → (b ≤ 60) → (b + i ≤ 60) → va_P D vwCl [] H → va_S (fun _ : Nat => False) s.heap H locs → lv_has ls 7 [(0, .int (nI ab)), (1, .int (nI be)), (2, .int v), (3, .int (nI a)), (4, .int (nI b)), (5, .int (nI i))] → W p l e (headSpec wsX7_lowest ({ frames := 0, cells := 0, slots := 0, locals := 0 })).room s m ([.int (nI ab), .int (nI be), .int v] : List Value).toArray below meth c H locs 0 0 Q (F0 m 8 ls []) from
    KL8 _ ab be 0 _ _ ls (Nat.lt_succ_self _) (rfl) (by omega) (by omega) (by omega) hP hS (lv_sub hl [3, 4, 5, 2, 1, 0] rfl)
  clear hP hS hl
  intro kz
  induction kz with
  | zero => intro a b i H locs ls hkz; exact absurd hkz (Nat.not_lt_zero _)
  | succ kz ih8 =>
    intro a b i H locs ls hkz hI ha hb9 hbi hP hS hl
    refine lv_iload hx hb dX7_lowest_8 (lv_at hl 5 rfl) ?_
    refine lv_bipush (v := nI 64) hx hb dX7_lowest_10 (by rfl) ?_
    refine lv_icmp_ge (tgt := 39) hx hb dX7_lowest_12 (by decide) (fun cn_1 => ?_) (fun cn_1 => ?_)
    · skip
      have cn_1 : 64 ≤ i := (nI_leI (a := 64) (b := i) (by omega) (by omega)).mp cn_1
      exfalso; omega
    · skip
      have cn_1 : ¬ (64 ≤ i) := fun hz => cn_1 ((nI_leI (a := 64) (b := i) (by omega) (by omega)).mpr hz)
      refine lv_iload hx hb dX7_lowest_15 (lv_at hl 4 rfl) ?_
      refine lv_if_eq (tgt := 39) hx hb dX7_lowest_17 (by decide) (fun cn_2 => ?_) (fun cn_2 => ?_)
      · skip
        have cn_2 : b = 0 := (nI_eq (a := b) (b := 0) (by omega) (by omega)).mp cn_2
        have hz := cn_2
        obtain rfl : b = 0 := cn_2
        obtain rfl : a = Nat.gcd ab be := by rw [← hI]; exact (Nat.gcd_zero_right a).symm
        refine lv_iload_n hx hb dX7_lowest_39 rfl (lv_at hl 3 rfl) ?_
        refine lv_if_ne (tgt := 45) hx hb dX7_lowest_40 (by decide) (fun cn_3 => ?_) (fun cn_3 => ?_)
        · skip
          have cn_3 : ¬ (Nat.gcd ab be = 0) := fun hz => cn_3 ((nI_eq (a := Nat.gcd ab be) (b := 0) (by omega) (by omega)).mpr hz)
          refine lv_iload_n hx hb dX7_lowest_45 rfl (lv_at hl 2 rfl) ?_
          refine lv_if_ne (tgt := 56) hx hb dX7_lowest_46 (by decide) (fun cn_4 => ?_) (fun cn_4 => ?_)
          · skip
            have hp : ¬ v = nI 0 := cn_4
            refine lv_iload_n hx hb dX7_lowest_56 rfl (lv_at hl 1 rfl) ?_
            refine lv_iload_n hx hb dX7_lowest_57 rfl (lv_at hl 3 rfl) ?_
            refine lv_idiv hx hb dX7_lowest_58 (nI_ne0 (by omega) (by omega)) ?_
            refine zr_ti (y := nI (be / (Nat.gcd ab be))) (pk_div (by omega) (by omega) (by omega)) ?_
            refine lv_i2l (v := lN (be / Nat.gcd ab be)) hx hb dX7_lowest_59 (nI_l (by have := Nat.div_le_self be (Nat.gcd ab be); omega)) ?_
            subst hQ
            exact W.lret (v := lN (be / Nat.gcd ab be)) hx hb hr (fun tz htz hWz => ⟨⟨lN (be / Nat.gcd ab be), (), rfl, by show lN _ = lN (zm_low v ab be); unfold zm_low; first | rw [if_pos hp] | rw [if_neg hp], trivial⟩, hS.F htz⟩) hS.2.2 dX7_lowest_60
          · skip
            have hp : v = nI 0 := cn_4
            refine lv_iload_n hx hb dX7_lowest_49 rfl (lv_at hl 0 rfl) ?_
            refine lv_iload_n hx hb dX7_lowest_50 rfl (lv_at hl 3 rfl) ?_
            refine lv_idiv hx hb dX7_lowest_51 (nI_ne0 (by omega) (by omega)) ?_
            refine zr_ti (y := nI (ab / (Nat.gcd ab be))) (pk_div (by omega) (by omega) (by omega)) ?_
            refine lv_i2l (v := lN (ab / Nat.gcd ab be)) hx hb dX7_lowest_52 (nI_l (by have := Nat.div_le_self ab (Nat.gcd ab be); omega)) ?_
            refine lv_goto (tgt := 60) hx hb dX7_lowest_53 (by decide) ?_
            subst hQ
            exact W.lret (v := lN (ab / Nat.gcd ab be)) hx hb hr (fun tz htz hWz => ⟨⟨lN (ab / Nat.gcd ab be), (), rfl, by show lN _ = lN (zm_low v ab be); unfold zm_low; first | rw [if_pos hp] | rw [if_neg hp], trivial⟩, hS.F htz⟩) hS.2.2 dX7_lowest_60
        · skip
          have cn_3 : Nat.gcd ab be = 0 := (nI_eq (a := Nat.gcd ab be) (b := 0) (by omega) (by omega)).mp cn_3
          exfalso; omega
      · skip
        have cn_2 : ¬ (b = 0) := fun hz => cn_2 ((nI_eq (a := b) (b := 0) (by omega) (by omega)).mpr hz)
        have hnz : b ≠ 0 := cn_2
        have hml := Nat.mod_lt a (Nat.pos_of_ne_zero hnz)
        refine lv_iload_n hx hb dX7_lowest_20 rfl (lv_at hl 3 rfl) ?_
        refine lv_iload hx hb dX7_lowest_21 (lv_at hl 4 rfl) ?_
        refine lv_irem hx hb dX7_lowest_23 (nI_ne0 (by omega) (by omega)) ?_
        refine zr_ti (y := nI (a % b)) (pk_rem (by omega) (by omega) (by omega)) ?_
        refine lv_istore (lv' := [(6, .int (nI (a % b))), (0, .int (nI ab)), (1, .int (nI be)), (2, .int v), (3, .int (nI a)), (4, .int (nI b)), (5, .int (nI i))]) hx hb dX7_lowest_24 hl (by decide) rfl (fun ls hl => ?_)
        refine lv_iload hx hb dX7_lowest_26 (lv_at hl 5 rfl) ?_
        refine lv_istore_n (lv' := [(3, .int (nI b)), (6, .int (nI (a % b))), (0, .int (nI ab)), (1, .int (nI be)), (2, .int v), (4, .int (nI b)), (5, .int (nI i))]) hx hb dX7_lowest_28 rfl hl (by decide) rfl (fun ls hl => ?_)
        refine lv_iload hx hb dX7_lowest_29 (lv_at hl 1 rfl) ?_
        refine lv_istore (lv' := [(4, .int (nI (a % b))), (3, .int (nI b)), (6, .int (nI (a % b))), (0, .int (nI ab)), (1, .int (nI be)), (2, .int v), (5, .int (nI i))]) hx hb dX7_lowest_31 hl (by decide) rfl (fun ls hl => ?_)
        refine lv_iinc (v := nI (i + 1)) (lv' := [(5, .int (nI (i + 1))), (4, .int (nI (a % b))), (3, .int (nI b)), (6, .int (nI (a % b))), (0, .int (nI ab)), (1, .int (nI be)), (2, .int v)]) hx hb dX7_lowest_33 hl (k := 6) rfl (nI_add _ _) (by decide) rfl (fun ls hl => ?_)
        refine lv_goto (tgt := 8) hx hb dX7_lowest_36 (by decide) ?_
        have hl : lv_has ls 7 [(0, .int (nI ab)), (1, .int (nI be)), (2, .int v), (3, .int (nI b)), (4, .int (nI (a % b))), (5, .int (nI (i + 1)))] := lv_sub hl [4, 5, 6, 2, 1, 0] rfl
        exact ih8 b (a % b) (i + 1) H locs ls (by omega) ((zm_gcd_s hnz).trans hI) (by omega) (by omega) (by omega) hP hS hl

set_option maxHeartbeats 4000000 in
set_option maxRecDepth 100000 in
theorem c_X8_lowest (l : Launch) (D : va_G) (E : Nat → ClassId) (ab : Nat) (be : Nat) (v : Int32) (hab : ab < 1000) (hbe : be ≤ 60) (hb1 : 0 < be) (hv2 : v = nI 0 ∨ v = nI 1) : Met l yX8_lowest wsX8_lowest ({ frames := 0, cells := 0, slots := 0, locals := 0 }) (zr_P D E [.int (nI ab), .int (nI be), .int v] []) (zr_Ql (fun zv => zv = lN (zm_low v ab be))) 0 0 (fun _ => False) := by
  refine Met.ofW (cc := cX8_lowest) (maxL := 6) (ret := (some .long)) (by decide) rfl ?_
  intro p e s m args below meth c s₁ Bz hml hv
  obtain ⟨rfl, hP, hK⟩ := hv
  have hx := Bz.exec
  have hb := Bz.bytes
  have hr := Bz.returns
  have hts := atoms_spec (ws := wsX8_lowest) Bz.pre
  have hown : s.vm.findClass RX8 = some m.cls := findClass_of_methodNamed Bz.named
  have hlocks := Bz.notSynchronized
  have hP : va_P D vwCl [] s.heap := hP
  have hS : va_S (fun _ : Nat => False) s.heap s.heap [] := va_S.rf
  have hl := lv_entry ([.int (nI ab), .int (nI be), .int v]) (n := 6) (Nat.le_of_ble_eq_true rfl)
  rw [lg_entry_eq]
  generalize (lg_sl ([.int (nI ab), .int (nI be), .int v]) ++ List.replicate (6 - (lg_sl ([.int (nI ab), .int (nI be), .int v])).length) Slot.unset).toArray = ls at hl ⊢
  have hl : lv_has ls 6 [(0, .int (nI ab)), (1, .int (nI be)), (2, .int v)] := hl
  refine zr_nQ (fun Q hQ => ?_)
  have hg1 : 0 < Nat.gcd ab be := Nat.gcd_pos_of_pos_right _ hb1
  have hg2 : Nat.gcd ab be ≤ be := Nat.gcd_le_right _ hb1
  refine lv_iload_n hx hb dX8_lowest_0 rfl (lv_at hl 0 rfl) ?_
  refine lv_istore_n (lv' := [(3, .int (nI ab)), (0, .int (nI ab)), (1, .int (nI be)), (2, .int v)]) hx hb dX8_lowest_1 rfl hl (by decide) rfl (fun ls hl => ?_)
  refine lv_iload_n hx hb dX8_lowest_2 rfl (lv_at hl 2 rfl) ?_
  refine lv_istore (lv' := [(4, .int (nI be)), (3, .int (nI ab)), (0, .int (nI ab)), (1, .int (nI be)), (2, .int v)]) hx hb dX8_lowest_3 hl (by decide) rfl (fun ls hl => ?_)
  suffices KL5 : ∀ (kz : Nat) (a : Nat) (b : Nat) (H : Heap) (locs : List Loc) (ls : Array Slot), b < kz → (Nat.gcd a b = Nat.gcd ab be) → (a < 1000) → (b ≤ 60) → va_P D vwCl [] H → va_S (fun _ : Nat => False) s.heap H locs → lv_has ls 6 [(0, .int (nI ab)), (1, .int (nI be)), (2, .int v), (3, .int (nI a)), (4, .int (nI b))] → W p l e (headSpec wsX8_lowest ({ frames := 0, cells := 0, slots := 0, locals := 0 })).room s m ([.int (nI ab), .int (nI be), .int v] : List Value).toArray below meth c H locs 0 0 Q (F0 m 5 ls []) from
    KL5 _ ab be _ _ ls (Nat.lt_succ_self _) (rfl) (by omega) (by omega) hP hS (lv_sub hl [2, 3, 4, 1, 0] rfl)
  clear hP hS hl
  intro kz
  induction kz with
  | zero => intro a b H locs ls hkz; exact absurd hkz (Nat.not_lt_zero _)
  | succ kz ih5 =>
    intro a b H locs ls hkz hI ha hb9 hP hS hl
    refine lv_iload hx hb dX8_lowest_5 (lv_at hl 4 rfl) ?_
    refine lv_if_eq (tgt := 26) hx hb dX8_lowest_7 (by decide) (fun cn_1 => ?_) (fun cn_1 => ?_)
    · skip
      have cn_1 : b = 0 := (nI_eq (a := b) (b := 0) (by omega) (by omega)).mp cn_1
      have hz := cn_1
      obtain rfl : b = 0 := cn_1
      obtain rfl : a = Nat.gcd ab be := by rw [← hI]; exact (Nat.gcd_zero_right a).symm
      refine lv_iload_n hx hb dX8_lowest_26 rfl (lv_at hl 2 rfl) ?_
      refine lv_if_ne (tgt := 37) hx hb dX8_lowest_27 (by decide) (fun cn_2 => ?_) (fun cn_2 => ?_)
      · skip
        have hp : ¬ v = nI 0 := cn_2
        refine lv_iload_n hx hb dX8_lowest_37 rfl (lv_at hl 1 rfl) ?_
        refine lv_iload_n hx hb dX8_lowest_38 rfl (lv_at hl 3 rfl) ?_
        refine lv_idiv hx hb dX8_lowest_39 (nI_ne0 (by omega) (by omega)) ?_
        refine zr_ti (y := nI (be / (Nat.gcd ab be))) (pk_div (by omega) (by omega) (by omega)) ?_
        refine lv_i2l (v := lN (be / Nat.gcd ab be)) hx hb dX8_lowest_40 (nI_l (by have := Nat.div_le_self be (Nat.gcd ab be); omega)) ?_
        subst hQ
        exact W.lret (v := lN (be / Nat.gcd ab be)) hx hb hr (fun tz htz hWz => ⟨⟨lN (be / Nat.gcd ab be), (), rfl, by show lN _ = lN (zm_low v ab be); unfold zm_low; first | rw [if_pos hp] | rw [if_neg hp], trivial⟩, hS.F htz⟩) hS.2.2 dX8_lowest_41
      · skip
        have hp : v = nI 0 := cn_2
        refine lv_iload_n hx hb dX8_lowest_30 rfl (lv_at hl 0 rfl) ?_
        refine lv_iload_n hx hb dX8_lowest_31 rfl (lv_at hl 3 rfl) ?_
        refine lv_idiv hx hb dX8_lowest_32 (nI_ne0 (by omega) (by omega)) ?_
        refine zr_ti (y := nI (ab / (Nat.gcd ab be))) (pk_div (by omega) (by omega) (by omega)) ?_
        refine lv_i2l (v := lN (ab / Nat.gcd ab be)) hx hb dX8_lowest_33 (nI_l (by have := Nat.div_le_self ab (Nat.gcd ab be); omega)) ?_
        refine lv_goto (tgt := 41) hx hb dX8_lowest_34 (by decide) ?_
        subst hQ
        exact W.lret (v := lN (ab / Nat.gcd ab be)) hx hb hr (fun tz htz hWz => ⟨⟨lN (ab / Nat.gcd ab be), (), rfl, by show lN _ = lN (zm_low v ab be); unfold zm_low; first | rw [if_pos hp] | rw [if_neg hp], trivial⟩, hS.F htz⟩) hS.2.2 dX8_lowest_41
    · skip
      have cn_1 : ¬ (b = 0) := fun hz => cn_1 ((nI_eq (a := b) (b := 0) (by omega) (by omega)).mpr hz)
      have hnz : b ≠ 0 := cn_1
      have hml := Nat.mod_lt a (Nat.pos_of_ne_zero hnz)
      refine lv_iload_n hx hb dX8_lowest_10 rfl (lv_at hl 3 rfl) ?_
      refine lv_iload hx hb dX8_lowest_11 (lv_at hl 4 rfl) ?_
      refine lv_irem hx hb dX8_lowest_13 (nI_ne0 (by omega) (by omega)) ?_
      refine zr_ti (y := nI (a % b)) (pk_rem (by omega) (by omega) (by omega)) ?_
      refine lv_istore (lv' := [(5, .int (nI (a % b))), (0, .int (nI ab)), (1, .int (nI be)), (2, .int v), (3, .int (nI a)), (4, .int (nI b))]) hx hb dX8_lowest_14 hl (by decide) rfl (fun ls hl => ?_)
      refine lv_iload hx hb dX8_lowest_16 (lv_at hl 5 rfl) ?_
      refine lv_istore_n (lv' := [(3, .int (nI b)), (5, .int (nI (a % b))), (0, .int (nI ab)), (1, .int (nI be)), (2, .int v), (4, .int (nI b))]) hx hb dX8_lowest_18 rfl hl (by decide) rfl (fun ls hl => ?_)
      refine lv_iload hx hb dX8_lowest_19 (lv_at hl 1 rfl) ?_
      refine lv_istore (lv' := [(4, .int (nI (a % b))), (3, .int (nI b)), (5, .int (nI (a % b))), (0, .int (nI ab)), (1, .int (nI be)), (2, .int v)]) hx hb dX8_lowest_21 hl (by decide) rfl (fun ls hl => ?_)
      refine lv_goto (tgt := 5) hx hb dX8_lowest_23 (by decide) ?_
      have hl : lv_has ls 6 [(0, .int (nI ab)), (1, .int (nI be)), (2, .int v), (3, .int (nI b)), (4, .int (nI (a % b)))] := lv_sub hl [3, 4, 5, 1, 0] rfl
      exact ih5 b (a % b) H locs ls (by omega) ((zm_gcd_s hnz).trans hI) (by omega) (by omega) hP hS hl

set_option maxHeartbeats 4000000 in
set_option maxRecDepth 100000 in
theorem c_X8_bars (l : Launch) (D : va_G) (E : Nat → ClassId) (m0 : Nat) (w0 : Nat) (w1 : Nat) (w2 : Nat) (w3 : Nat) (w4 : Nat) (w5 : Nat) (w6 : Nat) (w7 : Nat) (w8 : Nat) (w9 : Nat) (ik : Int32) (tx : Nat) (he : Int32) (fa : Int32) (cl : Nat) (wv : Nat → Int32) (B : Nat → Nat → Nat) (hvb : zv_b B wv) : Met l yX8_bars wsX8_bars ({ frames := 0, cells := 0, slots := 0, locals := 0 }) (zr_P D E [.ref m0] [(m0, .inr (6, [.ref w0, .ref w1, .ref w2, .int ik, .ref w3, .int (nI tx), .int he, .int fa, .ref w4, .ref w5, .int (nI cl), .ref w6, .ref w7, .ref w8, .ref w9])), (w0, .inl (E 0, 137, .inl wv))]) (zr_Qi (fun zv => zv = nI (zm_allb B))) 0 0 (fun _ => False) := by
  refine Met.ofW (cc := cX8_bars) (maxL := 3) (ret := (some .int)) (by decide) rfl ?_
  intro p e s m args below meth c s₁ Bz hml hv
  obtain ⟨rfl, hP, hK⟩ := hv
  have hx := Bz.exec
  have hb := Bz.bytes
  have hr := Bz.returns
  have hts := atoms_spec (ws := wsX8_bars) Bz.pre
  have hown : s.vm.findClass RX8 = some m.cls := findClass_of_methodNamed Bz.named
  have hlocks := Bz.notSynchronized
  have hP : va_P D vwCl [(m0, .inr (6, [.ref w0, .ref w1, .ref w2, .int ik, .ref w3, .int (nI tx), .int he, .int fa, .ref w4, .ref w5, .int (nI cl), .ref w6, .ref w7, .ref w8, .ref w9])), (w0, .inl (E 0, 137, .inl wv))] s.heap := hP
  have hS : va_S (fun _ : Nat => False) s.heap s.heap [] := va_S.rf
  have hl := lv_entry ([.ref m0]) (n := 3) (Nat.le_of_ble_eq_true rfl)
  rw [lg_entry_eq]
  generalize (lg_sl ([.ref m0]) ++ List.replicate (3 - (lg_sl ([.ref m0])).length) Slot.unset).toArray = ls at hl ⊢
  have hl : lv_has ls 3 [(0, .ref m0)] := hl
  refine zr_nQ (fun Q hQ => ?_)
  refine lv_iconst (v := nI 0) hx hb dX8_bars_0 (by rfl) ?_
  refine lv_istore_n (lv' := [(1, .int (nI 0)), (0, .ref m0)]) hx hb dX8_bars_1 rfl hl (by decide) rfl (fun ls hl => ?_)
  refine lv_iconst (v := nI 0) hx hb dX8_bars_2 (by rfl) ?_
  refine lv_istore_n (lv' := [(2, .int (nI 0)), (1, .int (nI 0)), (0, .ref m0)]) hx hb dX8_bars_3 rfl hl (by decide) rfl (fun ls hl => ?_)
  suffices KL4 : ∀ (kz : Nat) (i : Nat) (q : Nat) (H : Heap) (locs : List Loc) (ls : Array Slot), (36 - i) < kz → (q = zm_sum (fun k => B (k / 6) (k % 6)) i) → (i ≤ 36) → (q ≤ i) → va_P D vwCl [(m0, .inr (6, [.ref w0, .ref w1, .ref w2, .int ik, .ref w3, .int (nI tx), .int he, .int fa, .ref w4, .ref w5, .int (nI cl), .ref w6, .ref w7, .ref w8, .ref w9])), (w0, .inl (E 0, 137, .inl wv))] H → va_S (fun _ : Nat => False) s.heap H locs → lv_has ls 3 [(0, .ref m0), (1, .int (nI q)), (2, .int (nI i))] → W p l e (headSpec wsX8_bars ({ frames := 0, cells := 0, slots := 0, locals := 0 })).room s m ([.ref m0] : List Value).toArray below meth c H locs 0 0 Q (F0 m 4 ls []) from
    KL4 _ 0 0 _ _ ls (Nat.lt_succ_self _) (rfl) (by omega) (by omega) hP hS (lv_sub hl [2, 1, 0] rfl)
  clear hP hS hl
  intro kz
  induction kz with
  | zero => intro i q H locs ls hkz; exact absurd hkz (Nat.not_lt_zero _)
  | succ kz ih4 =>
    intro i q H locs ls hkz hq hi hqi hP hS hl
    refine lv_iload_n hx hb dX8_bars_4 rfl (lv_at hl 2 rfl) ?_
    refine lv_bipush (v := nI 36) hx hb dX8_bars_5 (by rfl) ?_
    refine lv_icmp_ge (tgt := 28) hx hb dX8_bars_7 (by decide) (fun cn_1 => ?_) (fun cn_1 => ?_)
    · skip
      have cn_1 : 36 ≤ i := (nI_leI (a := 36) (b := i) (by omega) (by omega)).mp cn_1
      have hie : i = 36 := by omega
      refine lv_iload_n hx hb dX8_bars_28 rfl (lv_at hl 1 rfl) ?_
      subst hQ
      exact W.iret (v := nI q) hx hb hr (fun tz htz hWz => ⟨⟨nI q, (), rfl, by rw [hq, hie, zm_allb_eq hvb.2], trivial⟩, hS.F htz⟩) hS.2.2 dX8_bars_29
    · skip
      have cn_1 : ¬ (36 ≤ i) := fun hz => cn_1 ((nI_leI (a := 36) (b := i) (by omega) (by omega)).mpr hz)
      obtain ⟨hb1, hb2⟩ := hvb.1 (i / 6) (i % 6) (by omega) (by omega)
      refine lv_iload_n hx hb dX8_bars_10 rfl (lv_at hl 1 rfl) ?_
      refine lv_aload_n hx hb dX8_bars_11 rfl (lv_at hl 0 rfl) ?_
      refine va_get (D := D) (ci := 6) (v := .ref w0) (C := RX8) (T := TX8) (N := 15) hx hb hts (by decide +kernel) hown hK.1 hP 0 rfl rfl 0 (by decide) (hts (.fieldLink RX8 11 "HomeRoundsModel" "w" "[I") (by decide +kernel)) (fun _ h9 => h9) rfl dX8_bars_12 ?_
      refine lv_bipush (v := nI 21) hx hb dX8_bars_15 (by rfl) ?_
      refine lv_iload_n hx hb dX8_bars_17 rfl (lv_at hl 2 rfl) ?_
      refine lv_iadd hx hb dX8_bars_18 ?_
      refine zr_ti (y := nI (21 + i)) (nI_add _ _) ?_
      refine va_iald hx hb hK.1 hP 1 0 rfl rfl (vp_in_nI (by omega) (by omega)) dX8_bars_19 ?_
      refine zr_ti (y := nI (B (i / 6) (i % 6))) ((congrArg wv (nI_clamp (by omega))).trans (by rw [← hb2]; congr 1; omega)) ?_
      refine lv_iadd hx hb dX8_bars_20 ?_
      refine zr_ti (y := nI (q + (B (i / 6) (i % 6)))) (nI_add _ _) ?_
      refine lv_istore_n (lv' := [(1, .int (nI (q + (B (i / 6) (i % 6))))), (0, .ref m0), (2, .int (nI i))]) hx hb dX8_bars_21 rfl hl (by decide) rfl (fun ls hl => ?_)
      refine lv_iinc (v := nI (i + 1)) (lv' := [(2, .int (nI (i + 1))), (1, .int (nI (q + (B (i / 6) (i % 6))))), (0, .ref m0)]) hx hb dX8_bars_22 hl (k := 2) rfl (nI_add _ _) (by decide) rfl (fun ls hl => ?_)
      refine lv_goto (tgt := 4) hx hb dX8_bars_25 (by decide) ?_
      have hl : lv_has ls 3 [(0, .ref m0), (1, .int (nI (q + (B (i / 6) (i % 6))))), (2, .int (nI (i + 1)))] := lv_sub hl [2, 1, 0] rfl
      exact ih4 (i + 1) (q + (B (i / 6) (i % 6))) H locs ls (by omega) (by rw [zm_sum, hq]) (by omega) (by omega) hP hS hl

set_option maxHeartbeats 4000000 in
set_option maxRecDepth 100000 in
theorem c_X8_copies (l : Launch) (D : va_G) (E : Nat → ClassId) (f0 : Nat) (f1 : Nat) (fa9 : Nat → Int32) (fb9 : Nat → Int32)  : Met l yX8_copies wsX8_copies ({ frames := 0, cells := 0, slots := 0, locals := 0 }) (zw_P D E [.ref f0, .ref f1] [(f0, .inl (E 0, 137, .inl fa9)), (f1, .inl (E 0, 137, .inl fb9))]) (zw_Qv D [(f0, .inl (E 0, 137, .inl fa9)), (f1, .inl (E 0, 137, .inl fb9))] (fun (u : (Nat → Int32)) => ∀ j, j < 137 → u j = fa9 j) (fun (u : (Nat → Int32)) => [(f0, .inl (E 0, 137, .inl fa9)), (f1, .inl (E 0, 137, .inl u))])) 0 0 (zw_A [(f0, .inl (E 0, 137, .inl fa9)), (f1, .inl (E 0, 137, .inl fb9))]) := by
  refine Met.ofW (cc := cX8_copies) (maxL := 3) (ret := none) (by decide) rfl ?_
  intro p e s m args below meth c s₁ Bz hml hv
  obtain ⟨rfl, hP, hK, hD0⟩ := hv
  have hx := Bz.exec
  have hb := Bz.bytes
  have hr := Bz.returns
  have hts := atoms_spec (ws := wsX8_copies) Bz.pre
  have hown : s.vm.findClass RX8 = some m.cls := findClass_of_methodNamed Bz.named
  have hlocks := Bz.notSynchronized
  have hP : va_P D vwCl [(f0, .inl (E 0, 137, .inl fa9)), (f1, .inl (E 0, 137, .inl fb9))] s.heap := hP
  obtain ⟨A, hAe⟩ : ∃ A : Nat → Prop, A = zw_A [(f0, .inl (E 0, 137, .inl fa9)), (f1, .inl (E 0, 137, .inl fb9))] := ⟨_, rfl⟩
  have hD : va_D A [(f0, .inl (E 0, 137, .inl fa9)), (f1, .inl (E 0, 137, .inl fb9))] := hAe ▸ zw_own hD0
  have hS : va_S A s.heap s.heap [] := va_S.rf
  have hl := lv_entry ([.ref f0, .ref f1]) (n := 3) (Nat.le_of_ble_eq_true rfl)
  rw [lg_entry_eq]
  generalize (lg_sl ([.ref f0, .ref f1]) ++ List.replicate (3 - (lg_sl ([.ref f0, .ref f1])).length) Slot.unset).toArray = ls at hl ⊢
  have hl : lv_has ls 3 [(0, .ref f0), (1, .ref f1)] := hl
  refine zr_nQ (fun Q hQ => ?_)
  refine lv_iconst (v := nI 0) hx hb dX8_copies_0 (by rfl) ?_
  refine lv_istore_n (lv' := [(2, .int (nI 0)), (0, .ref f0), (1, .ref f1)]) hx hb dX8_copies_1 rfl hl (by decide) rfl (fun ls hl => ?_)
  suffices KL2 : ∀ (kz : Nat) (i : Nat) (fbv : Nat → Int32) (H : Heap) (locs : List Loc) (ls : Array Slot), (137 - i) < kz → (∀ j, j < i → fbv j = fa9 j) → (i ≤ 137) → va_P D vwCl [(f0, .inl (E 0, 137, .inl fa9)), (f1, .inl (E 0, 137, .inl fbv))] H → va_D A [(f0, .inl (E 0, 137, .inl fa9)), (f1, .inl (E 0, 137, .inl fbv))] → va_S A s.heap H locs → lv_has ls 3 [(0, .ref f0), (1, .ref f1), (2, .int (nI i))] → W p l e (headSpec wsX8_copies ({ frames := 0, cells := 0, slots := 0, locals := 0 })).room s m ([.ref f0, .ref f1] : List Value).toArray below meth c H locs 0 0 Q (F0 m 2 ls []) from
    KL2 _ 0 fb9 _ _ ls (Nat.lt_succ_self _) (fun j hj => absurd hj (Nat.not_lt_zero _)) (by omega) hP hD hS (lv_sub hl [1, 2, 0] rfl)
  clear hP hS hl hD
  intro kz
  induction kz with
  | zero => intro i fbv H locs ls hkz; exact absurd hkz (Nat.not_lt_zero _)
  | succ kz ih2 =>
    intro i fbv H locs ls hkz hI hi hP hD hS hl
    refine lv_iload_n hx hb dX8_copies_2 rfl (lv_at hl 2 rfl) ?_
    refine lv_sipush (v := nI 137) hx hb dX8_copies_3 (by rfl) ?_
    refine lv_icmp_ge (tgt := 21) hx hb dX8_copies_6 (by decide) (fun cn_1 => ?_) (fun cn_1 => ?_)
    · skip
      have cn_1 : 137 ≤ i := (nI_leI (a := 137) (b := i) (by omega) (by omega)).mp cn_1
      have hie : i = 137 := by omega
      subst hQ; subst hAe
      exact W.vret hx hb hr (fun tz htz hWz => ⟨⟨fbv, rfl, fun j hj => hI j (by omega), by rw [htz]; exact hP, hD⟩, hS.F htz⟩) hS.2.2 dX8_copies_21
    · skip
      have cn_1 : ¬ (137 ≤ i) := fun hz => cn_1 ((nI_leI (a := 137) (b := i) (by omega) (by omega)).mpr hz)
      refine lv_aload_n hx hb dX8_copies_9 rfl (lv_at hl 1 rfl) ?_
      refine lv_iload_n hx hb dX8_copies_10 rfl (lv_at hl 2 rfl) ?_
      refine lv_aload_n hx hb dX8_copies_11 rfl (lv_at hl 0 rfl) ?_
      refine lv_iload_n hx hb dX8_copies_12 rfl (lv_at hl 2 rfl) ?_
      refine va_iald hx hb hK.1 hP 0 0 rfl rfl (vp_in_nI (by omega) (by omega)) dX8_copies_13 ?_
      refine zr_ti (y := fa9 i) ((congrArg fa9 (nI_clamp (by omega))).trans (rfl)) ?_
      refine va_iast hx hb hK.1 hP hD hS 1 0 rfl rfl (vp_in_nI (by omega) (by omega)) dX8_copies_14 (fun H locs hP hD hS => ?_)
      have hP : va_P D vwCl [(f0, .inl (E 0, 137, .inl fa9)), (f1, .inl (E 0, 137, .inl (upd fbv (nI i).toNatClampNeg (fa9 i))))] H := hP
      have hD : va_D A [(f0, .inl (E 0, 137, .inl fa9)), (f1, .inl (E 0, 137, .inl (upd fbv (nI i).toNatClampNeg (fa9 i))))] := hD
      have hcz : (upd fbv (nI i).toNatClampNeg (fa9 i)) = (upd fbv i (fa9 i)) := by rw [nI_clamp (n := i) (by omega)]
      rw [hcz] at hP hD
      refine lv_iinc (v := nI (i + 1)) (lv' := [(2, .int (nI (i + 1))), (0, .ref f0), (1, .ref f1)]) hx hb dX8_copies_15 hl (k := 2) rfl (nI_add _ _) (by decide) rfl (fun ls hl => ?_)
      refine lv_goto (tgt := 2) hx hb dX8_copies_18 (by decide) ?_
      have hl : lv_has ls 3 [(0, .ref f0), (1, .ref f1), (2, .int (nI (i + 1)))] := lv_sub hl [1, 2, 0] rfl
      exact ih2 (i + 1) (upd fbv i (fa9 i)) H locs ls (by omega) (fun j hj => by unfold upd; split; (rename_i e; rw [e]); exact hI j (by omega)) (by omega) hP hD hS hl

set_option maxHeartbeats 4000000 in
set_option maxRecDepth 100000 in
theorem c_X8_isSeen (l : Launch) (D : va_G) (E : Nat → ClassId) (m0 : Nat) (w0 : Nat) (w1 : Nat) (w2 : Nat) (w3 : Nat) (w4 : Nat) (w5 : Nat) (w6 : Nat) (w7 : Nat) (w8 : Nat) (w9 : Nat) (ik : Int32) (tx : Nat) (he : Int32) (fa : Int32) (cl : Nat) (wv : Nat → Int32) (N : Nat) (G : Nat → Nat → Nat) (P : Nat → Nat → Nat) (sn : Nat) (sT : Nat → Nat) (sR : Nat → Nat) (sH : Nat → Nat) (kd : Nat) (hvg : zv_g N G P wv) (hse : zs_se N sn sT sR sH) (hzc : zv_sc sn sT sR sH wv) (hkd : kd < 3) : Met l yX8_isSeen wsX8_isSeen ({ frames := 3, cells := 0, slots := 0, locals := 68 }) (zr_P D E [.ref m0, .int (nI kd)] [(m0, .inr (6, [.ref w0, .ref w1, .ref w2, .int ik, .ref w3, .int (nI tx), .int he, .int fa, .ref w4, .ref w5, .int (nI cl), .ref w6, .ref w7, .ref w8, .ref w9])), (w0, .inl (E 0, 137, .inl wv))]) (zr_Qi (fun zv => (zv = 1 ∧ (zm_seen N P kd sT sR sH sn = true)) ∨ (zv = 0 ∧ (zm_seen N P kd sT sR sH sn = false)))) 0 0 (fun _ => False) := by
  refine Met.ofW (cc := cX8_isSeen) (maxL := 5) (ret := (some .boolean)) (by decide) rfl ?_
  intro p e s m args below meth c s₁ Bz hml hv
  obtain ⟨rfl, hP, hK⟩ := hv
  have hx := Bz.exec
  have hb := Bz.bytes
  have hr := Bz.returns
  have hts := atoms_spec (ws := wsX8_isSeen) Bz.pre
  have hown : s.vm.findClass RX8 = some m.cls := findClass_of_methodNamed Bz.named
  have hlocks := Bz.notSynchronized
  have hP : va_P D vwCl [(m0, .inr (6, [.ref w0, .ref w1, .ref w2, .int ik, .ref w3, .int (nI tx), .int he, .int fa, .ref w4, .ref w5, .int (nI cl), .ref w6, .ref w7, .ref w8, .ref w9])), (w0, .inl (E 0, 137, .inl wv))] s.heap := hP
  have hS : va_S (fun _ : Nat => False) s.heap s.heap [] := va_S.rf
  have hl := lv_entry ([.ref m0, .int (nI kd)]) (n := 5) (Nat.le_of_ble_eq_true rfl)
  rw [lg_entry_eq]
  generalize (lg_sl ([.ref m0, .int (nI kd)]) ++ List.replicate (5 - (lg_sl ([.ref m0, .int (nI kd)])).length) Slot.unset).toArray = ls at hl ⊢
  have hl : lv_has ls 5 [(0, .ref m0), (1, .int (nI kd))] := hl
  refine zr_nQ (fun Q hQ => ?_)
  have hok := hvg.1
  have hN := hok.1
  have hvn := hvg.2.1
  have hs0 := hse.1
  refine lv_iconst (v := nI 1) hx hb dX8_isSeen_0 (by rfl) ?_
  refine lv_istore_n (lv' := [(2, .int (nI 1)), (0, .ref m0), (1, .int (nI kd))]) hx hb dX8_isSeen_1 rfl hl (by decide) rfl (fun ls hl => ?_)
  refine lv_iconst (v := nI 0) hx hb dX8_isSeen_2 (by rfl) ?_
  refine lv_istore_n (lv' := [(3, .int (nI 0)), (2, .int (nI 1)), (0, .ref m0), (1, .int (nI kd))]) hx hb dX8_isSeen_3 rfl hl (by decide) rfl (fun ls hl => ?_)
  suffices KL4 : ∀ (kz : Nat) (i : Nat) (bn : Nat) (H : Heap) (locs : List Loc) (ls : Array Slot), (sn - i) < kz → (bn = (zm_seen N P kd sT sR sH i).toNat) → (i ≤ sn) → (bn ≤ 1) → va_P D vwCl [(m0, .inr (6, [.ref w0, .ref w1, .ref w2, .int ik, .ref w3, .int (nI tx), .int he, .int fa, .ref w4, .ref w5, .int (nI cl), .ref w6, .ref w7, .ref w8, .ref w9])), (w0, .inl (E 0, 137, .inl wv))] H → va_S (fun _ : Nat => False) s.heap H locs → lv_has ls 5 [(0, .ref m0), (1, .int (nI kd)), (2, .int (nI bn)), (3, .int (nI i))] → W p l e (headSpec wsX8_isSeen ({ frames := 3, cells := 0, slots := 0, locals := 68 })).room s m ([.ref m0, .int (nI kd)] : List Value).toArray below meth c H locs 0 0 Q (F0 m 4 ls []) from
    KL4 _ 0 1 _ _ ls (Nat.lt_succ_self _) (rfl) (by omega) (by omega) hP hS (lv_sub hl [2, 3, 1, 0] rfl)
  clear hP hS hl
  intro kz
  induction kz with
  | zero => intro i bn H locs ls hkz; exact absurd hkz (Nat.not_lt_zero _)
  | succ kz ih4 =>
    intro i bn H locs ls hkz hI hi hbn hP hS hl
    refine lv_iload_n hx hb dX8_isSeen_4 rfl (lv_at hl 3 rfl) ?_
    refine lv_aload_n hx hb dX8_isSeen_5 rfl (lv_at hl 0 rfl) ?_
    refine va_get (D := D) (ci := 6) (v := .ref w0) (C := RX8) (T := TX8) (N := 15) hx hb hts (by decide +kernel) hown hK.1 hP 0 rfl rfl 0 (by decide) (hts (.fieldLink RX8 11 "HomeRoundsModel" "w" "[I") (by decide +kernel)) (fun _ h9 => h9) rfl dX8_isSeen_6 ?_
    refine lv_iconst (v := nI 2) hx hb dX8_isSeen_9 (by rfl) ?_
    refine va_iald hx hb hK.1 hP 1 0 rfl rfl (vp_in_nI (by omega) (by omega)) dX8_isSeen_10 ?_
    refine zr_ti (y := nI sn) ((congrArg wv (nI_clamp (by omega))).trans (hzc.1)) ?_
    refine lv_icmp_ge (tgt := 99) hx hb dX8_isSeen_11 (by decide) (fun cn_1 => ?_) (fun cn_1 => ?_)
    · skip
      have cn_1 : sn ≤ i := (nI_leI (a := sn) (b := i) (by omega) (by omega)).mp cn_1
      have hie : i = sn := by omega
      refine lv_iload_n hx hb dX8_isSeen_99 rfl (lv_at hl 2 rfl) ?_
      subst hQ
      exact W.zret (v := nI bn) hx hb hr (by cases hq : zm_seen N P kd sT sR sH sn <;> rw [hie, hq] at hI <;> rw [hI] <;> rfl) (fun tz htz hWz => ⟨⟨nI bn, (), rfl, by rw [hI, hie]; cases zm_seen N P kd sT sR sH sn; exact Or.inr ⟨rfl, rfl⟩; exact Or.inl ⟨rfl, rfl⟩, trivial⟩, hS.F htz⟩) hS.2.2 dX8_isSeen_100
    · skip
      have cn_1 : ¬ (sn ≤ i) := fun hz => cn_1 ((nI_leI (a := sn) (b := i) (by omega) (by omega)).mpr hz)
      have hin : i < sn := by omega
      obtain ⟨hs1, hs2, hs3⟩ := hse.2 i hin
      obtain ⟨hc1, hc2, hc3⟩ := hzc.2 i hin
      refine lv_aload_n hx hb dX8_isSeen_14 rfl (lv_at hl 0 rfl) ?_
      refine va_get (D := D) (ci := 6) (v := .ref w0) (C := RX8) (T := TX8) (N := 15) hx hb hts (by decide +kernel) hown hK.1 hP 0 rfl rfl 0 (by decide) (hts (.fieldLink RX8 11 "HomeRoundsModel" "w" "[I") (by decide +kernel)) (fun _ h9 => h9) rfl dX8_isSeen_15 ?_
      refine lv_bipush (v := nI 87) hx hb dX8_isSeen_18 (by rfl) ?_
      refine lv_iconst (v := nI 3) hx hb dX8_isSeen_20 (by rfl) ?_
      refine lv_iload_n hx hb dX8_isSeen_21 rfl (lv_at hl 3 rfl) ?_
      refine lv_imul hx hb dX8_isSeen_22 ?_
      refine zr_ti (y := nI (3 * i)) (pk_mul _ _) ?_
      refine lv_iadd hx hb dX8_isSeen_23 ?_
      refine zr_ti (y := nI (87 + (3 * i))) (nI_add _ _) ?_
      refine lv_iconst (v := nI 1) hx hb dX8_isSeen_24 (by rfl) ?_
      refine lv_iadd hx hb dX8_isSeen_25 ?_
      refine zr_ti (y := nI ((87 + (3 * i)) + 1)) (nI_add _ _) ?_
      refine va_iald hx hb hK.1 hP 1 0 rfl rfl (vp_in_nI (by omega) (by omega)) dX8_isSeen_26 ?_
      refine zr_ti (y := nI (sR i)) ((congrArg wv (nI_clamp (by omega))).trans (hc2)) ?_
      refine lv_istore (lv' := [(4, .int (nI (sR i))), (0, .ref m0), (1, .int (nI kd)), (2, .int (nI bn)), (3, .int (nI i))]) hx hb dX8_isSeen_27 hl (by decide) rfl (fun ls hl => ?_)
      refine lv_iload_n hx hb dX8_isSeen_29 rfl (lv_at hl 3 rfl) ?_
      refine lv_if_eq (tgt := 91) hx hb dX8_isSeen_30 (by decide) (fun cn_2 => ?_) (fun cn_2 => ?_)
      · skip
        have cn_2 : bn = 0 := (nI_eq (a := bn) (b := 0) (by omega) (by omega)).mp cn_2
        have hsf : zm_seen N P kd sT sR sH i = false := by
          cases hq : zm_seen N P kd sT sR sH i with
          | false => rfl
          | true => rw [hq] at hI; exact absurd (show bn = 1 from hI) (by omega)
        refine lv_iconst (v := nI 0) hx hb dX8_isSeen_91 (by rfl) ?_
        refine lv_istore_n (lv' := [(2, .int (nI 0)), (4, .int (nI (sR i))), (0, .ref m0), (1, .int (nI kd)), (3, .int (nI i))]) hx hb dX8_isSeen_92 rfl hl (by decide) rfl (fun ls hl => ?_)
        refine lv_iinc (v := nI (i + 1)) (lv' := [(3, .int (nI (i + 1))), (2, .int (nI 0)), (4, .int (nI (sR i))), (0, .ref m0), (1, .int (nI kd))]) hx hb dX8_isSeen_93 hl (k := 4) rfl (nI_add _ _) (by decide) rfl (fun ls hl => ?_)
        refine lv_goto (tgt := 4) hx hb dX8_isSeen_96 (by decide) ?_
        have hl : lv_has ls 5 [(0, .ref m0), (1, .int (nI kd)), (2, .int (nI 0)), (3, .int (nI (i + 1)))] := lv_sub hl [3, 4, 1, 0] rfl
        exact ih4 (i + 1) 0 H locs ls (by omega) (by rw [zm_seen]; first | (rw [hsf, Bool.false_and]; rfl) | (rw [hst, hkx, Bool.and_false]; rfl) | (rw [hst, hkk, decide_eq_true (by omega)]; rfl) | (rw [hst, hkk, decide_eq_false (by omega)]; rfl)) (by omega) (by omega) hP hS hl
      · skip
        have cn_2 : ¬ (bn = 0) := fun hz => cn_2 ((nI_eq (a := bn) (b := 0) (by omega) (by omega)).mpr hz)
        have hst : zm_seen N P kd sT sR sH i = true := by
          cases hq : zm_seen N P kd sT sR sH i with
          | true => rfl
          | false => rw [hq] at hI; exact absurd (show bn = 0 from hI) cn_2
        refine lv_iload hx hb dX8_isSeen_33 (lv_at hl 0 rfl) ?_
        refine lv_iconst (v := nI 2) hx hb dX8_isSeen_35 (by rfl) ?_
        refine lv_aload_n hx hb dX8_isSeen_36 rfl (lv_at hl 1 rfl) ?_
        refine zr_ci hP hS (va_runV (As := []) (rest := [.int (nI 2), .int (nI (sR i))]) ⟨hx, hb, hml, hown, hts⟩ (c_X8_rounds l D E m0 w0 w1 w2 w3 w4 w5 w6 w7 w8 w9 ik tx he fa cl wv N (hvn) (hN)) (cwV 0 hts gX8_isSeen_X8_rounds rfl rfl rfl (by decide +kernel) ⟨Nat.le_of_ble_eq_true rfl, Nat.le_of_ble_eq_true rfl⟩) (zr_V hK (hP.sub (ws' := [(m0, .inr (6, [.ref w0, .ref w1, .ref w2, .int ik, .ref w3, .int (nI tx), .int he, .int fa, .ref w4, .ref w5, .int (nI cl), .ref w6, .ref w7, .ref w8, .ref w9])), (w0, .inl (E 0, 137, .inl wv))]) [0, 1] rfl) (ci := 6) (q0 := 0) rfl rfl) rfl rfl hl.1 rfl (lv_room (Nat.le_of_ble_eq_true rfl)) dX8_isSeen_37 ⟨Nat.zero_le _, Nat.zero_le _⟩) (fun r_3 H locs hw_4 hP hS => ?_)
        subst hw_4
        refine lv_imul hx hb dX8_isSeen_40 ?_
        refine zr_ti (y := nI (2 * (N - 1))) (pk_mul _ _) ?_
        refine lv_icmp_ge (tgt := 91) hx hb dX8_isSeen_41 (by decide) (fun cn_5 => ?_) (fun cn_5 => ?_)
        · skip
          have cn_5 : 2 * (N - 1) ≤ sR i := (nI_leI (a := 2 * (N - 1)) (b := sR i) (by omega) (by omega)).mp cn_5
          have hkx : zm_sk N P kd (sT i) (sR i) (sH i) = false := by unfold zm_sk; rw [decide_eq_false (by omega)]; rfl
          refine lv_iconst (v := nI 0) hx hb dX8_isSeen_91 (by rfl) ?_
          refine lv_istore_n (lv' := [(2, .int (nI 0)), (4, .int (nI (sR i))), (0, .ref m0), (1, .int (nI kd)), (3, .int (nI i))]) hx hb dX8_isSeen_92 rfl hl (by decide) rfl (fun ls hl => ?_)
          refine lv_iinc (v := nI (i + 1)) (lv' := [(3, .int (nI (i + 1))), (2, .int (nI 0)), (4, .int (nI (sR i))), (0, .ref m0), (1, .int (nI kd))]) hx hb dX8_isSeen_93 hl (k := 4) rfl (nI_add _ _) (by decide) rfl (fun ls hl => ?_)
          refine lv_goto (tgt := 4) hx hb dX8_isSeen_96 (by decide) ?_
          have hl : lv_has ls 5 [(0, .ref m0), (1, .int (nI kd)), (2, .int (nI 0)), (3, .int (nI (i + 1)))] := lv_sub hl [3, 4, 1, 0] rfl
          exact ih4 (i + 1) 0 H locs ls (by omega) (by rw [zm_seen]; first | (rw [hsf, Bool.false_and]; rfl) | (rw [hst, hkx, Bool.and_false]; rfl) | (rw [hst, hkk, decide_eq_true (by omega)]; rfl) | (rw [hst, hkk, decide_eq_false (by omega)]; rfl)) (by omega) (by omega) hP hS hl
        · skip
          have cn_5 : ¬ (2 * (N - 1) ≤ sR i) := fun hz => cn_5 ((nI_leI (a := 2 * (N - 1)) (b := sR i) (by omega) (by omega)).mpr hz)
          have hsr : sR i < 2 * (N - 1) := by omega
          have hkk : zm_sk N P kd (sT i) (sR i) (sH i) = decide (zm_ss N P kd (sT i) (sR i) = sH i) := by unfold zm_sk; rw [decide_eq_true hsr]; rfl
          refine lv_aload_n hx hb dX8_isSeen_44 rfl (lv_at hl 1 rfl) ?_
          refine lv_aload_n hx hb dX8_isSeen_45 rfl (lv_at hl 1 rfl) ?_
          refine va_get (D := D) (ci := 6) (v := .ref w0) (C := RX8) (T := TX8) (N := 15) hx hb hts (by decide +kernel) hown hK.1 hP 0 rfl rfl 0 (by decide) (hts (.fieldLink RX8 11 "HomeRoundsModel" "w" "[I") (by decide +kernel)) (fun _ h9 => h9) rfl dX8_isSeen_46 ?_
          refine lv_bipush (v := nI 87) hx hb dX8_isSeen_49 (by rfl) ?_
          refine lv_iconst (v := nI 3) hx hb dX8_isSeen_51 (by rfl) ?_
          refine lv_iload_n hx hb dX8_isSeen_52 rfl (lv_at hl 4 rfl) ?_
          refine lv_imul hx hb dX8_isSeen_53 ?_
          refine zr_ti (y := nI (3 * i)) (pk_mul _ _) ?_
          refine lv_iadd hx hb dX8_isSeen_54 ?_
          refine zr_ti (y := nI (87 + (3 * i))) (nI_add _ _) ?_
          refine va_iald hx hb hK.1 hP 1 0 rfl rfl (vp_in_nI (by omega) (by omega)) dX8_isSeen_55 ?_
          refine zr_ti (y := nI (sT i)) ((congrArg wv (nI_clamp (by omega))).trans (hc1)) ?_
          refine lv_iload hx hb dX8_isSeen_56 (lv_at hl 0 rfl) ?_
          refine lv_iload_n hx hb dX8_isSeen_58 rfl (lv_at hl 2 rfl) ?_
          refine zr_ci hP hS (va_runV (As := [.int (nI (sT i)), .int (nI (sR i)), .int (nI kd)]) (rest := []) ⟨hx, hb, hml, hown, hts⟩ (c_X8_isHomeIn l D E m0 w0 w1 w2 w3 w4 w5 w6 w7 w8 w9 ik tx he fa cl wv N G P (sT i) (sR i) kd (hvg) (by omega) (by omega) (by omega)) (cwV 3 hts gX8_isSeen_X8_isHomeIn rfl rfl rfl (by decide +kernel) ⟨Nat.le_of_ble_eq_true rfl, Nat.le_of_ble_eq_true rfl⟩) (zr_V hK (hP.sub (ws' := [(m0, .inr (6, [.ref w0, .ref w1, .ref w2, .int ik, .ref w3, .int (nI tx), .int he, .int fa, .ref w4, .ref w5, .int (nI cl), .ref w6, .ref w7, .ref w8, .ref w9])), (w0, .inl (E 0, 137, .inl wv))]) [0, 1] rfl) (ci := 6) (q0 := 0) rfl rfl) rfl rfl hl.1 rfl (lv_room (Nat.le_of_ble_eq_true rfl)) dX8_isSeen_59 ⟨Nat.zero_le _, Nat.zero_le _⟩) (fun r_6 H locs hw_7 hP hS => ?_)
          rcases hw_7 with ⟨rfl, hw_7⟩ | ⟨rfl, hw_7⟩
          · skip
            have hA := hw_7
            refine zr_ti (y := nI 1) rfl ?_
            refine lv_aload_n hx hb dX8_isSeen_62 rfl (lv_at hl 1 rfl) ?_
            refine va_get (D := D) (ci := 6) (v := .ref w0) (C := RX8) (T := TX8) (N := 15) hx hb hts (by decide +kernel) hown hK.1 hP 0 rfl rfl 0 (by decide) (hts (.fieldLink RX8 11 "HomeRoundsModel" "w" "[I") (by decide +kernel)) (fun _ h9 => h9) rfl dX8_isSeen_63 ?_
            refine lv_bipush (v := nI 87) hx hb dX8_isSeen_66 (by rfl) ?_
            refine lv_iconst (v := nI 3) hx hb dX8_isSeen_68 (by rfl) ?_
            refine lv_iload_n hx hb dX8_isSeen_69 rfl (lv_at hl 4 rfl) ?_
            refine lv_imul hx hb dX8_isSeen_70 ?_
            refine zr_ti (y := nI (3 * i)) (pk_mul _ _) ?_
            refine lv_iadd hx hb dX8_isSeen_71 ?_
            refine zr_ti (y := nI (87 + (3 * i))) (nI_add _ _) ?_
            refine lv_iconst (v := nI 2) hx hb dX8_isSeen_72 (by rfl) ?_
            refine lv_iadd hx hb dX8_isSeen_73 ?_
            refine zr_ti (y := nI ((87 + (3 * i)) + 2)) (nI_add _ _) ?_
            refine va_iald hx hb hK.1 hP 1 0 rfl rfl (vp_in_nI (by omega) (by omega)) dX8_isSeen_74 ?_
            refine zr_ti (y := nI (sH i)) ((congrArg wv (nI_clamp (by omega))).trans (hc3)) ?_
            refine lv_iconst (v := nI 1) hx hb dX8_isSeen_75 (by rfl) ?_
            refine lv_icmp_ne (tgt := 83) hx hb dX8_isSeen_76 (by decide) (fun cn_8 => ?_) (fun cn_8 => ?_)
            · skip
              have cn_8 : ¬ (sH i = 1) := fun hz => cn_8 ((nI_eq (a := sH i) (b := 1) (by omega) (by omega)).mpr hz)
              have hbr := cn_8
              refine lv_iconst (v := nI 0) hx hb dX8_isSeen_83 (by rfl) ?_
              refine lv_icmp_ne (tgt := 91) hx hb dX8_isSeen_84 (by decide) (fun cn_9 => ?_) (fun cn_9 => ?_)
              · skip
                refine lv_iconst (v := nI 0) hx hb dX8_isSeen_91 (by rfl) ?_
                refine lv_istore_n (lv' := [(2, .int (nI 0)), (4, .int (nI (sR i))), (0, .ref m0), (1, .int (nI kd)), (3, .int (nI i))]) hx hb dX8_isSeen_92 rfl hl (by decide) rfl (fun ls hl => ?_)
                refine lv_iinc (v := nI (i + 1)) (lv' := [(3, .int (nI (i + 1))), (2, .int (nI 0)), (4, .int (nI (sR i))), (0, .ref m0), (1, .int (nI kd))]) hx hb dX8_isSeen_93 hl (k := 4) rfl (nI_add _ _) (by decide) rfl (fun ls hl => ?_)
                refine lv_goto (tgt := 4) hx hb dX8_isSeen_96 (by decide) ?_
                have hl : lv_has ls 5 [(0, .ref m0), (1, .int (nI kd)), (2, .int (nI 0)), (3, .int (nI (i + 1)))] := lv_sub hl [3, 4, 1, 0] rfl
                exact ih4 (i + 1) 0 H locs ls (by omega) (by rw [zm_seen]; first | (rw [hsf, Bool.false_and]; rfl) | (rw [hst, hkx, Bool.and_false]; rfl) | (rw [hst, hkk, decide_eq_true (by omega)]; rfl) | (rw [hst, hkk, decide_eq_false (by omega)]; rfl)) (by omega) (by omega) hP hS hl
              · skip
                exact absurd cn_9 (by decide)
            · skip
              have cn_8 : sH i = 1 := (nI_eq (a := sH i) (b := 1) (by omega) (by omega)).mp cn_8
              have hbr := cn_8
              refine lv_iconst (v := nI 1) hx hb dX8_isSeen_79 (by rfl) ?_
              refine lv_goto (tgt := 84) hx hb dX8_isSeen_80 (by decide) ?_
              refine lv_icmp_ne (tgt := 91) hx hb dX8_isSeen_84 (by decide) (fun cn_10 => ?_) (fun cn_10 => ?_)
              · skip
                exact absurd cn_10 (by decide)
              · skip
                refine lv_iconst (v := nI 1) hx hb dX8_isSeen_87 (by rfl) ?_
                refine lv_goto (tgt := 92) hx hb dX8_isSeen_88 (by decide) ?_
                refine lv_istore_n (lv' := [(2, .int (nI 1)), (4, .int (nI (sR i))), (0, .ref m0), (1, .int (nI kd)), (3, .int (nI i))]) hx hb dX8_isSeen_92 rfl hl (by decide) rfl (fun ls hl => ?_)
                refine lv_iinc (v := nI (i + 1)) (lv' := [(3, .int (nI (i + 1))), (2, .int (nI 1)), (4, .int (nI (sR i))), (0, .ref m0), (1, .int (nI kd))]) hx hb dX8_isSeen_93 hl (k := 4) rfl (nI_add _ _) (by decide) rfl (fun ls hl => ?_)
                refine lv_goto (tgt := 4) hx hb dX8_isSeen_96 (by decide) ?_
                have hl : lv_has ls 5 [(0, .ref m0), (1, .int (nI kd)), (2, .int (nI 1)), (3, .int (nI (i + 1)))] := lv_sub hl [3, 4, 1, 0] rfl
                exact ih4 (i + 1) 1 H locs ls (by omega) (by rw [zm_seen]; first | (rw [hsf, Bool.false_and]; rfl) | (rw [hst, hkx, Bool.and_false]; rfl) | (rw [hst, hkk, decide_eq_true (by omega)]; rfl) | (rw [hst, hkk, decide_eq_false (by omega)]; rfl)) (by omega) (by omega) hP hS hl
          · skip
            have hA := hw_7
            refine zr_ti (y := nI 0) rfl ?_
            refine lv_aload_n hx hb dX8_isSeen_62 rfl (lv_at hl 1 rfl) ?_
            refine va_get (D := D) (ci := 6) (v := .ref w0) (C := RX8) (T := TX8) (N := 15) hx hb hts (by decide +kernel) hown hK.1 hP 0 rfl rfl 0 (by decide) (hts (.fieldLink RX8 11 "HomeRoundsModel" "w" "[I") (by decide +kernel)) (fun _ h9 => h9) rfl dX8_isSeen_63 ?_
            refine lv_bipush (v := nI 87) hx hb dX8_isSeen_66 (by rfl) ?_
            refine lv_iconst (v := nI 3) hx hb dX8_isSeen_68 (by rfl) ?_
            refine lv_iload_n hx hb dX8_isSeen_69 rfl (lv_at hl 4 rfl) ?_
            refine lv_imul hx hb dX8_isSeen_70 ?_
            refine zr_ti (y := nI (3 * i)) (pk_mul _ _) ?_
            refine lv_iadd hx hb dX8_isSeen_71 ?_
            refine zr_ti (y := nI (87 + (3 * i))) (nI_add _ _) ?_
            refine lv_iconst (v := nI 2) hx hb dX8_isSeen_72 (by rfl) ?_
            refine lv_iadd hx hb dX8_isSeen_73 ?_
            refine zr_ti (y := nI ((87 + (3 * i)) + 2)) (nI_add _ _) ?_
            refine va_iald hx hb hK.1 hP 1 0 rfl rfl (vp_in_nI (by omega) (by omega)) dX8_isSeen_74 ?_
            refine zr_ti (y := nI (sH i)) ((congrArg wv (nI_clamp (by omega))).trans (hc3)) ?_
            refine lv_iconst (v := nI 1) hx hb dX8_isSeen_75 (by rfl) ?_
            refine lv_icmp_ne (tgt := 83) hx hb dX8_isSeen_76 (by decide) (fun cn_11 => ?_) (fun cn_11 => ?_)
            · skip
              have cn_11 : ¬ (sH i = 1) := fun hz => cn_11 ((nI_eq (a := sH i) (b := 1) (by omega) (by omega)).mpr hz)
              have hbr := cn_11
              refine lv_iconst (v := nI 0) hx hb dX8_isSeen_83 (by rfl) ?_
              refine lv_icmp_ne (tgt := 91) hx hb dX8_isSeen_84 (by decide) (fun cn_12 => ?_) (fun cn_12 => ?_)
              · skip
                exact absurd cn_12 (by decide)
              · skip
                refine lv_iconst (v := nI 1) hx hb dX8_isSeen_87 (by rfl) ?_
                refine lv_goto (tgt := 92) hx hb dX8_isSeen_88 (by decide) ?_
                refine lv_istore_n (lv' := [(2, .int (nI 1)), (4, .int (nI (sR i))), (0, .ref m0), (1, .int (nI kd)), (3, .int (nI i))]) hx hb dX8_isSeen_92 rfl hl (by decide) rfl (fun ls hl => ?_)
                refine lv_iinc (v := nI (i + 1)) (lv' := [(3, .int (nI (i + 1))), (2, .int (nI 1)), (4, .int (nI (sR i))), (0, .ref m0), (1, .int (nI kd))]) hx hb dX8_isSeen_93 hl (k := 4) rfl (nI_add _ _) (by decide) rfl (fun ls hl => ?_)
                refine lv_goto (tgt := 4) hx hb dX8_isSeen_96 (by decide) ?_
                have hl : lv_has ls 5 [(0, .ref m0), (1, .int (nI kd)), (2, .int (nI 1)), (3, .int (nI (i + 1)))] := lv_sub hl [3, 4, 1, 0] rfl
                exact ih4 (i + 1) 1 H locs ls (by omega) (by rw [zm_seen]; first | (rw [hsf, Bool.false_and]; rfl) | (rw [hst, hkx, Bool.and_false]; rfl) | (rw [hst, hkk, decide_eq_true (by omega)]; rfl) | (rw [hst, hkk, decide_eq_false (by omega)]; rfl)) (by omega) (by omega) hP hS hl
            · skip
              have cn_11 : sH i = 1 := (nI_eq (a := sH i) (b := 1) (by omega) (by omega)).mp cn_11
              have hbr := cn_11
              refine lv_iconst (v := nI 1) hx hb dX8_isSeen_79 (by rfl) ?_
              refine lv_goto (tgt := 84) hx hb dX8_isSeen_80 (by decide) ?_
              refine lv_icmp_ne (tgt := 91) hx hb dX8_isSeen_84 (by decide) (fun cn_13 => ?_) (fun cn_13 => ?_)
              · skip
                refine lv_iconst (v := nI 0) hx hb dX8_isSeen_91 (by rfl) ?_
                refine lv_istore_n (lv' := [(2, .int (nI 0)), (4, .int (nI (sR i))), (0, .ref m0), (1, .int (nI kd)), (3, .int (nI i))]) hx hb dX8_isSeen_92 rfl hl (by decide) rfl (fun ls hl => ?_)
                refine lv_iinc (v := nI (i + 1)) (lv' := [(3, .int (nI (i + 1))), (2, .int (nI 0)), (4, .int (nI (sR i))), (0, .ref m0), (1, .int (nI kd))]) hx hb dX8_isSeen_93 hl (k := 4) rfl (nI_add _ _) (by decide) rfl (fun ls hl => ?_)
                refine lv_goto (tgt := 4) hx hb dX8_isSeen_96 (by decide) ?_
                have hl : lv_has ls 5 [(0, .ref m0), (1, .int (nI kd)), (2, .int (nI 0)), (3, .int (nI (i + 1)))] := lv_sub hl [3, 4, 1, 0] rfl
                exact ih4 (i + 1) 0 H locs ls (by omega) (by rw [zm_seen]; first | (rw [hsf, Bool.false_and]; rfl) | (rw [hst, hkx, Bool.and_false]; rfl) | (rw [hst, hkk, decide_eq_true (by omega)]; rfl) | (rw [hst, hkk, decide_eq_false (by omega)]; rfl)) (by omega) (by omega) hP hS hl
              · skip
                exact absurd cn_13 (by decide)

set_option maxHeartbeats 4000000 in
set_option maxRecDepth 100000 in
theorem c_X8_held (l : Launch) (D : va_G) (E : Nat → ClassId) (k : Nat) (v : Int64) (hk5 : k < 5) : Met l yX8_held wsX8_held ({ frames := 0, cells := 0, slots := 0, locals := 0 }) (zr_P D E [.int (nI k), .long v] []) (zr_Ql (fun zv => zv = zt_cut k v)) 0 0 (fun _ => False) := by
  refine Met.ofW (cc := cX8_held) (maxL := 3) (ret := (some .long)) (by decide) rfl ?_
  intro p e s m args below meth c s₁ Bz hml hv
  obtain ⟨rfl, hP, hK⟩ := hv
  have hx := Bz.exec
  have hb := Bz.bytes
  have hr := Bz.returns
  have hts := atoms_spec (ws := wsX8_held) Bz.pre
  have hown : s.vm.findClass RX8 = some m.cls := findClass_of_methodNamed Bz.named
  have hlocks := Bz.notSynchronized
  have hP : va_P D vwCl [] s.heap := hP
  have hS : va_S (fun _ : Nat => False) s.heap s.heap [] := va_S.rf
  have hl := lv_entry ([.int (nI k), .long v]) (n := 3) (Nat.le_of_ble_eq_true rfl)
  rw [lg_entry_eq]
  generalize (lg_sl ([.int (nI k), .long v]) ++ List.replicate (3 - (lg_sl ([.int (nI k), .long v])).length) Slot.unset).toArray = ls at hl ⊢
  have hl : lv_has ls 3 [(0, .int (nI k)), (1, .long v)] := hl
  refine zr_nQ (fun Q hQ => ?_)
  refine lv_iload_n hx hb dX8_held_0 rfl (lv_at hl 0 rfl) ?_
  have hsw : k = 0 ∨ k = 1 ∨ k = 2 ∨ k = 3 ∨ k = 4 := by omega
  rcases hsw with hsw | hsw | hsw | hsw | hsw
  · skip
    refine zr_ti (y := nI 0) (by rw [hsw]) ?_
    refine lv_tableIn (x := nI 0) (off := 31) (tgt := 32) hx hb dX8_held_1 (by decide +kernel) (by decide +kernel) (by decide +kernel) (by decide) ?_
    refine lv_lload_n hx hb dX8_held_32 rfl (lv_at hl 1 rfl) ?_
    refine lv_l2i (v := (v).toInt32) hx hb dX8_held_33 (rfl) ?_
    refine lv_i2b (v := ((v).toInt32).toInt8.toInt32) hx hb dX8_held_34 (rfl) ?_
    refine lv_i2l (v := (((v).toInt32).toInt8.toInt32).toInt64) hx hb dX8_held_35 (rfl) ?_
    subst hQ
    exact W.lret (v := (((v).toInt32).toInt8.toInt32).toInt64) hx hb hr (fun tz htz hWz => ⟨⟨(((v).toInt32).toInt8.toInt32).toInt64, (), rfl, by subst hsw; unfold zt_cut; first | rfl | (simp; done) | (simp [hbr]; done) | (rw [if_neg (by decide), if_neg (by decide), if_neg (by decide), if_neg (by decide), if_pos hbr]) | (rw [if_neg (by decide), if_neg (by decide), if_neg (by decide), if_neg (by decide), if_neg hbr]), trivial⟩, hS.F htz⟩) hS.2.2 dX8_held_36
  · skip
    refine zr_ti (y := nI 1) (by rw [hsw]) ?_
    refine lv_tableIn (x := nI 1) (off := 36) (tgt := 37) hx hb dX8_held_1 (by decide +kernel) (by decide +kernel) (by decide +kernel) (by decide) ?_
    refine lv_lload_n hx hb dX8_held_37 rfl (lv_at hl 1 rfl) ?_
    refine lv_l2i (v := (v).toInt32) hx hb dX8_held_38 (rfl) ?_
    refine lv_i2s (v := ((v).toInt32).toInt16.toInt32) hx hb dX8_held_39 (rfl) ?_
    refine lv_i2l (v := (((v).toInt32).toInt16.toInt32).toInt64) hx hb dX8_held_40 (rfl) ?_
    subst hQ
    exact W.lret (v := (((v).toInt32).toInt16.toInt32).toInt64) hx hb hr (fun tz htz hWz => ⟨⟨(((v).toInt32).toInt16.toInt32).toInt64, (), rfl, by subst hsw; unfold zt_cut; first | rfl | (simp; done) | (simp [hbr]; done) | (rw [if_neg (by decide), if_neg (by decide), if_neg (by decide), if_neg (by decide), if_pos hbr]) | (rw [if_neg (by decide), if_neg (by decide), if_neg (by decide), if_neg (by decide), if_neg hbr]), trivial⟩, hS.F htz⟩) hS.2.2 dX8_held_41
  · skip
    refine zr_ti (y := nI 2) (by rw [hsw]) ?_
    refine lv_tableIn (x := nI 2) (off := 41) (tgt := 42) hx hb dX8_held_1 (by decide +kernel) (by decide +kernel) (by decide +kernel) (by decide) ?_
    refine lv_lload_n hx hb dX8_held_42 rfl (lv_at hl 1 rfl) ?_
    refine lv_l2i (v := (v).toInt32) hx hb dX8_held_43 (rfl) ?_
    refine lv_i2l (v := ((v).toInt32).toInt64) hx hb dX8_held_44 (rfl) ?_
    subst hQ
    exact W.lret (v := ((v).toInt32).toInt64) hx hb hr (fun tz htz hWz => ⟨⟨((v).toInt32).toInt64, (), rfl, by subst hsw; unfold zt_cut; first | rfl | (simp; done) | (simp [hbr]; done) | (rw [if_neg (by decide), if_neg (by decide), if_neg (by decide), if_neg (by decide), if_pos hbr]) | (rw [if_neg (by decide), if_neg (by decide), if_neg (by decide), if_neg (by decide), if_neg hbr]), trivial⟩, hS.F htz⟩) hS.2.2 dX8_held_45
  · skip
    refine zr_ti (y := nI 3) (by rw [hsw]) ?_
    refine lv_tableIn (x := nI 3) (off := 45) (tgt := 46) hx hb dX8_held_1 (by decide +kernel) (by decide +kernel) (by decide +kernel) (by decide) ?_
    refine lv_lload_n hx hb dX8_held_46 rfl (lv_at hl 1 rfl) ?_
    subst hQ
    exact W.lret (v := v) hx hb hr (fun tz htz hWz => ⟨⟨v, (), rfl, by subst hsw; unfold zt_cut; first | rfl | (simp; done) | (simp [hbr]; done) | (rw [if_neg (by decide), if_neg (by decide), if_neg (by decide), if_neg (by decide), if_pos hbr]) | (rw [if_neg (by decide), if_neg (by decide), if_neg (by decide), if_neg (by decide), if_neg hbr]), trivial⟩, hS.F htz⟩) hS.2.2 dX8_held_47
  · skip
    refine zr_ti (y := nI 4) (by rw [hsw]) ?_
    refine lv_tableOut (x := nI 4) (tgt := 48) hx hb dX8_held_1 (by decide +kernel) (by decide) ?_
    refine lv_lload_n hx hb dX8_held_48 rfl (lv_at hl 1 rfl) ?_
    refine lv_lconst (v := lN 0) hx hb dX8_held_49 (by rfl) ?_
    refine W.lcmp hx hb dX8_held_50 ?_
    refine lv_topi (fun lc_1 elc_1 => ?_)
    have LC := elc_1
    refine lv_if_eq (tgt := 58) hx hb dX8_held_51 (by decide) (fun cn_2 => ?_) (fun cn_2 => ?_)
    · skip
      have hbr := (lg_cmp_eq _ _).mp (elc_1 ▸ cn_2)
      refine lv_lconst (v := lN 0) hx hb dX8_held_58 (by rfl) ?_
      subst hQ
      exact W.lret (v := lN 0) hx hb hr (fun tz htz hWz => ⟨⟨lN 0, (), rfl, by subst hsw; unfold zt_cut; first | rfl | (simp; done) | (simp [hbr]; done) | (rw [if_neg (by decide), if_neg (by decide), if_neg (by decide), if_neg (by decide), if_pos hbr]) | (rw [if_neg (by decide), if_neg (by decide), if_neg (by decide), if_neg (by decide), if_neg hbr]), trivial⟩, hS.F htz⟩) hS.2.2 dX8_held_59
    · skip
      have hbr := fun hz => cn_2 (elc_1.trans ((lg_cmp_eq _ _).mpr hz))
      refine lv_lconst (v := lN 1) hx hb dX8_held_54 (by rfl) ?_
      refine lv_goto (tgt := 59) hx hb dX8_held_55 (by decide) ?_
      subst hQ
      exact W.lret (v := lN 1) hx hb hr (fun tz htz hWz => ⟨⟨lN 1, (), rfl, by subst hsw; unfold zt_cut; first | rfl | (simp; done) | (simp [hbr]; done) | (rw [if_neg (by decide), if_neg (by decide), if_neg (by decide), if_neg (by decide), if_pos hbr]) | (rw [if_neg (by decide), if_neg (by decide), if_neg (by decide), if_neg (by decide), if_neg hbr]), trivial⟩, hS.F htz⟩) hS.2.2 dX8_held_59

set_option maxHeartbeats 4000000 in
set_option maxRecDepth 100000 in
theorem c_X8_isTape (l : Launch) (D : va_G) (E : Nat → ClassId) (v : Int32)  : Met l yX8_isTape wsX8_isTape ({ frames := 1, cells := 0, slots := 0, locals := 22 }) (zr_P D E [.int v] []) (zr_Qi (fun zv => (zv = 1 ∧ (∃ t : Nat, t < 6 ∧ v = nI t)) ∨ (zv = 0 ∧ (∀ t : Nat, t < 6 → v ≠ nI t)))) 0 0 (fun _ => False) := by
  refine Met.ofW (cc := cX8_isTape) (maxL := 1) (ret := (some .boolean)) (by decide) rfl ?_
  intro p e s m args below meth c s₁ Bz hml hv
  obtain ⟨rfl, hP, hK⟩ := hv
  have hx := Bz.exec
  have hb := Bz.bytes
  have hr := Bz.returns
  have hts := atoms_spec (ws := wsX8_isTape) Bz.pre
  have hown : s.vm.findClass RX8 = some m.cls := findClass_of_methodNamed Bz.named
  have hlocks := Bz.notSynchronized
  have hP : va_P D vwCl [] s.heap := hP
  have hS : va_S (fun _ : Nat => False) s.heap s.heap [] := va_S.rf
  have hl := lv_entry ([.int v]) (n := 1) (Nat.le_of_ble_eq_true rfl)
  rw [lg_entry_eq]
  generalize (lg_sl ([.int v]) ++ List.replicate (1 - (lg_sl ([.int v])).length) Slot.unset).toArray = ls at hl ⊢
  have hl : lv_has ls 1 [(0, .int v)] := hl
  refine zr_nQ (fun Q hQ => ?_)
  refine lv_iload_n hx hb dX8_isTape_0 rfl (lv_at hl 0 rfl) ?_
  refine lv_iconst (v := nI 0) hx hb dX8_isTape_1 (by rfl) ?_
  refine lv_iconst (v := nI 5) hx hb dX8_isTape_2 (by rfl) ?_
  refine zr_ci hP hS (va_runS (As := [.int v, .int (nI 0), .int (nI 5)]) (rest := []) ⟨hx, hb, hml, hown, hts⟩ (c_X8_isIn l D E v (nI 0) (nI 5) ) (va_cwS 3 hts gX8_isTape_X8_isIn rfl rfl rfl (by decide +kernel) ⟨Nat.le_of_ble_eq_true rfl, Nat.le_of_ble_eq_true rfl⟩) (zr_S hK (hP.sub (ws' := []) [] rfl)) rfl rfl hl.1 rfl (lv_room (Nat.le_of_ble_eq_true rfl)) dX8_isTape_3 ⟨Nat.zero_le _, Nat.zero_le _⟩) (fun r_1 H locs hw_2 hP hS => ?_)
  rcases hw_2 with ⟨rfl, hw_2⟩ | ⟨rfl, hw_2⟩
  · skip
    have hye := zn_in3 (n := 6) (by omega) (by omega) hw_2.1 hw_2.2
    refine zr_ti (y := nI 1) rfl ?_
    subst hQ
    exact W.zret (v := nI 1) hx hb hr (by decide) (fun tz htz hWz => ⟨⟨nI 1, (), rfl, Or.inl ⟨rfl, hye⟩, trivial⟩, hS.F htz⟩) hS.2.2 dX8_isTape_6
  · skip
    have hno := zn_out3 (n := 6) (by omega) hw_2
    refine zr_ti (y := nI 0) rfl ?_
    subst hQ
    exact W.zret (v := nI 0) hx hb hr (by decide) (fun tz htz hWz => ⟨⟨nI 0, (), rfl, Or.inr ⟨rfl, hno⟩, trivial⟩, hS.F htz⟩) hS.2.2 dX8_isTape_6

