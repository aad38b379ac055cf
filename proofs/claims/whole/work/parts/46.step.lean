set_option maxHeartbeats 4000000 in
set_option maxRecDepth 100000 in
theorem c_X3_costIf_0 (l : Launch) (D : va_G) (E : Nat → ClassId) (g0 : Nat) (g1 : Nat) (g2 : Nat) (g3 : Nat) (g4 : Nat) (g5 : Nat) (g6 : Nat) (g7 : Nat) (sk : Nat) (h0 : Nat) (h1 : Nat) (h2 : Nat) (h3 : Nat) (h4 : Nat) (h5 : Nat) (h6 : Nat) (N : Nat) (hm : Nat → Int32) (aw : Nat → Int32) (rv : Nat → Int32) (sd : Nat → Int32) (gm : Nat → Int32) (ca : Nat → Int32) (G : Nat → Nat → Nat) (P : Nat → Nat → Nat) (xs : Nat → Int32) (ys : Nat → Int32) (X : Nat → Nat) (Y : Nat → Nat) (bz : Nat → Int32) (B : Nat → Nat → Nat) (rt : Nat → Int32) (R : Nat → Nat) (a : Nat) (b : Nat) (hpl : zm_pl N G P hm aw rv sd gm) (hgr : zm_gr X Y xs ys) (hbz : zm_bz B bz) (hrt : zm_rt R rt) (ha0 : a < N - 1) (hb0 : b < N - 1) : Met l yX3_costIf wsX3_costIf ({ frames := 5, cells := 0, slots := 0, locals := 113 }) (zw_P D E [.ref g0, .int (nI 0), .int (nI a), .int (nI b)] [(g0, .inr (2, [.ref h0, .ref g1, .ref g2, .ref g3, .ref g4, .int (nI sk), .ref g5, .ref g6, .ref g7])), (h0, .inr (0, [.int (nI N), .ref h1, .ref h2, .ref h3, .ref h4, .ref h5, .ref h6])), (h1, .inl (E 0, 15, .inl hm)), (h2, .inl (E 0, 15, .inl aw)), (h3, .inl (E 0, 30, .inl rv)), (h4, .inl (E 0, 30, .inl sd)), (h5, .inl (E 0, 30, .inl gm)), (h6, .inl (E 0, 36, .inl ca)), (g1, .inl (E 0, 6, .inl xs)), (g2, .inl (E 0, 6, .inl ys)), (g3, .inl (E 1, 30, .inl bz)), (g4, .inl (E 0, 4, .inl rt))]) (zw_Qf D [(g0, .inr (2, [.ref h0, .ref g1, .ref g2, .ref g3, .ref g4, .int (nI sk), .ref g5, .ref g6, .ref g7])), (h0, .inr (0, [.int (nI N), .ref h1, .ref h2, .ref h3, .ref h4, .ref h5, .ref h6])), (h1, .inl (E 0, 15, .inl hm)), (h2, .inl (E 0, 15, .inl aw)), (h3, .inl (E 0, 30, .inl rv)), (h4, .inl (E 0, 30, .inl sd)), (h5, .inl (E 0, 30, .inl gm)), (h6, .inl (E 0, 36, .inl ca)), (g1, .inl (E 0, 6, .inl xs)), (g2, .inl (E 0, 6, .inl ys)), (g3, .inl (E 1, 30, .inl bz)), (g4, .inl (E 0, 4, .inl rt))] (fun zv (u : (Nat → Int32) × (Nat → Int32) × (Nat → Int32) × (Nat → Int32) × (Nat → Int32) × (Nat → Int32)) => zv = zm_cost R B X Y N (zm_sw G a b) (zm_sw P a b) ∧ zm_pl N G P u.1 u.2.1 u.2.2.1 u.2.2.2.1 u.2.2.2.2.1) (fun (u : (Nat → Int32) × (Nat → Int32) × (Nat → Int32) × (Nat → Int32) × (Nat → Int32) × (Nat → Int32)) => [(g0, .inr (2, [.ref h0, .ref g1, .ref g2, .ref g3, .ref g4, .int (nI sk), .ref g5, .ref g6, .ref g7])), (h0, .inr (0, [.int (nI N), .ref h1, .ref h2, .ref h3, .ref h4, .ref h5, .ref h6])), (h1, .inl (E 0, 15, .inl u.1)), (h2, .inl (E 0, 15, .inl u.2.1)), (h3, .inl (E 0, 30, .inl u.2.2.1)), (h4, .inl (E 0, 30, .inl u.2.2.2.1)), (h5, .inl (E 0, 30, .inl u.2.2.2.2.1)), (h6, .inl (E 0, 36, .inl u.2.2.2.2.2)), (g1, .inl (E 0, 6, .inl xs)), (g2, .inl (E 0, 6, .inl ys)), (g3, .inl (E 1, 30, .inl bz)), (g4, .inl (E 0, 4, .inl rt))])) 0 0 (zw_A [(g0, .inr (2, [.ref h0, .ref g1, .ref g2, .ref g3, .ref g4, .int (nI sk), .ref g5, .ref g6, .ref g7])), (h0, .inr (0, [.int (nI N), .ref h1, .ref h2, .ref h3, .ref h4, .ref h5, .ref h6])), (h1, .inl (E 0, 15, .inl hm)), (h2, .inl (E 0, 15, .inl aw)), (h3, .inl (E 0, 30, .inl rv)), (h4, .inl (E 0, 30, .inl sd)), (h5, .inl (E 0, 30, .inl gm)), (h6, .inl (E 0, 36, .inl ca)), (g1, .inl (E 0, 6, .inl xs)), (g2, .inl (E 0, 6, .inl ys)), (g3, .inl (E 1, 30, .inl bz)), (g4, .inl (E 0, 4, .inl rt))]) := by
  refine Met.ofW (cc := cX3_costIf) (maxL := 5) (ret := (some .float)) (by decide) rfl ?_
  intro p e s m args below meth c s₁ Bz hml hv
  obtain ⟨rfl, hP, hK, hD0⟩ := hv
  have hx := Bz.exec
  have hb := Bz.bytes
  have hr := Bz.returns
  have hts := atoms_spec (ws := wsX3_costIf) Bz.pre
  have hown : s.vm.findClass RX3 = some m.cls := findClass_of_methodNamed Bz.named
  have hlocks := Bz.notSynchronized
  have hP : va_P D vwCl [(g0, .inr (2, [.ref h0, .ref g1, .ref g2, .ref g3, .ref g4, .int (nI sk), .ref g5, .ref g6, .ref g7])), (h0, .inr (0, [.int (nI N), .ref h1, .ref h2, .ref h3, .ref h4, .ref h5, .ref h6])), (h1, .inl (E 0, 15, .inl hm)), (h2, .inl (E 0, 15, .inl aw)), (h3, .inl (E 0, 30, .inl rv)), (h4, .inl (E 0, 30, .inl sd)), (h5, .inl (E 0, 30, .inl gm)), (h6, .inl (E 0, 36, .inl ca)), (g1, .inl (E 0, 6, .inl xs)), (g2, .inl (E 0, 6, .inl ys)), (g3, .inl (E 1, 30, .inl bz)), (g4, .inl (E 0, 4, .inl rt))] s.heap := hP
  obtain ⟨A, hAe⟩ : ∃ A : Nat → Prop, A = zw_A [(g0, .inr (2, [.ref h0, .ref g1, .ref g2, .ref g3, .ref g4, .int (nI sk), .ref g5, .ref g6, .ref g7])), (h0, .inr (0, [.int (nI N), .ref h1, .ref h2, .ref h3, .ref h4, .ref h5, .ref h6])), (h1, .inl (E 0, 15, .inl hm)), (h2, .inl (E 0, 15, .inl aw)), (h3, .inl (E 0, 30, .inl rv)), (h4, .inl (E 0, 30, .inl sd)), (h5, .inl (E 0, 30, .inl gm)), (h6, .inl (E 0, 36, .inl ca)), (g1, .inl (E 0, 6, .inl xs)), (g2, .inl (E 0, 6, .inl ys)), (g3, .inl (E 1, 30, .inl bz)), (g4, .inl (E 0, 4, .inl rt))] := ⟨_, rfl⟩
  have hD : va_D A [(g0, .inr (2, [.ref h0, .ref g1, .ref g2, .ref g3, .ref g4, .int (nI sk), .ref g5, .ref g6, .ref g7])), (h0, .inr (0, [.int (nI N), .ref h1, .ref h2, .ref h3, .ref h4, .ref h5, .ref h6])), (h1, .inl (E 0, 15, .inl hm)), (h2, .inl (E 0, 15, .inl aw)), (h3, .inl (E 0, 30, .inl rv)), (h4, .inl (E 0, 30, .inl sd)), (h5, .inl (E 0, 30, .inl gm)), (h6, .inl (E 0, 36, .inl ca)), (g1, .inl (E 0, 6, .inl xs)), (g2, .inl (E 0, 6, .inl ys)), (g3, .inl (E 1, 30, .inl bz)), (g4, .inl (E 0, 4, .inl rt))] := hAe ▸ zw_own hD0
  have hS : va_S A s.heap s.heap [] := va_S.rf
  have hl := lv_entry ([.ref g0, .int (nI 0), .int (nI a), .int (nI b)]) (n := 5) (Nat.le_of_ble_eq_true rfl)
  rw [lg_entry_eq]
  generalize (lg_sl ([.ref g0, .int (nI 0), .int (nI a), .int (nI b)]) ++ List.replicate (5 - (lg_sl ([.ref g0, .int (nI 0), .int (nI a), .int (nI b)])).length) Slot.unset).toArray = ls at hl ⊢
  have hl : lv_has ls 5 [(0, .ref g0), (1, .int (nI 0)), (2, .int (nI a)), (3, .int (nI b))] := hl
  refine zr_nQ (fun Q hQ => ?_)
  have hN := hpl.1.1
  have hok := hpl.1
  refine lv_aload_n hx hb dX3_costIf_0 rfl (lv_at hl 0 rfl) ?_
  refine lv_iload_n hx hb dX3_costIf_1 rfl (lv_at hl 1 rfl) ?_
  refine lv_iload_n hx hb dX3_costIf_2 rfl (lv_at hl 2 rfl) ?_
  refine lv_iload_n hx hb dX3_costIf_3 rfl (lv_at hl 3 rfl) ?_
  have hPc := hP.sub (ws' := [(g0, .inr (2, [.ref h0, .ref g1, .ref g2, .ref g3, .ref g4, .int (nI sk), .ref g5, .ref g6, .ref g7])), (h0, .inr (0, [.int (nI N), .ref h1, .ref h2, .ref h3, .ref h4, .ref h5, .ref h6])), (h1, .inl (E 0, 15, .inl hm)), (h2, .inl (E 0, 15, .inl aw)), (h3, .inl (E 0, 30, .inl rv)), (h4, .inl (E 0, 30, .inl sd)), (h5, .inl (E 0, 30, .inl gm)), (h6, .inl (E 0, 36, .inl ca))]) [0, 1, 2, 3, 4, 5, 6, 7] rfl
  have hDc := hD.sub (ws' := [(g0, .inr (2, [.ref h0, .ref g1, .ref g2, .ref g3, .ref g4, .int (nI sk), .ref g5, .ref g6, .ref g7])), (h0, .inr (0, [.int (nI N), .ref h1, .ref h2, .ref h3, .ref h4, .ref h5, .ref h6])), (h1, .inl (E 0, 15, .inl hm)), (h2, .inl (E 0, 15, .inl aw)), (h3, .inl (E 0, 30, .inl rv)), (h4, .inl (E 0, 30, .inl sd)), (h5, .inl (E 0, 30, .inl gm)), (h6, .inl (E 0, 36, .inl ca))]) [0, 1, 2, 3, 4, 5, 6, 7] (by decide +kernel) rfl
  have hAc := zw_AA (wc := [(g0, .inr (2, [.ref h0, .ref g1, .ref g2, .ref g3, .ref g4, .int (nI sk), .ref g5, .ref g6, .ref g7])), (h0, .inr (0, [.int (nI N), .ref h1, .ref h2, .ref h3, .ref h4, .ref h5, .ref h6])), (h1, .inl (E 0, 15, .inl hm)), (h2, .inl (E 0, 15, .inl aw)), (h3, .inl (E 0, 30, .inl rv)), (h4, .inl (E 0, 30, .inl sd)), (h5, .inl (E 0, 30, .inl gm)), (h6, .inl (E 0, 36, .inl ca))]) hD [0, 1, 2, 3, 4, 5, 6, 7] rfl
  refine zw_cv hAc hS (va_runV (As := [.int (nI 0), .int (nI a), .int (nI b)]) (rest := []) ⟨hx, hb, hml, hown, hts⟩ (c_X3_change_0 l D E g0 g1 g2 g3 g4 g5 g6 g7 sk h0 h1 h2 h3 h4 h5 h6 N hm aw rv sd gm ca G P a b (hpl) (ha0) (hb0)) (cwV 3 hts gX3_costIf_X3_change rfl rfl rfl (by decide +kernel) ⟨Nat.le_of_ble_eq_true rfl, Nat.le_of_ble_eq_true rfl⟩) (zw_V hK hPc hDc (ci := 2) (q0 := 0) rfl rfl) rfl rfl hl.1 rfl (lv_room (Nat.le_of_ble_eq_true rfl)) dX3_costIf_4 ⟨Nat.zero_le _, Nat.zero_le _⟩) (fun u_3 H locs hw_2 hP1 hD1 hk1 hS => ?_)
  obtain ⟨hm_4, aw_5, rv_6, sd_7, gm_8⟩ := u_3
  try dsimp only at hw_2 hP1 hD1
  obtain ⟨hP, hD⟩ := zw_join (wr := [(g1, .inl (E 0, 6, .inl xs)), (g2, .inl (E 0, 6, .inl ys)), (g3, .inl (E 1, 30, .inl bz)), (g4, .inl (E 0, 4, .inl rt))]) (w1 := [(g0, .inr (2, [.ref h0, .ref g1, .ref g2, .ref g3, .ref g4, .int (nI sk), .ref g5, .ref g6, .ref g7])), (h0, .inr (0, [.int (nI N), .ref h1, .ref h2, .ref h3, .ref h4, .ref h5, .ref h6])), (h1, .inl (E 0, 15, .inl hm_4)), (h2, .inl (E 0, 15, .inl aw_5)), (h3, .inl (E 0, 30, .inl rv_6)), (h4, .inl (E 0, 30, .inl sd_7)), (h5, .inl (E 0, 30, .inl gm_8)), (h6, .inl (E 0, 36, .inl ca))]) (ws' := [(g0, .inr (2, [.ref h0, .ref g1, .ref g2, .ref g3, .ref g4, .int (nI sk), .ref g5, .ref g6, .ref g7])), (h0, .inr (0, [.int (nI N), .ref h1, .ref h2, .ref h3, .ref h4, .ref h5, .ref h6])), (h1, .inl (E 0, 15, .inl hm_4)), (h2, .inl (E 0, 15, .inl aw_5)), (h3, .inl (E 0, 30, .inl rv_6)), (h4, .inl (E 0, 30, .inl sd_7)), (h5, .inl (E 0, 30, .inl gm_8)), (h6, .inl (E 0, 36, .inl ca)), (g1, .inl (E 0, 6, .inl xs)), (g2, .inl (E 0, 6, .inl ys)), (g3, .inl (E 1, 30, .inl bz)), (g4, .inl (E 0, 4, .inl rt))]) hP hD [0, 1, 2, 3, 4, 5, 6, 7] [8, 9, 10, 11] [4, 5, 6, 7, 8, 9, 10, 11, 0, 1, 2, 3] rfl rfl (by decide +kernel) (by decide +kernel) hAc hk1 hP1 hD1 (by decide +kernel) rfl
  clear hP1 hD1 hk1 hPc hDc hAc
  have hp1 := hw_2
  refine lv_aload_n hx hb dX3_costIf_7 rfl (lv_at hl 0 rfl) ?_
  have hPc := hP.sub (ws' := [(g0, .inr (2, [.ref h0, .ref g1, .ref g2, .ref g3, .ref g4, .int (nI sk), .ref g5, .ref g6, .ref g7])), (h0, .inr (0, [.int (nI N), .ref h1, .ref h2, .ref h3, .ref h4, .ref h5, .ref h6])), (h1, .inl (E 0, 15, .inl hm_4)), (h2, .inl (E 0, 15, .inl aw_5)), (h3, .inl (E 0, 30, .inl rv_6)), (h4, .inl (E 0, 30, .inl sd_7)), (h5, .inl (E 0, 30, .inl gm_8)), (h6, .inl (E 0, 36, .inl ca)), (g1, .inl (E 0, 6, .inl xs)), (g2, .inl (E 0, 6, .inl ys)), (g3, .inl (E 1, 30, .inl bz)), (g4, .inl (E 0, 4, .inl rt))]) [0, 1, 2, 3, 4, 5, 6, 7, 8, 9, 10, 11] rfl
  have hDc := hD.sub (ws' := [(g0, .inr (2, [.ref h0, .ref g1, .ref g2, .ref g3, .ref g4, .int (nI sk), .ref g5, .ref g6, .ref g7])), (h0, .inr (0, [.int (nI N), .ref h1, .ref h2, .ref h3, .ref h4, .ref h5, .ref h6])), (h1, .inl (E 0, 15, .inl hm_4)), (h2, .inl (E 0, 15, .inl aw_5)), (h3, .inl (E 0, 30, .inl rv_6)), (h4, .inl (E 0, 30, .inl sd_7)), (h5, .inl (E 0, 30, .inl gm_8)), (h6, .inl (E 0, 36, .inl ca)), (g1, .inl (E 0, 6, .inl xs)), (g2, .inl (E 0, 6, .inl ys)), (g3, .inl (E 1, 30, .inl bz)), (g4, .inl (E 0, 4, .inl rt))]) [0, 1, 2, 3, 4, 5, 6, 7, 8, 9, 10, 11] (by decide +kernel) rfl
  have hAc := zw_AA (wc := [(g0, .inr (2, [.ref h0, .ref g1, .ref g2, .ref g3, .ref g4, .int (nI sk), .ref g5, .ref g6, .ref g7])), (h0, .inr (0, [.int (nI N), .ref h1, .ref h2, .ref h3, .ref h4, .ref h5, .ref h6])), (h1, .inl (E 0, 15, .inl hm_4)), (h2, .inl (E 0, 15, .inl aw_5)), (h3, .inl (E 0, 30, .inl rv_6)), (h4, .inl (E 0, 30, .inl sd_7)), (h5, .inl (E 0, 30, .inl gm_8)), (h6, .inl (E 0, 36, .inl ca)), (g1, .inl (E 0, 6, .inl xs)), (g2, .inl (E 0, 6, .inl ys)), (g3, .inl (E 1, 30, .inl bz)), (g4, .inl (E 0, 4, .inl rt))]) hD [0, 1, 2, 3, 4, 5, 6, 7, 8, 9, 10, 11] rfl
  refine zw_cf hAc hS (va_runV (As := []) (rest := []) ⟨hx, hb, hml, hown, hts⟩ (c_X3_fullCost l D E g0 g1 g2 g3 g4 g5 g6 g7 sk h0 h1 h2 h3 h4 h5 h6 N hm_4 aw_5 rv_6 sd_7 gm_8 ca (zm_sw G a b) (zm_sw P a b) xs ys X Y bz B rt R (hp1) (hgr) (hbz) (hrt)) (cwV 0 hts gX3_costIf_X3_fullCost rfl rfl rfl (by decide +kernel) ⟨Nat.le_of_ble_eq_true rfl, Nat.le_of_ble_eq_true rfl⟩) (zw_V hK hPc hDc (ci := 2) (q0 := 0) rfl rfl) rfl rfl hl.1 rfl (lv_room (Nat.le_of_ble_eq_true rfl)) dX3_costIf_8 ⟨Nat.zero_le _, Nat.zero_le _⟩) (fun r_9 u_11 H locs hw_10 hP1 hD1 hk1 hS => ?_)
  obtain ⟨ca_12, rfl⟩ : ∃ z, z = u_11 := ⟨_, rfl⟩
  try dsimp only at hw_10 hP1 hD1
  obtain ⟨hP, hD⟩ := zw_join (wr := []) (w1 := [(g0, .inr (2, [.ref h0, .ref g1, .ref g2, .ref g3, .ref g4, .int (nI sk), .ref g5, .ref g6, .ref g7])), (h0, .inr (0, [.int (nI N), .ref h1, .ref h2, .ref h3, .ref h4, .ref h5, .ref h6])), (h1, .inl (E 0, 15, .inl hm_4)), (h2, .inl (E 0, 15, .inl aw_5)), (h3, .inl (E 0, 30, .inl rv_6)), (h4, .inl (E 0, 30, .inl sd_7)), (h5, .inl (E 0, 30, .inl gm_8)), (h6, .inl (E 0, 36, .inl ca_12)), (g1, .inl (E 0, 6, .inl xs)), (g2, .inl (E 0, 6, .inl ys)), (g3, .inl (E 1, 30, .inl bz)), (g4, .inl (E 0, 4, .inl rt))]) (ws' := [(g0, .inr (2, [.ref h0, .ref g1, .ref g2, .ref g3, .ref g4, .int (nI sk), .ref g5, .ref g6, .ref g7])), (h0, .inr (0, [.int (nI N), .ref h1, .ref h2, .ref h3, .ref h4, .ref h5, .ref h6])), (h1, .inl (E 0, 15, .inl hm_4)), (h2, .inl (E 0, 15, .inl aw_5)), (h3, .inl (E 0, 30, .inl rv_6)), (h4, .inl (E 0, 30, .inl sd_7)), (h5, .inl (E 0, 30, .inl gm_8)), (h6, .inl (E 0, 36, .inl ca_12)), (g1, .inl (E 0, 6, .inl xs)), (g2, .inl (E 0, 6, .inl ys)), (g3, .inl (E 1, 30, .inl bz)), (g4, .inl (E 0, 4, .inl rt))]) hP hD [0, 1, 2, 3, 4, 5, 6, 7, 8, 9, 10, 11] [] [0, 1, 2, 3, 4, 5, 6, 7, 8, 9, 10, 11] rfl rfl (by decide +kernel) (by decide +kernel) hAc hk1 hP1 hD1 (by decide +kernel) rfl
  clear hP1 hD1 hk1 hPc hDc hAc
  obtain ⟨rfl, hw_10⟩ := hw_10
  refine lv_fstore (lv' := [(4, .float (zf_cost R (zm_brs N (zm_sw P a b)) (zm_vio N (zm_sw G a b) B) (zm_car N (zm_sw G a b) (zm_sw P a b)) (zm_amiles N (zm_sw G a b) (zm_sw P a b) X Y))), (0, .ref g0), (1, .int (nI 0)), (2, .int (nI a)), (3, .int (nI b))]) hx hb dX3_costIf_11 hl (by decide) rfl (fun ls hl => ?_)
  refine lv_aload_n hx hb dX3_costIf_13 rfl (lv_at hl 1 rfl) ?_
  refine lv_iload_n hx hb dX3_costIf_14 rfl (lv_at hl 2 rfl) ?_
  refine lv_iload_n hx hb dX3_costIf_15 rfl (lv_at hl 3 rfl) ?_
  refine lv_iload_n hx hb dX3_costIf_16 rfl (lv_at hl 4 rfl) ?_
  have hPc := hP.sub (ws' := [(g0, .inr (2, [.ref h0, .ref g1, .ref g2, .ref g3, .ref g4, .int (nI sk), .ref g5, .ref g6, .ref g7])), (h0, .inr (0, [.int (nI N), .ref h1, .ref h2, .ref h3, .ref h4, .ref h5, .ref h6])), (h1, .inl (E 0, 15, .inl hm_4)), (h2, .inl (E 0, 15, .inl aw_5)), (h3, .inl (E 0, 30, .inl rv_6)), (h4, .inl (E 0, 30, .inl sd_7)), (h5, .inl (E 0, 30, .inl gm_8)), (h6, .inl (E 0, 36, .inl ca_12))]) [0, 1, 2, 3, 4, 5, 6, 7] rfl
  have hDc := hD.sub (ws' := [(g0, .inr (2, [.ref h0, .ref g1, .ref g2, .ref g3, .ref g4, .int (nI sk), .ref g5, .ref g6, .ref g7])), (h0, .inr (0, [.int (nI N), .ref h1, .ref h2, .ref h3, .ref h4, .ref h5, .ref h6])), (h1, .inl (E 0, 15, .inl hm_4)), (h2, .inl (E 0, 15, .inl aw_5)), (h3, .inl (E 0, 30, .inl rv_6)), (h4, .inl (E 0, 30, .inl sd_7)), (h5, .inl (E 0, 30, .inl gm_8)), (h6, .inl (E 0, 36, .inl ca_12))]) [0, 1, 2, 3, 4, 5, 6, 7] (by decide +kernel) rfl
  have hAc := zw_AA (wc := [(g0, .inr (2, [.ref h0, .ref g1, .ref g2, .ref g3, .ref g4, .int (nI sk), .ref g5, .ref g6, .ref g7])), (h0, .inr (0, [.int (nI N), .ref h1, .ref h2, .ref h3, .ref h4, .ref h5, .ref h6])), (h1, .inl (E 0, 15, .inl hm_4)), (h2, .inl (E 0, 15, .inl aw_5)), (h3, .inl (E 0, 30, .inl rv_6)), (h4, .inl (E 0, 30, .inl sd_7)), (h5, .inl (E 0, 30, .inl gm_8)), (h6, .inl (E 0, 36, .inl ca_12))]) hD [0, 1, 2, 3, 4, 5, 6, 7] rfl
  refine zw_cv hAc hS (va_runV (As := [.int (nI 0), .int (nI a), .int (nI b)]) (rest := []) ⟨hx, hb, hml, hown, hts⟩ (c_X3_change_0 l D E g0 g1 g2 g3 g4 g5 g6 g7 sk h0 h1 h2 h3 h4 h5 h6 N hm_4 aw_5 rv_6 sd_7 gm_8 ca_12 (zm_sw G a b) (zm_sw P a b) a b (hp1) (ha0) (hb0)) (cwV 3 hts gX3_costIf_X3_change rfl rfl rfl (by decide +kernel) ⟨Nat.le_of_ble_eq_true rfl, Nat.le_of_ble_eq_true rfl⟩) (zw_V hK hPc hDc (ci := 2) (q0 := 0) rfl rfl) rfl rfl hl.1 rfl (lv_room (Nat.le_of_ble_eq_true rfl)) dX3_costIf_17 ⟨Nat.zero_le _, Nat.zero_le _⟩) (fun u_15 H locs hw_14 hP1 hD1 hk1 hS => ?_)
  obtain ⟨hm_16, aw_17, rv_18, sd_19, gm_20⟩ := u_15
  try dsimp only at hw_14 hP1 hD1
  obtain ⟨hP, hD⟩ := zw_join (wr := [(g1, .inl (E 0, 6, .inl xs)), (g2, .inl (E 0, 6, .inl ys)), (g3, .inl (E 1, 30, .inl bz)), (g4, .inl (E 0, 4, .inl rt))]) (w1 := [(g0, .inr (2, [.ref h0, .ref g1, .ref g2, .ref g3, .ref g4, .int (nI sk), .ref g5, .ref g6, .ref g7])), (h0, .inr (0, [.int (nI N), .ref h1, .ref h2, .ref h3, .ref h4, .ref h5, .ref h6])), (h1, .inl (E 0, 15, .inl hm_16)), (h2, .inl (E 0, 15, .inl aw_17)), (h3, .inl (E 0, 30, .inl rv_18)), (h4, .inl (E 0, 30, .inl sd_19)), (h5, .inl (E 0, 30, .inl gm_20)), (h6, .inl (E 0, 36, .inl ca_12))]) (ws' := [(g0, .inr (2, [.ref h0, .ref g1, .ref g2, .ref g3, .ref g4, .int (nI sk), .ref g5, .ref g6, .ref g7])), (h0, .inr (0, [.int (nI N), .ref h1, .ref h2, .ref h3, .ref h4, .ref h5, .ref h6])), (h1, .inl (E 0, 15, .inl hm_16)), (h2, .inl (E 0, 15, .inl aw_17)), (h3, .inl (E 0, 30, .inl rv_18)), (h4, .inl (E 0, 30, .inl sd_19)), (h5, .inl (E 0, 30, .inl gm_20)), (h6, .inl (E 0, 36, .inl ca_12)), (g1, .inl (E 0, 6, .inl xs)), (g2, .inl (E 0, 6, .inl ys)), (g3, .inl (E 1, 30, .inl bz)), (g4, .inl (E 0, 4, .inl rt))]) hP hD [0, 1, 2, 3, 4, 5, 6, 7] [8, 9, 10, 11] [4, 5, 6, 7, 8, 9, 10, 11, 0, 1, 2, 3] rfl rfl (by decide +kernel) (by decide +kernel) hAc hk1 hP1 hD1 (by decide +kernel) rfl
  clear hP1 hD1 hk1 hPc hDc hAc
  have hp2 := zm_pl_eq hw_14 (zm_sw_sw _ _ _) (zm_sw_sw _ _ _)
  refine lv_fload hx hb dX3_costIf_20 (lv_at hl 0 rfl) ?_
  subst hQ; subst hAe
  exact W.fret (v := zf_cost R (zm_brs N (zm_sw P a b)) (zm_vio N (zm_sw G a b) B) (zm_car N (zm_sw G a b) (zm_sw P a b)) (zm_amiles N (zm_sw G a b) (zm_sw P a b) X Y)) hx hb hr (fun tz htz hWz => ⟨⟨zf_cost R (zm_brs N (zm_sw P a b)) (zm_vio N (zm_sw G a b) B) (zm_car N (zm_sw G a b) (zm_sw P a b)) (zm_amiles N (zm_sw G a b) (zm_sw P a b) X Y), (hm_16, aw_17, rv_18, sd_19, gm_20, ca_12), rfl, ⟨rfl, hp2⟩, by rw [htz]; exact hP, hD⟩, hS.F htz⟩) hS.2.2 dX3_costIf_22

set_option maxHeartbeats 4000000 in
set_option maxRecDepth 100000 in
theorem c_X3_costIf_1 (l : Launch) (D : va_G) (E : Nat → ClassId) (g0 : Nat) (g1 : Nat) (g2 : Nat) (g3 : Nat) (g4 : Nat) (g5 : Nat) (g6 : Nat) (g7 : Nat) (sk : Nat) (h0 : Nat) (h1 : Nat) (h2 : Nat) (h3 : Nat) (h4 : Nat) (h5 : Nat) (h6 : Nat) (N : Nat) (hm : Nat → Int32) (aw : Nat → Int32) (rv : Nat → Int32) (sd : Nat → Int32) (gm : Nat → Int32) (ca : Nat → Int32) (G : Nat → Nat → Nat) (P : Nat → Nat → Nat) (xs : Nat → Int32) (ys : Nat → Int32) (X : Nat → Nat) (Y : Nat → Nat) (bz : Nat → Int32) (B : Nat → Nat → Nat) (rt : Nat → Int32) (R : Nat → Nat) (a : Nat) (b : Nat) (hpl : zm_pl N G P hm aw rv sd gm) (hgr : zm_gr X Y xs ys) (hbz : zm_bz B bz) (hrt : zm_rt R rt) (ha0 : a < N - 1) (hb0 : b < N / 2) : Met l yX3_costIf wsX3_costIf ({ frames := 5, cells := 0, slots := 0, locals := 113 }) (zw_P D E [.ref g0, .int (nI 1), .int (nI a), .int (nI b)] [(g0, .inr (2, [.ref h0, .ref g1, .ref g2, .ref g3, .ref g4, .int (nI sk), .ref g5, .ref g6, .ref g7])), (h0, .inr (0, [.int (nI N), .ref h1, .ref h2, .ref h3, .ref h4, .ref h5, .ref h6])), (h1, .inl (E 0, 15, .inl hm)), (h2, .inl (E 0, 15, .inl aw)), (h3, .inl (E 0, 30, .inl rv)), (h4, .inl (E 0, 30, .inl sd)), (h5, .inl (E 0, 30, .inl gm)), (h6, .inl (E 0, 36, .inl ca)), (g1, .inl (E 0, 6, .inl xs)), (g2, .inl (E 0, 6, .inl ys)), (g3, .inl (E 1, 30, .inl bz)), (g4, .inl (E 0, 4, .inl rt))]) (zw_Qf D [(g0, .inr (2, [.ref h0, .ref g1, .ref g2, .ref g3, .ref g4, .int (nI sk), .ref g5, .ref g6, .ref g7])), (h0, .inr (0, [.int (nI N), .ref h1, .ref h2, .ref h3, .ref h4, .ref h5, .ref h6])), (h1, .inl (E 0, 15, .inl hm)), (h2, .inl (E 0, 15, .inl aw)), (h3, .inl (E 0, 30, .inl rv)), (h4, .inl (E 0, 30, .inl sd)), (h5, .inl (E 0, 30, .inl gm)), (h6, .inl (E 0, 36, .inl ca)), (g1, .inl (E 0, 6, .inl xs)), (g2, .inl (E 0, 6, .inl ys)), (g3, .inl (E 1, 30, .inl bz)), (g4, .inl (E 0, 4, .inl rt))] (fun zv (u : (Nat → Int32) × (Nat → Int32) × (Nat → Int32) × (Nat → Int32) × (Nat → Int32) × (Nat → Int32)) => zv = zm_cost R B X Y N (zm_tuG G a b) (zm_tuP P a b) ∧ zm_pl N G P u.1 u.2.1 u.2.2.1 u.2.2.2.1 u.2.2.2.2.1) (fun (u : (Nat → Int32) × (Nat → Int32) × (Nat → Int32) × (Nat → Int32) × (Nat → Int32) × (Nat → Int32)) => [(g0, .inr (2, [.ref h0, .ref g1, .ref g2, .ref g3, .ref g4, .int (nI sk), .ref g5, .ref g6, .ref g7])), (h0, .inr (0, [.int (nI N), .ref h1, .ref h2, .ref h3, .ref h4, .ref h5, .ref h6])), (h1, .inl (E 0, 15, .inl u.1)), (h2, .inl (E 0, 15, .inl u.2.1)), (h3, .inl (E 0, 30, .inl u.2.2.1)), (h4, .inl (E 0, 30, .inl u.2.2.2.1)), (h5, .inl (E 0, 30, .inl u.2.2.2.2.1)), (h6, .inl (E 0, 36, .inl u.2.2.2.2.2)), (g1, .inl (E 0, 6, .inl xs)), (g2, .inl (E 0, 6, .inl ys)), (g3, .inl (E 1, 30, .inl bz)), (g4, .inl (E 0, 4, .inl rt))])) 0 0 (zw_A [(g0, .inr (2, [.ref h0, .ref g1, .ref g2, .ref g3, .ref g4, .int (nI sk), .ref g5, .ref g6, .ref g7])), (h0, .inr (0, [.int (nI N), .ref h1, .ref h2, .ref h3, .ref h4, .ref h5, .ref h6])), (h1, .inl (E 0, 15, .inl hm)), (h2, .inl (E 0, 15, .inl aw)), (h3, .inl (E 0, 30, .inl rv)), (h4, .inl (E 0, 30, .inl sd)), (h5, .inl (E 0, 30, .inl gm)), (h6, .inl (E 0, 36, .inl ca)), (g1, .inl (E 0, 6, .inl xs)), (g2, .inl (E 0, 6, .inl ys)), (g3, .inl (E 1, 30, .inl bz)), (g4, .inl (E 0, 4, .inl rt))]) := by
  refine Met.ofW (cc := cX3_costIf) (maxL := 5) (ret := (some .float)) (by decide) rfl ?_
  intro p e s m args below meth c s₁ Bz hml hv
  obtain ⟨rfl, hP, hK, hD0⟩ := hv
  have hx := Bz.exec
  have hb := Bz.bytes
  have hr := Bz.returns
  have hts := atoms_spec (ws := wsX3_costIf) Bz.pre
  have hown : s.vm.findClass RX3 = some m.cls := findClass_of_methodNamed Bz.named
  have hlocks := Bz.notSynchronized
  have hP : va_P D vwCl [(g0, .inr (2, [.ref h0, .ref g1, .ref g2, .ref g3, .ref g4, .int (nI sk), .ref g5, .ref g6, .ref g7])), (h0, .inr (0, [.int (nI N), .ref h1, .ref h2, .ref h3, .ref h4, .ref h5, .ref h6])), (h1, .inl (E 0, 15, .inl hm)), (h2, .inl (E 0, 15, .inl aw)), (h3, .inl (E 0, 30, .inl rv)), (h4, .inl (E 0, 30, .inl sd)), (h5, .inl (E 0, 30, .inl gm)), (h6, .inl (E 0, 36, .inl ca)), (g1, .inl (E 0, 6, .inl xs)), (g2, .inl (E 0, 6, .inl ys)), (g3, .inl (E 1, 30, .inl bz)), (g4, .inl (E 0, 4, .inl rt))] s.heap := hP
  obtain ⟨A, hAe⟩ : ∃ A : Nat → Prop, A = zw_A [(g0, .inr (2, [.ref h0, .ref g1, .ref g2, .ref g3, .ref g4, .int (nI sk), .ref g5, .ref g6, .ref g7])), (h0, .inr (0, [.int (nI N), .ref h1, .ref h2, .ref h3, .ref h4, .ref h5, .ref h6])), (h1, .inl (E 0, 15, .inl hm)), (h2, .inl (E 0, 15, .inl aw)), (h3, .inl (E 0, 30, .inl rv)), (h4, .inl (E 0, 30, .inl sd)), (h5, .inl (E 0, 30, .inl gm)), (h6, .inl (E 0, 36, .inl ca)), (g1, .inl (E 0, 6, .inl xs)), (g2, .inl (E 0, 6, .inl ys)), (g3, .inl (E 1, 30, .inl bz)), (g4, .inl (E 0, 4, .inl rt))] := ⟨_, rfl⟩
  have hD : va_D A [(g0, .inr (2, [.ref h0, .ref g1, .ref g2, .ref g3, .ref g4, .int (nI sk), .ref g5, .ref g6, .ref g7])), (h0, .inr (0, [.int (nI N), .ref h1, .ref h2, .ref h3, .ref h4, .ref h5, .ref h6])), (h1, .inl (E 0, 15, .inl hm)), (h2, .inl (E 0, 15, .inl aw)), (h3, .inl (E 0, 30, .inl rv)), (h4, .inl (E 0, 30, .inl sd)), (h5, .inl (E 0, 30, .inl gm)), (h6, .inl (E 0, 36, .inl ca)), (g1, .inl (E 0, 6, .inl xs)), (g2, .inl (E 0, 6, .inl ys)), (g3, .inl (E 1, 30, .inl bz)), (g4, .inl (E 0, 4, .inl rt))] := hAe ▸ zw_own hD0
  have hS : va_S A s.heap s.heap [] := va_S.rf
  have hl := lv_entry ([.ref g0, .int (nI 1), .int (nI a), .int (nI b)]) (n := 5) (Nat.le_of_ble_eq_true rfl)
  rw [lg_entry_eq]
  generalize (lg_sl ([.ref g0, .int (nI 1), .int (nI a), .int (nI b)]) ++ List.replicate (5 - (lg_sl ([.ref g0, .int (nI 1), .int (nI a), .int (nI b)])).length) Slot.unset).toArray = ls at hl ⊢
  have hl : lv_has ls 5 [(0, .ref g0), (1, .int (nI 1)), (2, .int (nI a)), (3, .int (nI b))] := hl
  refine zr_nQ (fun Q hQ => ?_)
  have hN := hpl.1.1
  have hok := hpl.1
  refine lv_aload_n hx hb dX3_costIf_0 rfl (lv_at hl 0 rfl) ?_
  refine lv_iload_n hx hb dX3_costIf_1 rfl (lv_at hl 1 rfl) ?_
  refine lv_iload_n hx hb dX3_costIf_2 rfl (lv_at hl 2 rfl) ?_
  refine lv_iload_n hx hb dX3_costIf_3 rfl (lv_at hl 3 rfl) ?_
  have hPc := hP.sub (ws' := [(g0, .inr (2, [.ref h0, .ref g1, .ref g2, .ref g3, .ref g4, .int (nI sk), .ref g5, .ref g6, .ref g7])), (h0, .inr (0, [.int (nI N), .ref h1, .ref h2, .ref h3, .ref h4, .ref h5, .ref h6])), (h1, .inl (E 0, 15, .inl hm)), (h2, .inl (E 0, 15, .inl aw)), (h3, .inl (E 0, 30, .inl rv)), (h4, .inl (E 0, 30, .inl sd)), (h5, .inl (E 0, 30, .inl gm)), (h6, .inl (E 0, 36, .inl ca))]) [0, 1, 2, 3, 4, 5, 6, 7] rfl
  have hDc := hD.sub (ws' := [(g0, .inr (2, [.ref h0, .ref g1, .ref g2, .ref g3, .ref g4, .int (nI sk), .ref g5, .ref g6, .ref g7])), (h0, .inr (0, [.int (nI N), .ref h1, .ref h2, .ref h3, .ref h4, .ref h5, .ref h6])), (h1, .inl (E 0, 15, .inl hm)), (h2, .inl (E 0, 15, .inl aw)), (h3, .inl (E 0, 30, .inl rv)), (h4, .inl (E 0, 30, .inl sd)), (h5, .inl (E 0, 30, .inl gm)), (h6, .inl (E 0, 36, .inl ca))]) [0, 1, 2, 3, 4, 5, 6, 7] (by decide +kernel) rfl
  have hAc := zw_AA (wc := [(g0, .inr (2, [.ref h0, .ref g1, .ref g2, .ref g3, .ref g4, .int (nI sk), .ref g5, .ref g6, .ref g7])), (h0, .inr (0, [.int (nI N), .ref h1, .ref h2, .ref h3, .ref h4, .ref h5, .ref h6])), (h1, .inl (E 0, 15, .inl hm)), (h2, .inl (E 0, 15, .inl aw)), (h3, .inl (E 0, 30, .inl rv)), (h4, .inl (E 0, 30, .inl sd)), (h5, .inl (E 0, 30, .inl gm)), (h6, .inl (E 0, 36, .inl ca))]) hD [0, 1, 2, 3, 4, 5, 6, 7] rfl
  refine zw_cv hAc hS (va_runV (As := [.int (nI 1), .int (nI a), .int (nI b)]) (rest := []) ⟨hx, hb, hml, hown, hts⟩ (c_X3_change_1 l D E g0 g1 g2 g3 g4 g5 g6 g7 sk h0 h1 h2 h3 h4 h5 h6 N hm aw rv sd gm ca G P a b (hpl) (ha0) (hb0)) (cwV 3 hts gX3_costIf_X3_change rfl rfl rfl (by decide +kernel) ⟨Nat.le_of_ble_eq_true rfl, Nat.le_of_ble_eq_true rfl⟩) (zw_V hK hPc hDc (ci := 2) (q0 := 0) rfl rfl) rfl rfl hl.1 rfl (lv_room (Nat.le_of_ble_eq_true rfl)) dX3_costIf_4 ⟨Nat.zero_le _, Nat.zero_le _⟩) (fun u_3 H locs hw_2 hP1 hD1 hk1 hS => ?_)
  obtain ⟨hm_4, aw_5, rv_6, sd_7, gm_8⟩ := u_3
  try dsimp only at hw_2 hP1 hD1
  obtain ⟨hP, hD⟩ := zw_join (wr := [(g1, .inl (E 0, 6, .inl xs)), (g2, .inl (E 0, 6, .inl ys)), (g3, .inl (E 1, 30, .inl bz)), (g4, .inl (E 0, 4, .inl rt))]) (w1 := [(g0, .inr (2, [.ref h0, .ref g1, .ref g2, .ref g3, .ref g4, .int (nI sk), .ref g5, .ref g6, .ref g7])), (h0, .inr (0, [.int (nI N), .ref h1, .ref h2, .ref h3, .ref h4, .ref h5, .ref h6])), (h1, .inl (E 0, 15, .inl hm_4)), (h2, .inl (E 0, 15, .inl aw_5)), (h3, .inl (E 0, 30, .inl rv_6)), (h4, .inl (E 0, 30, .inl sd_7)), (h5, .inl (E 0, 30, .inl gm_8)), (h6, .inl (E 0, 36, .inl ca))]) (ws' := [(g0, .inr (2, [.ref h0, .ref g1, .ref g2, .ref g3, .ref g4, .int (nI sk), .ref g5, .ref g6, .ref g7])), (h0, .inr (0, [.int (nI N), .ref h1, .ref h2, .ref h3, .ref h4, .ref h5, .ref h6])), (h1, .inl (E 0, 15, .inl hm_4)), (h2, .inl (E 0, 15, .inl aw_5)), (h3, .inl (E 0, 30, .inl rv_6)), (h4, .inl (E 0, 30, .inl sd_7)), (h5, .inl (E 0, 30, .inl gm_8)), (h6, .inl (E 0, 36, .inl ca)), (g1, .inl (E 0, 6, .inl xs)), (g2, .inl (E 0, 6, .inl ys)), (g3, .inl (E 1, 30, .inl bz)), (g4, .inl (E 0, 4, .inl rt))]) hP hD [0, 1, 2, 3, 4, 5, 6, 7] [8, 9, 10, 11] [4, 5, 6, 7, 8, 9, 10, 11, 0, 1, 2, 3] rfl rfl (by decide +kernel) (by decide +kernel) hAc hk1 hP1 hD1 (by decide +kernel) rfl
  clear hP1 hD1 hk1 hPc hDc hAc
  have hp1 := hw_2
  refine lv_aload_n hx hb dX3_costIf_7 rfl (lv_at hl 0 rfl) ?_
  have hPc := hP.sub (ws' := [(g0, .inr (2, [.ref h0, .ref g1, .ref g2, .ref g3, .ref g4, .int (nI sk), .ref g5, .ref g6, .ref g7])), (h0, .inr (0, [.int (nI N), .ref h1, .ref h2, .ref h3, .ref h4, .ref h5, .ref h6])), (h1, .inl (E 0, 15, .inl hm_4)), (h2, .inl (E 0, 15, .inl aw_5)), (h3, .inl (E 0, 30, .inl rv_6)), (h4, .inl (E 0, 30, .inl sd_7)), (h5, .inl (E 0, 30, .inl gm_8)), (h6, .inl (E 0, 36, .inl ca)), (g1, .inl (E 0, 6, .inl xs)), (g2, .inl (E 0, 6, .inl ys)), (g3, .inl (E 1, 30, .inl bz)), (g4, .inl (E 0, 4, .inl rt))]) [0, 1, 2, 3, 4, 5, 6, 7, 8, 9, 10, 11] rfl
  have hDc := hD.sub (ws' := [(g0, .inr (2, [.ref h0, .ref g1, .ref g2, .ref g3, .ref g4, .int (nI sk), .ref g5, .ref g6, .ref g7])), (h0, .inr (0, [.int (nI N), .ref h1, .ref h2, .ref h3, .ref h4, .ref h5, .ref h6])), (h1, .inl (E 0, 15, .inl hm_4)), (h2, .inl (E 0, 15, .inl aw_5)), (h3, .inl (E 0, 30, .inl rv_6)), (h4, .inl (E 0, 30, .inl sd_7)), (h5, .inl (E 0, 30, .inl gm_8)), (h6, .inl (E 0, 36, .inl ca)), (g1, .inl (E 0, 6, .inl xs)), (g2, .inl (E 0, 6, .inl ys)), (g3, .inl (E 1, 30, .inl bz)), (g4, .inl (E 0, 4, .inl rt))]) [0, 1, 2, 3, 4, 5, 6, 7, 8, 9, 10, 11] (by decide +kernel) rfl
  have hAc := zw_AA (wc := [(g0, .inr (2, [.ref h0, .ref g1, .ref g2, .ref g3, .ref g4, .int (nI sk), .ref g5, .ref g6, .ref g7])), (h0, .inr (0, [.int (nI N), .ref h1, .ref h2, .ref h3, .ref h4, .ref h5, .ref h6])), (h1, .inl (E 0, 15, .inl hm_4)), (h2, .inl (E 0, 15, .inl aw_5)), (h3, .inl (E 0, 30, .inl rv_6)), (h4, .inl (E 0, 30, .inl sd_7)), (h5, .inl (E 0, 30, .inl gm_8)), (h6, .inl (E 0, 36, .inl ca)), (g1, .inl (E 0, 6, .inl xs)), (g2, .inl (E 0, 6, .inl ys)), (g3, .inl (E 1, 30, .inl bz)), (g4, .inl (E 0, 4, .inl rt))]) hD [0, 1, 2, 3, 4, 5, 6, 7, 8, 9, 10, 11] rfl
  refine zw_cf hAc hS (va_runV (As := []) (rest := []) ⟨hx, hb, hml, hown, hts⟩ (c_X3_fullCost l D E g0 g1 g2 g3 g4 g5 g6 g7 sk h0 h1 h2 h3 h4 h5 h6 N hm_4 aw_5 rv_6 sd_7 gm_8 ca (zm_tuG G a b) (zm_tuP P a b) xs ys X Y bz B rt R (hp1) (hgr) (hbz) (hrt)) (cwV 0 hts gX3_costIf_X3_fullCost rfl rfl rfl (by decide +kernel) ⟨Nat.le_of_ble_eq_true rfl, Nat.le_of_ble_eq_true rfl⟩) (zw_V hK hPc hDc (ci := 2) (q0 := 0) rfl rfl) rfl rfl hl.1 rfl (lv_room (Nat.le_of_ble_eq_true rfl)) dX3_costIf_8 ⟨Nat.zero_le _, Nat.zero_le _⟩) (fun r_9 u_11 H locs hw_10 hP1 hD1 hk1 hS => ?_)
  obtain ⟨ca_12, rfl⟩ : ∃ z, z = u_11 := ⟨_, rfl⟩
  try dsimp only at hw_10 hP1 hD1
  obtain ⟨hP, hD⟩ := zw_join (wr := []) (w1 := [(g0, .inr (2, [.ref h0, .ref g1, .ref g2, .ref g3, .ref g4, .int (nI sk), .ref g5, .ref g6, .ref g7])), (h0, .inr (0, [.int (nI N), .ref h1, .ref h2, .ref h3, .ref h4, .ref h5, .ref h6])), (h1, .inl (E 0, 15, .inl hm_4)), (h2, .inl (E 0, 15, .inl aw_5)), (h3, .inl (E 0, 30, .inl rv_6)), (h4, .inl (E 0, 30, .inl sd_7)), (h5, .inl (E 0, 30, .inl gm_8)), (h6, .inl (E 0, 36, .inl ca_12)), (g1, .inl (E 0, 6, .inl xs)), (g2, .inl (E 0, 6, .inl ys)), (g3, .inl (E 1, 30, .inl bz)), (g4, .inl (E 0, 4, .inl rt))]) (ws' := [(g0, .inr (2, [.ref h0, .ref g1, .ref g2, .ref g3, .ref g4, .int (nI sk), .ref g5, .ref g6, .ref g7])), (h0, .inr (0, [.int (nI N), .ref h1, .ref h2, .ref h3, .ref h4, .ref h5, .ref h6])), (h1, .inl (E 0, 15, .inl hm_4)), (h2, .inl (E 0, 15, .inl aw_5)), (h3, .inl (E 0, 30, .inl rv_6)), (h4, .inl (E 0, 30, .inl sd_7)), (h5, .inl (E 0, 30, .inl gm_8)), (h6, .inl (E 0, 36, .inl ca_12)), (g1, .inl (E 0, 6, .inl xs)), (g2, .inl (E 0, 6, .inl ys)), (g3, .inl (E 1, 30, .inl bz)), (g4, .inl (E 0, 4, .inl rt))]) hP hD [0, 1, 2, 3, 4, 5, 6, 7, 8, 9, 10, 11] [] [0, 1, 2, 3, 4, 5, 6, 7, 8, 9, 10, 11] rfl rfl (by decide +kernel) (by decide +kernel) hAc hk1 hP1 hD1 (by decide +kernel) rfl
  clear hP1 hD1 hk1 hPc hDc hAc
  obtain ⟨rfl, hw_10⟩ := hw_10
  refine lv_fstore (lv' := [(4, .float (zf_cost R (zm_brs N (zm_tuP P a b)) (zm_vio N (zm_tuG G a b) B) (zm_car N (zm_tuG G a b) (zm_tuP P a b)) (zm_amiles N (zm_tuG G a b) (zm_tuP P a b) X Y))), (0, .ref g0), (1, .int (nI 1)), (2, .int (nI a)), (3, .int (nI b))]) hx hb dX3_costIf_11 hl (by decide) rfl (fun ls hl => ?_)
  refine lv_aload_n hx hb dX3_costIf_13 rfl (lv_at hl 1 rfl) ?_
  refine lv_iload_n hx hb dX3_costIf_14 rfl (lv_at hl 2 rfl) ?_
  refine lv_iload_n hx hb dX3_costIf_15 rfl (lv_at hl 3 rfl) ?_
  refine lv_iload_n hx hb dX3_costIf_16 rfl (lv_at hl 4 rfl) ?_
  have hPc := hP.sub (ws' := [(g0, .inr (2, [.ref h0, .ref g1, .ref g2, .ref g3, .ref g4, .int (nI sk), .ref g5, .ref g6, .ref g7])), (h0, .inr (0, [.int (nI N), .ref h1, .ref h2, .ref h3, .ref h4, .ref h5, .ref h6])), (h1, .inl (E 0, 15, .inl hm_4)), (h2, .inl (E 0, 15, .inl aw_5)), (h3, .inl (E 0, 30, .inl rv_6)), (h4, .inl (E 0, 30, .inl sd_7)), (h5, .inl (E 0, 30, .inl gm_8)), (h6, .inl (E 0, 36, .inl ca_12))]) [0, 1, 2, 3, 4, 5, 6, 7] rfl
  have hDc := hD.sub (ws' := [(g0, .inr (2, [.ref h0, .ref g1, .ref g2, .ref g3, .ref g4, .int (nI sk), .ref g5, .ref g6, .ref g7])), (h0, .inr (0, [.int (nI N), .ref h1, .ref h2, .ref h3, .ref h4, .ref h5, .ref h6])), (h1, .inl (E 0, 15, .inl hm_4)), (h2, .inl (E 0, 15, .inl aw_5)), (h3, .inl (E 0, 30, .inl rv_6)), (h4, .inl (E 0, 30, .inl sd_7)), (h5, .inl (E 0, 30, .inl gm_8)), (h6, .inl (E 0, 36, .inl ca_12))]) [0, 1, 2, 3, 4, 5, 6, 7] (by decide +kernel) rfl
  have hAc := zw_AA (wc := [(g0, .inr (2, [.ref h0, .ref g1, .ref g2, .ref g3, .ref g4, .int (nI sk), .ref g5, .ref g6, .ref g7])), (h0, .inr (0, [.int (nI N), .ref h1, .ref h2, .ref h3, .ref h4, .ref h5, .ref h6])), (h1, .inl (E 0, 15, .inl hm_4)), (h2, .inl (E 0, 15, .inl aw_5)), (h3, .inl (E 0, 30, .inl rv_6)), (h4, .inl (E 0, 30, .inl sd_7)), (h5, .inl (E 0, 30, .inl gm_8)), (h6, .inl (E 0, 36, .inl ca_12))]) hD [0, 1, 2, 3, 4, 5, 6, 7] rfl
  refine zw_cv hAc hS (va_runV (As := [.int (nI 1), .int (nI a), .int (nI b)]) (rest := []) ⟨hx, hb, hml, hown, hts⟩ (c_X3_change_1 l D E g0 g1 g2 g3 g4 g5 g6 g7 sk h0 h1 h2 h3 h4 h5 h6 N hm_4 aw_5 rv_6 sd_7 gm_8 ca_12 (zm_tuG G a b) (zm_tuP P a b) a b (hp1) (ha0) (hb0)) (cwV 3 hts gX3_costIf_X3_change rfl rfl rfl (by decide +kernel) ⟨Nat.le_of_ble_eq_true rfl, Nat.le_of_ble_eq_true rfl⟩) (zw_V hK hPc hDc (ci := 2) (q0 := 0) rfl rfl) rfl rfl hl.1 rfl (lv_room (Nat.le_of_ble_eq_true rfl)) dX3_costIf_17 ⟨Nat.zero_le _, Nat.zero_le _⟩) (fun u_15 H locs hw_14 hP1 hD1 hk1 hS => ?_)
  obtain ⟨hm_16, aw_17, rv_18, sd_19, gm_20⟩ := u_15
  try dsimp only at hw_14 hP1 hD1
  obtain ⟨hP, hD⟩ := zw_join (wr := [(g1, .inl (E 0, 6, .inl xs)), (g2, .inl (E 0, 6, .inl ys)), (g3, .inl (E 1, 30, .inl bz)), (g4, .inl (E 0, 4, .inl rt))]) (w1 := [(g0, .inr (2, [.ref h0, .ref g1, .ref g2, .ref g3, .ref g4, .int (nI sk), .ref g5, .ref g6, .ref g7])), (h0, .inr (0, [.int (nI N), .ref h1, .ref h2, .ref h3, .ref h4, .ref h5, .ref h6])), (h1, .inl (E 0, 15, .inl hm_16)), (h2, .inl (E 0, 15, .inl aw_17)), (h3, .inl (E 0, 30, .inl rv_18)), (h4, .inl (E 0, 30, .inl sd_19)), (h5, .inl (E 0, 30, .inl gm_20)), (h6, .inl (E 0, 36, .inl ca_12))]) (ws' := [(g0, .inr (2, [.ref h0, .ref g1, .ref g2, .ref g3, .ref g4, .int (nI sk), .ref g5, .ref g6, .ref g7])), (h0, .inr (0, [.int (nI N), .ref h1, .ref h2, .ref h3, .ref h4, .ref h5, .ref h6])), (h1, .inl (E 0, 15, .inl hm_16)), (h2, .inl (E 0, 15, .inl aw_17)), (h3, .inl (E 0, 30, .inl rv_18)), (h4, .inl (E 0, 30, .inl sd_19)), (h5, .inl (E 0, 30, .inl gm_20)), (h6, .inl (E 0, 36, .inl ca_12)), (g1, .inl (E 0, 6, .inl xs)), (g2, .inl (E 0, 6, .inl ys)), (g3, .inl (E 1, 30, .inl bz)), (g4, .inl (E 0, 4, .inl rt))]) hP hD [0, 1, 2, 3, 4, 5, 6, 7] [8, 9, 10, 11] [4, 5, 6, 7, 8, 9, 10, 11, 0, 1, 2, 3] rfl rfl (by decide +kernel) (by decide +kernel) hAc hk1 hP1 hD1 (by decide +kernel) rfl
  clear hP1 hD1 hk1 hPc hDc hAc
  have hp2 := zm_pl_eq hw_14 (zm_tu_tuG _ _ _) (zm_tu_tuP _ _ _)
  refine lv_fload hx hb dX3_costIf_20 (lv_at hl 0 rfl) ?_
  subst hQ; subst hAe
  exact W.fret (v := zf_cost R (zm_brs N (zm_tuP P a b)) (zm_vio N (zm_tuG G a b) B) (zm_car N (zm_tuG G a b) (zm_tuP P a b)) (zm_amiles N (zm_tuG G a b) (zm_tuP P a b) X Y)) hx hb hr (fun tz htz hWz => ⟨⟨zf_cost R (zm_brs N (zm_tuP P a b)) (zm_vio N (zm_tuG G a b) B) (zm_car N (zm_tuG G a b) (zm_tuP P a b)) (zm_amiles N (zm_tuG G a b) (zm_tuP P a b) X Y), (hm_16, aw_17, rv_18, sd_19, gm_20, ca_12), rfl, ⟨rfl, hp2⟩, by rw [htz]; exact hP, hD⟩, hS.F htz⟩) hS.2.2 dX3_costIf_22

set_option maxHeartbeats 4000000 in
set_option maxRecDepth 100000 in
theorem c_X3_costIf_2 (l : Launch) (D : va_G) (E : Nat → ClassId) (g0 : Nat) (g1 : Nat) (g2 : Nat) (g3 : Nat) (g4 : Nat) (g5 : Nat) (g6 : Nat) (g7 : Nat) (sk : Nat) (h0 : Nat) (h1 : Nat) (h2 : Nat) (h3 : Nat) (h4 : Nat) (h5 : Nat) (h6 : Nat) (N : Nat) (hm : Nat → Int32) (aw : Nat → Int32) (rv : Nat → Int32) (sd : Nat → Int32) (gm : Nat → Int32) (ca : Nat → Int32) (G : Nat → Nat → Nat) (P : Nat → Nat → Nat) (xs : Nat → Int32) (ys : Nat → Int32) (X : Nat → Nat) (Y : Nat → Nat) (bz : Nat → Int32) (B : Nat → Nat → Nat) (rt : Nat → Int32) (R : Nat → Nat) (a : Nat) (b : Nat) (hpl : zm_pl N G P hm aw rv sd gm) (hgr : zm_gr X Y xs ys) (hbz : zm_bz B bz) (hrt : zm_rt R rt) (ha0 : a < N) (hb0 : b < N) : Met l yX3_costIf wsX3_costIf ({ frames := 5, cells := 0, slots := 0, locals := 113 }) (zw_P D E [.ref g0, .int (nI 2), .int (nI a), .int (nI b)] [(g0, .inr (2, [.ref h0, .ref g1, .ref g2, .ref g3, .ref g4, .int (nI sk), .ref g5, .ref g6, .ref g7])), (h0, .inr (0, [.int (nI N), .ref h1, .ref h2, .ref h3, .ref h4, .ref h5, .ref h6])), (h1, .inl (E 0, 15, .inl hm)), (h2, .inl (E 0, 15, .inl aw)), (h3, .inl (E 0, 30, .inl rv)), (h4, .inl (E 0, 30, .inl sd)), (h5, .inl (E 0, 30, .inl gm)), (h6, .inl (E 0, 36, .inl ca)), (g1, .inl (E 0, 6, .inl xs)), (g2, .inl (E 0, 6, .inl ys)), (g3, .inl (E 1, 30, .inl bz)), (g4, .inl (E 0, 4, .inl rt))]) (zw_Qf D [(g0, .inr (2, [.ref h0, .ref g1, .ref g2, .ref g3, .ref g4, .int (nI sk), .ref g5, .ref g6, .ref g7])), (h0, .inr (0, [.int (nI N), .ref h1, .ref h2, .ref h3, .ref h4, .ref h5, .ref h6])), (h1, .inl (E 0, 15, .inl hm)), (h2, .inl (E 0, 15, .inl aw)), (h3, .inl (E 0, 30, .inl rv)), (h4, .inl (E 0, 30, .inl sd)), (h5, .inl (E 0, 30, .inl gm)), (h6, .inl (E 0, 36, .inl ca)), (g1, .inl (E 0, 6, .inl xs)), (g2, .inl (E 0, 6, .inl ys)), (g3, .inl (E 1, 30, .inl bz)), (g4, .inl (E 0, 4, .inl rt))] (fun zv (u : (Nat → Int32) × (Nat → Int32) × (Nat → Int32) × (Nat → Int32) × (Nat → Int32) × (Nat → Int32)) => zv = zm_cost R B X Y N (zm_exG G a b) (zm_exP P a b) ∧ zm_pl N G P u.1 u.2.1 u.2.2.1 u.2.2.2.1 u.2.2.2.2.1) (fun (u : (Nat → Int32) × (Nat → Int32) × (Nat → Int32) × (Nat → Int32) × (Nat → Int32) × (Nat → Int32)) => [(g0, .inr (2, [.ref h0, .ref g1, .ref g2, .ref g3, .ref g4, .int (nI sk), .ref g5, .ref g6, .ref g7])), (h0, .inr (0, [.int (nI N), .ref h1, .ref h2, .ref h3, .ref h4, .ref h5, .ref h6])), (h1, .inl (E 0, 15, .inl u.1)), (h2, .inl (E 0, 15, .inl u.2.1)), (h3, .inl (E 0, 30, .inl u.2.2.1)), (h4, .inl (E 0, 30, .inl u.2.2.2.1)), (h5, .inl (E 0, 30, .inl u.2.2.2.2.1)), (h6, .inl (E 0, 36, .inl u.2.2.2.2.2)), (g1, .inl (E 0, 6, .inl xs)), (g2, .inl (E 0, 6, .inl ys)), (g3, .inl (E 1, 30, .inl bz)), (g4, .inl (E 0, 4, .inl rt))])) 0 0 (zw_A [(g0, .inr (2, [.ref h0, .ref g1, .ref g2, .ref g3, .ref g4, .int (nI sk), .ref g5, .ref g6, .ref g7])), (h0, .inr (0, [.int (nI N), .ref h1, .ref h2, .ref h3, .ref h4, .ref h5, .ref h6])), (h1, .inl (E 0, 15, .inl hm)), (h2, .inl (E 0, 15, .inl aw)), (h3, .inl (E 0, 30, .inl rv)), (h4, .inl (E 0, 30, .inl sd)), (h5, .inl (E 0, 30, .inl gm)), (h6, .inl (E 0, 36, .inl ca)), (g1, .inl (E 0, 6, .inl xs)), (g2, .inl (E 0, 6, .inl ys)), (g3, .inl (E 1, 30, .inl bz)), (g4, .inl (E 0, 4, .inl rt))]) := by
  refine Met.ofW (cc := cX3_costIf) (maxL := 5) (ret := (some .float)) (by decide) rfl ?_
  intro p e s m args below meth c s₁ Bz hml hv
  obtain ⟨rfl, hP, hK, hD0⟩ := hv
  have hx := Bz.exec
  have hb := Bz.bytes
  have hr := Bz.returns
  have hts := atoms_spec (ws := wsX3_costIf) Bz.pre
  have hown : s.vm.findClass RX3 = some m.cls := findClass_of_methodNamed Bz.named
  have hlocks := Bz.notSynchronized
  have hP : va_P D vwCl [(g0, .inr (2, [.ref h0, .ref g1, .ref g2, .ref g3, .ref g4, .int (nI sk), .ref g5, .ref g6, .ref g7])), (h0, .inr (0, [.int (nI N), .ref h1, .ref h2, .ref h3, .ref h4, .ref h5, .ref h6])), (h1, .inl (E 0, 15, .inl hm)), (h2, .inl (E 0, 15, .inl aw)), (h3, .inl (E 0, 30, .inl rv)), (h4, .inl (E 0, 30, .inl sd)), (h5, .inl (E 0, 30, .inl gm)), (h6, .inl (E 0, 36, .inl ca)), (g1, .inl (E 0, 6, .inl xs)), (g2, .inl (E 0, 6, .inl ys)), (g3, .inl (E 1, 30, .inl bz)), (g4, .inl (E 0, 4, .inl rt))] s.heap := hP
  obtain ⟨A, hAe⟩ : ∃ A : Nat → Prop, A = zw_A [(g0, .inr (2, [.ref h0, .ref g1, .ref g2, .ref g3, .ref g4, .int (nI sk), .ref g5, .ref g6, .ref g7])), (h0, .inr (0, [.int (nI N), .ref h1, .ref h2, .ref h3, .ref h4, .ref h5, .ref h6])), (h1, .inl (E 0, 15, .inl hm)), (h2, .inl (E 0, 15, .inl aw)), (h3, .inl (E 0, 30, .inl rv)), (h4, .inl (E 0, 30, .inl sd)), (h5, .inl (E 0, 30, .inl gm)), (h6, .inl (E 0, 36, .inl ca)), (g1, .inl (E 0, 6, .inl xs)), (g2, .inl (E 0, 6, .inl ys)), (g3, .inl (E 1, 30, .inl bz)), (g4, .inl (E 0, 4, .inl rt))] := ⟨_, rfl⟩
  have hD : va_D A [(g0, .inr (2, [.ref h0, .ref g1, .ref g2, .ref g3, .ref g4, .int (nI sk), .ref g5, .ref g6, .ref g7])), (h0, .inr (0, [.int (nI N), .ref h1, .ref h2, .ref h3, .ref h4, .ref h5, .ref h6])), (h1, .inl (E 0, 15, .inl hm)), (h2, .inl (E 0, 15, .inl aw)), (h3, .inl (E 0, 30, .inl rv)), (h4, .inl (E 0, 30, .inl sd)), (h5, .inl (E 0, 30, .inl gm)), (h6, .inl (E 0, 36, .inl ca)), (g1, .inl (E 0, 6, .inl xs)), (g2, .inl (E 0, 6, .inl ys)), (g3, .inl (E 1, 30, .inl bz)), (g4, .inl (E 0, 4, .inl rt))] := hAe ▸ zw_own hD0
  have hS : va_S A s.heap s.heap [] := va_S.rf
  have hl := lv_entry ([.ref g0, .int (nI 2), .int (nI a), .int (nI b)]) (n := 5) (Nat.le_of_ble_eq_true rfl)
  rw [lg_entry_eq]
  generalize (lg_sl ([.ref g0, .int (nI 2), .int (nI a), .int (nI b)]) ++ List.replicate (5 - (lg_sl ([.ref g0, .int (nI 2), .int (nI a), .int (nI b)])).length) Slot.unset).toArray = ls at hl ⊢
  have hl : lv_has ls 5 [(0, .ref g0), (1, .int (nI 2)), (2, .int (nI a)), (3, .int (nI b))] := hl
  refine zr_nQ (fun Q hQ => ?_)
  have hN := hpl.1.1
  have hok := hpl.1
  refine lv_aload_n hx hb dX3_costIf_0 rfl (lv_at hl 0 rfl) ?_
  refine lv_iload_n hx hb dX3_costIf_1 rfl (lv_at hl 1 rfl) ?_
  refine lv_iload_n hx hb dX3_costIf_2 rfl (lv_at hl 2 rfl) ?_
  refine lv_iload_n hx hb dX3_costIf_3 rfl (lv_at hl 3 rfl) ?_
  have hPc := hP.sub (ws' := [(g0, .inr (2, [.ref h0, .ref g1, .ref g2, .ref g3, .ref g4, .int (nI sk), .ref g5, .ref g6, .ref g7])), (h0, .inr (0, [.int (nI N), .ref h1, .ref h2, .ref h3, .ref h4, .ref h5, .ref h6])), (h1, .inl (E 0, 15, .inl hm)), (h2, .inl (E 0, 15, .inl aw)), (h3, .inl (E 0, 30, .inl rv)), (h4, .inl (E 0, 30, .inl sd)), (h5, .inl (E 0, 30, .inl gm)), (h6, .inl (E 0, 36, .inl ca))]) [0, 1, 2, 3, 4, 5, 6, 7] rfl
  have hDc := hD.sub (ws' := [(g0, .inr (2, [.ref h0, .ref g1, .ref g2, .ref g3, .ref g4, .int (nI sk), .ref g5, .ref g6, .ref g7])), (h0, .inr (0, [.int (nI N), .ref h1, .ref h2, .ref h3, .ref h4, .ref h5, .ref h6])), (h1, .inl (E 0, 15, .inl hm)), (h2, .inl (E 0, 15, .inl aw)), (h3, .inl (E 0, 30, .inl rv)), (h4, .inl (E 0, 30, .inl sd)), (h5, .inl (E 0, 30, .inl gm)), (h6, .inl (E 0, 36, .inl ca))]) [0, 1, 2, 3, 4, 5, 6, 7] (by decide +kernel) rfl
  have hAc := zw_AA (wc := [(g0, .inr (2, [.ref h0, .ref g1, .ref g2, .ref g3, .ref g4, .int (nI sk), .ref g5, .ref g6, .ref g7])), (h0, .inr (0, [.int (nI N), .ref h1, .ref h2, .ref h3, .ref h4, .ref h5, .ref h6])), (h1, .inl (E 0, 15, .inl hm)), (h2, .inl (E 0, 15, .inl aw)), (h3, .inl (E 0, 30, .inl rv)), (h4, .inl (E 0, 30, .inl sd)), (h5, .inl (E 0, 30, .inl gm)), (h6, .inl (E 0, 36, .inl ca))]) hD [0, 1, 2, 3, 4, 5, 6, 7] rfl
  refine zw_cv hAc hS (va_runV (As := [.int (nI 2), .int (nI a), .int (nI b)]) (rest := []) ⟨hx, hb, hml, hown, hts⟩ (c_X3_change_2 l D E g0 g1 g2 g3 g4 g5 g6 g7 sk h0 h1 h2 h3 h4 h5 h6 N hm aw rv sd gm ca G P a b (hpl) (ha0) (hb0)) (cwV 3 hts gX3_costIf_X3_change rfl rfl rfl (by decide +kernel) ⟨Nat.le_of_ble_eq_true rfl, Nat.le_of_ble_eq_true rfl⟩) (zw_V hK hPc hDc (ci := 2) (q0 := 0) rfl rfl) rfl rfl hl.1 rfl (lv_room (Nat.le_of_ble_eq_true rfl)) dX3_costIf_4 ⟨Nat.zero_le _, Nat.zero_le _⟩) (fun u_3 H locs hw_2 hP1 hD1 hk1 hS => ?_)
  obtain ⟨hm_4, aw_5, rv_6, sd_7, gm_8⟩ := u_3
  try dsimp only at hw_2 hP1 hD1
  obtain ⟨hP, hD⟩ := zw_join (wr := [(g1, .inl (E 0, 6, .inl xs)), (g2, .inl (E 0, 6, .inl ys)), (g3, .inl (E 1, 30, .inl bz)), (g4, .inl (E 0, 4, .inl rt))]) (w1 := [(g0, .inr (2, [.ref h0, .ref g1, .ref g2, .ref g3, .ref g4, .int (nI sk), .ref g5, .ref g6, .ref g7])), (h0, .inr (0, [.int (nI N), .ref h1, .ref h2, .ref h3, .ref h4, .ref h5, .ref h6])), (h1, .inl (E 0, 15, .inl hm_4)), (h2, .inl (E 0, 15, .inl aw_5)), (h3, .inl (E 0, 30, .inl rv_6)), (h4, .inl (E 0, 30, .inl sd_7)), (h5, .inl (E 0, 30, .inl gm_8)), (h6, .inl (E 0, 36, .inl ca))]) (ws' := [(g0, .inr (2, [.ref h0, .ref g1, .ref g2, .ref g3, .ref g4, .int (nI sk), .ref g5, .ref g6, .ref g7])), (h0, .inr (0, [.int (nI N), .ref h1, .ref h2, .ref h3, .ref h4, .ref h5, .ref h6])), (h1, .inl (E 0, 15, .inl hm_4)), (h2, .inl (E 0, 15, .inl aw_5)), (h3, .inl (E 0, 30, .inl rv_6)), (h4, .inl (E 0, 30, .inl sd_7)), (h5, .inl (E 0, 30, .inl gm_8)), (h6, .inl (E 0, 36, .inl ca)), (g1, .inl (E 0, 6, .inl xs)), (g2, .inl (E 0, 6, .inl ys)), (g3, .inl (E 1, 30, .inl bz)), (g4, .inl (E 0, 4, .inl rt))]) hP hD [0, 1, 2, 3, 4, 5, 6, 7] [8, 9, 10, 11] [4, 5, 6, 7, 8, 9, 10, 11, 0, 1, 2, 3] rfl rfl (by decide +kernel) (by decide +kernel) hAc hk1 hP1 hD1 (by decide +kernel) rfl
  clear hP1 hD1 hk1 hPc hDc hAc
  have hp1 := hw_2
  refine lv_aload_n hx hb dX3_costIf_7 rfl (lv_at hl 0 rfl) ?_
  have hPc := hP.sub (ws' := [(g0, .inr (2, [.ref h0, .ref g1, .ref g2, .ref g3, .ref g4, .int (nI sk), .ref g5, .ref g6, .ref g7])), (h0, .inr (0, [.int (nI N), .ref h1, .ref h2, .ref h3, .ref h4, .ref h5, .ref h6])), (h1, .inl (E 0, 15, .inl hm_4)), (h2, .inl (E 0, 15, .inl aw_5)), (h3, .inl (E 0, 30, .inl rv_6)), (h4, .inl (E 0, 30, .inl sd_7)), (h5, .inl (E 0, 30, .inl gm_8)), (h6, .inl (E 0, 36, .inl ca)), (g1, .inl (E 0, 6, .inl xs)), (g2, .inl (E 0, 6, .inl ys)), (g3, .inl (E 1, 30, .inl bz)), (g4, .inl (E 0, 4, .inl rt))]) [0, 1, 2, 3, 4, 5, 6, 7, 8, 9, 10, 11] rfl
  have hDc := hD.sub (ws' := [(g0, .inr (2, [.ref h0, .ref g1, .ref g2, .ref g3, .ref g4, .int (nI sk), .ref g5, .ref g6, .ref g7])), (h0, .inr (0, [.int (nI N), .ref h1, .ref h2, .ref h3, .ref h4, .ref h5, .ref h6])), (h1, .inl (E 0, 15, .inl hm_4)), (h2, .inl (E 0, 15, .inl aw_5)), (h3, .inl (E 0, 30, .inl rv_6)), (h4, .inl (E 0, 30, .inl sd_7)), (h5, .inl (E 0, 30, .inl gm_8)), (h6, .inl (E 0, 36, .inl ca)), (g1, .inl (E 0, 6, .inl xs)), (g2, .inl (E 0, 6, .inl ys)), (g3, .inl (E 1, 30, .inl bz)), (g4, .inl (E 0, 4, .inl rt))]) [0, 1, 2, 3, 4, 5, 6, 7, 8, 9, 10, 11] (by decide +kernel) rfl
  have hAc := zw_AA (wc := [(g0, .inr (2, [.ref h0, .ref g1, .ref g2, .ref g3, .ref g4, .int (nI sk), .ref g5, .ref g6, .ref g7])), (h0, .inr (0, [.int (nI N), .ref h1, .ref h2, .ref h3, .ref h4, .ref h5, .ref h6])), (h1, .inl (E 0, 15, .inl hm_4)), (h2, .inl (E 0, 15, .inl aw_5)), (h3, .inl (E 0, 30, .inl rv_6)), (h4, .inl (E 0, 30, .inl sd_7)), (h5, .inl (E 0, 30, .inl gm_8)), (h6, .inl (E 0, 36, .inl ca)), (g1, .inl (E 0, 6, .inl xs)), (g2, .inl (E 0, 6, .inl ys)), (g3, .inl (E 1, 30, .inl bz)), (g4, .inl (E 0, 4, .inl rt))]) hD [0, 1, 2, 3, 4, 5, 6, 7, 8, 9, 10, 11] rfl
  refine zw_cf hAc hS (va_runV (As := []) (rest := []) ⟨hx, hb, hml, hown, hts⟩ (c_X3_fullCost l D E g0 g1 g2 g3 g4 g5 g6 g7 sk h0 h1 h2 h3 h4 h5 h6 N hm_4 aw_5 rv_6 sd_7 gm_8 ca (zm_exG G a b) (zm_exP P a b) xs ys X Y bz B rt R (hp1) (hgr) (hbz) (hrt)) (cwV 0 hts gX3_costIf_X3_fullCost rfl rfl rfl (by decide +kernel) ⟨Nat.le_of_ble_eq_true rfl, Nat.le_of_ble_eq_true rfl⟩) (zw_V hK hPc hDc (ci := 2) (q0 := 0) rfl rfl) rfl rfl hl.1 rfl (lv_room (Nat.le_of_ble_eq_true rfl)) dX3_costIf_8 ⟨Nat.zero_le _, Nat.zero_le _⟩) (fun r_9 u_11 H locs hw_10 hP1 hD1 hk1 hS => ?_)
  obtain ⟨ca_12, rfl⟩ : ∃ z, z = u_11 := ⟨_, rfl⟩
  try dsimp only at hw_10 hP1 hD1
  obtain ⟨hP, hD⟩ := zw_join (wr := []) (w1 := [(g0, .inr (2, [.ref h0, .ref g1, .ref g2, .ref g3, .ref g4, .int (nI sk), .ref g5, .ref g6, .ref g7])), (h0, .inr (0, [.int (nI N), .ref h1, .ref h2, .ref h3, .ref h4, .ref h5, .ref h6])), (h1, .inl (E 0, 15, .inl hm_4)), (h2, .inl (E 0, 15, .inl aw_5)), (h3, .inl (E 0, 30, .inl rv_6)), (h4, .inl (E 0, 30, .inl sd_7)), (h5, .inl (E 0, 30, .inl gm_8)), (h6, .inl (E 0, 36, .inl ca_12)), (g1, .inl (E 0, 6, .inl xs)), (g2, .inl (E 0, 6, .inl ys)), (g3, .inl (E 1, 30, .inl bz)), (g4, .inl (E 0, 4, .inl rt))]) (ws' := [(g0, .inr (2, [.ref h0, .ref g1, .ref g2, .ref g3, .ref g4, .int (nI sk), .ref g5, .ref g6, .ref g7])), (h0, .inr (0, [.int (nI N), .ref h1, .ref h2, .ref h3, .ref h4, .ref h5, .ref h6])), (h1, .inl (E 0, 15, .inl hm_4)), (h2, .inl (E 0, 15, .inl aw_5)), (h3, .inl (E 0, 30, .inl rv_6)), (h4, .inl (E 0, 30, .inl sd_7)), (h5, .inl (E 0, 30, .inl gm_8)), (h6, .inl (E 0, 36, .inl ca_12)), (g1, .inl (E 0, 6, .inl xs)), (g2, .inl (E 0, 6, .inl ys)), (g3, .inl (E 1, 30, .inl bz)), (g4, .inl (E 0, 4, .inl rt))]) hP hD [0, 1, 2, 3, 4, 5, 6, 7, 8, 9, 10, 11] [] [0, 1, 2, 3, 4, 5, 6, 7, 8, 9, 10, 11] rfl rfl (by decide +kernel) (by decide +kernel) hAc hk1 hP1 hD1 (by decide +kernel) rfl
  clear hP1 hD1 hk1 hPc hDc hAc
  obtain ⟨rfl, hw_10⟩ := hw_10
  refine lv_fstore (lv' := [(4, .float (zf_cost R (zm_brs N (zm_exP P a b)) (zm_vio N (zm_exG G a b) B) (zm_car N (zm_exG G a b) (zm_exP P a b)) (zm_amiles N (zm_exG G a b) (zm_exP P a b) X Y))), (0, .ref g0), (1, .int (nI 2)), (2, .int (nI a)), (3, .int (nI b))]) hx hb dX3_costIf_11 hl (by decide) rfl (fun ls hl => ?_)
  refine lv_aload_n hx hb dX3_costIf_13 rfl (lv_at hl 1 rfl) ?_
  refine lv_iload_n hx hb dX3_costIf_14 rfl (lv_at hl 2 rfl) ?_
  refine lv_iload_n hx hb dX3_costIf_15 rfl (lv_at hl 3 rfl) ?_
  refine lv_iload_n hx hb dX3_costIf_16 rfl (lv_at hl 4 rfl) ?_
  have hPc := hP.sub (ws' := [(g0, .inr (2, [.ref h0, .ref g1, .ref g2, .ref g3, .ref g4, .int (nI sk), .ref g5, .ref g6, .ref g7])), (h0, .inr (0, [.int (nI N), .ref h1, .ref h2, .ref h3, .ref h4, .ref h5, .ref h6])), (h1, .inl (E 0, 15, .inl hm_4)), (h2, .inl (E 0, 15, .inl aw_5)), (h3, .inl (E 0, 30, .inl rv_6)), (h4, .inl (E 0, 30, .inl sd_7)), (h5, .inl (E 0, 30, .inl gm_8)), (h6, .inl (E 0, 36, .inl ca_12))]) [0, 1, 2, 3, 4, 5, 6, 7] rfl
  have hDc := hD.sub (ws' := [(g0, .inr (2, [.ref h0, .ref g1, .ref g2, .ref g3, .ref g4, .int (nI sk), .ref g5, .ref g6, .ref g7])), (h0, .inr (0, [.int (nI N), .ref h1, .ref h2, .ref h3, .ref h4, .ref h5, .ref h6])), (h1, .inl (E 0, 15, .inl hm_4)), (h2, .inl (E 0, 15, .inl aw_5)), (h3, .inl (E 0, 30, .inl rv_6)), (h4, .inl (E 0, 30, .inl sd_7)), (h5, .inl (E 0, 30, .inl gm_8)), (h6, .inl (E 0, 36, .inl ca_12))]) [0, 1, 2, 3, 4, 5, 6, 7] (by decide +kernel) rfl
  have hAc := zw_AA (wc := [(g0, .inr (2, [.ref h0, .ref g1, .ref g2, .ref g3, .ref g4, .int (nI sk), .ref g5, .ref g6, .ref g7])), (h0, .inr (0, [.int (nI N), .ref h1, .ref h2, .ref h3, .ref h4, .ref h5, .ref h6])), (h1, .inl (E 0, 15, .inl hm_4)), (h2, .inl (E 0, 15, .inl aw_5)), (h3, .inl (E 0, 30, .inl rv_6)), (h4, .inl (E 0, 30, .inl sd_7)), (h5, .inl (E 0, 30, .inl gm_8)), (h6, .inl (E 0, 36, .inl ca_12))]) hD [0, 1, 2, 3, 4, 5, 6, 7] rfl
  refine zw_cv hAc hS (va_runV (As := [.int (nI 2), .int (nI a), .int (nI b)]) (rest := []) ⟨hx, hb, hml, hown, hts⟩ (c_X3_change_2 l D E g0 g1 g2 g3 g4 g5 g6 g7 sk h0 h1 h2 h3 h4 h5 h6 N hm_4 aw_5 rv_6 sd_7 gm_8 ca_12 (zm_exG G a b) (zm_exP P a b) a b (hp1) (ha0) (hb0)) (cwV 3 hts gX3_costIf_X3_change rfl rfl rfl (by decide +kernel) ⟨Nat.le_of_ble_eq_true rfl, Nat.le_of_ble_eq_true rfl⟩) (zw_V hK hPc hDc (ci := 2) (q0 := 0) rfl rfl) rfl rfl hl.1 rfl (lv_room (Nat.le_of_ble_eq_true rfl)) dX3_costIf_17 ⟨Nat.zero_le _, Nat.zero_le _⟩) (fun u_15 H locs hw_14 hP1 hD1 hk1 hS => ?_)
  obtain ⟨hm_16, aw_17, rv_18, sd_19, gm_20⟩ := u_15
  try dsimp only at hw_14 hP1 hD1
  obtain ⟨hP, hD⟩ := zw_join (wr := [(g1, .inl (E 0, 6, .inl xs)), (g2, .inl (E 0, 6, .inl ys)), (g3, .inl (E 1, 30, .inl bz)), (g4, .inl (E 0, 4, .inl rt))]) (w1 := [(g0, .inr (2, [.ref h0, .ref g1, .ref g2, .ref g3, .ref g4, .int (nI sk), .ref g5, .ref g6, .ref g7])), (h0, .inr (0, [.int (nI N), .ref h1, .ref h2, .ref h3, .ref h4, .ref h5, .ref h6])), (h1, .inl (E 0, 15, .inl hm_16)), (h2, .inl (E 0, 15, .inl aw_17)), (h3, .inl (E 0, 30, .inl rv_18)), (h4, .inl (E 0, 30, .inl sd_19)), (h5, .inl (E 0, 30, .inl gm_20)), (h6, .inl (E 0, 36, .inl ca_12))]) (ws' := [(g0, .inr (2, [.ref h0, .ref g1, .ref g2, .ref g3, .ref g4, .int (nI sk), .ref g5, .ref g6, .ref g7])), (h0, .inr (0, [.int (nI N), .ref h1, .ref h2, .ref h3, .ref h4, .ref h5, .ref h6])), (h1, .inl (E 0, 15, .inl hm_16)), (h2, .inl (E 0, 15, .inl aw_17)), (h3, .inl (E 0, 30, .inl rv_18)), (h4, .inl (E 0, 30, .inl sd_19)), (h5, .inl (E 0, 30, .inl gm_20)), (h6, .inl (E 0, 36, .inl ca_12)), (g1, .inl (E 0, 6, .inl xs)), (g2, .inl (E 0, 6, .inl ys)), (g3, .inl (E 1, 30, .inl bz)), (g4, .inl (E 0, 4, .inl rt))]) hP hD [0, 1, 2, 3, 4, 5, 6, 7] [8, 9, 10, 11] [4, 5, 6, 7, 8, 9, 10, 11, 0, 1, 2, 3] rfl rfl (by decide +kernel) (by decide +kernel) hAc hk1 hP1 hD1 (by decide +kernel) rfl
  clear hP1 hD1 hk1 hPc hDc hAc
  have hp2 := zm_pl_eq hw_14 (zm_ex_exG _ _ _) (zm_ex_exP _ _ _)
  refine lv_fload hx hb dX3_costIf_20 (lv_at hl 0 rfl) ?_
  subst hQ; subst hAe
  exact W.fret (v := zf_cost R (zm_brs N (zm_exP P a b)) (zm_vio N (zm_exG G a b) B) (zm_car N (zm_exG G a b) (zm_exP P a b)) (zm_amiles N (zm_exG G a b) (zm_exP P a b) X Y)) hx hb hr (fun tz htz hWz => ⟨⟨zf_cost R (zm_brs N (zm_exP P a b)) (zm_vio N (zm_exG G a b) B) (zm_car N (zm_exG G a b) (zm_exP P a b)) (zm_amiles N (zm_exG G a b) (zm_exP P a b) X Y), (hm_16, aw_17, rv_18, sd_19, gm_20, ca_12), rfl, ⟨rfl, hp2⟩, by rw [htz]; exact hP, hD⟩, hS.F htz⟩) hS.2.2 dX3_costIf_22

set_option maxHeartbeats 4000000 in
set_option maxRecDepth 100000 in
theorem c_X3_takeStep_0 (l : Launch) (D : va_G) (E : Nat → ClassId) (g0 : Nat) (g1 : Nat) (g2 : Nat) (g3 : Nat) (g4 : Nat) (g5 : Nat) (g6 : Nat) (g7 : Nat) (sk : Nat) (h0 : Nat) (h1 : Nat) (h2 : Nat) (h3 : Nat) (h4 : Nat) (h5 : Nat) (h6 : Nat) (N : Nat) (hm : Nat → Int32) (aw : Nat → Int32) (rv : Nat → Int32) (sd : Nat → Int32) (gm : Nat → Int32) (ca : Nat → Int32) (G : Nat → Nat → Nat) (P : Nat → Nat → Nat) (xs : Nat → Int32) (ys : Nat → Int32) (X : Nat → Nat) (Y : Nat → Nat) (bz : Nat → Int32) (B : Nat → Nat → Nat) (rt : Nat → Int32) (R : Nat → Nat) (hpl : zm_pl N G P hm aw rv sd gm) (hgr : zm_gr X Y xs ys) (hbz : zm_bz B bz) (hrt : zm_rt R rt) : Met l yX3_takeStep wsX3_takeStep ({ frames := 6, cells := 0, slots := 0, locals := 137 }) (zw_P D E [.ref g0, .int (nI 0)] [(g0, .inr (2, [.ref h0, .ref g1, .ref g2, .ref g3, .ref g4, .int (nI sk), .ref g5, .ref g6, .ref g7])), (h0, .inr (0, [.int (nI N), .ref h1, .ref h2, .ref h3, .ref h4, .ref h5, .ref h6])), (h1, .inl (E 0, 15, .inl hm)), (h2, .inl (E 0, 15, .inl aw)), (h3, .inl (E 0, 30, .inl rv)), (h4, .inl (E 0, 30, .inl sd)), (h5, .inl (E 0, 30, .inl gm)), (h6, .inl (E 0, 36, .inl ca)), (g1, .inl (E 0, 6, .inl xs)), (g2, .inl (E 0, 6, .inl ys)), (g3, .inl (E 1, 30, .inl bz)), (g4, .inl (E 0, 4, .inl rt))]) (zw_Qi D [(g0, .inr (2, [.ref h0, .ref g1, .ref g2, .ref g3, .ref g4, .int (nI sk), .ref g5, .ref g6, .ref g7])), (h0, .inr (0, [.int (nI N), .ref h1, .ref h2, .ref h3, .ref h4, .ref h5, .ref h6])), (h1, .inl (E 0, 15, .inl hm)), (h2, .inl (E 0, 15, .inl aw)), (h3, .inl (E 0, 30, .inl rv)), (h4, .inl (E 0, 30, .inl sd)), (h5, .inl (E 0, 30, .inl gm)), (h6, .inl (E 0, 36, .inl ca)), (g1, .inl (E 0, 6, .inl xs)), (g2, .inl (E 0, 6, .inl ys)), (g3, .inl (E 1, 30, .inl bz)), (g4, .inl (E 0, 4, .inl rt))] (fun zv (u : (Nat → Int32) × (Nat → Int32) × (Nat → Int32) × (Nat → Int32) × (Nat → Int32) × (Nat → Int32)) => zm_stepR 0 R B X Y N G P zv (fun G P => zm_pl N G P u.1 u.2.1 u.2.2.1 u.2.2.2.1 u.2.2.2.2.1)) (fun (u : (Nat → Int32) × (Nat → Int32) × (Nat → Int32) × (Nat → Int32) × (Nat → Int32) × (Nat → Int32)) => [(g0, .inr (2, [.ref h0, .ref g1, .ref g2, .ref g3, .ref g4, .int (nI sk), .ref g5, .ref g6, .ref g7])), (h0, .inr (0, [.int (nI N), .ref h1, .ref h2, .ref h3, .ref h4, .ref h5, .ref h6])), (h1, .inl (E 0, 15, .inl u.1)), (h2, .inl (E 0, 15, .inl u.2.1)), (h3, .inl (E 0, 30, .inl u.2.2.1)), (h4, .inl (E 0, 30, .inl u.2.2.2.1)), (h5, .inl (E 0, 30, .inl u.2.2.2.2.1)), (h6, .inl (E 0, 36, .inl u.2.2.2.2.2)), (g1, .inl (E 0, 6, .inl xs)), (g2, .inl (E 0, 6, .inl ys)), (g3, .inl (E 1, 30, .inl bz)), (g4, .inl (E 0, 4, .inl rt))])) 0 0 (zw_A [(g0, .inr (2, [.ref h0, .ref g1, .ref g2, .ref g3, .ref g4, .int (nI sk), .ref g5, .ref g6, .ref g7])), (h0, .inr (0, [.int (nI N), .ref h1, .ref h2, .ref h3, .ref h4, .ref h5, .ref h6])), (h1, .inl (E 0, 15, .inl hm)), (h2, .inl (E 0, 15, .inl aw)), (h3, .inl (E 0, 30, .inl rv)), (h4, .inl (E 0, 30, .inl sd)), (h5, .inl (E 0, 30, .inl gm)), (h6, .inl (E 0, 36, .inl ca)), (g1, .inl (E 0, 6, .inl xs)), (g2, .inl (E 0, 6, .inl ys)), (g3, .inl (E 1, 30, .inl bz)), (g4, .inl (E 0, 4, .inl rt))]) := by
  refine Met.ofW (cc := cX3_takeStep) (maxL := 12) (ret := (some .boolean)) (by decide) rfl ?_
  intro p e s m args below meth c s₁ Bz hml hv
  obtain ⟨rfl, hP, hK, hD0⟩ := hv
  have hx := Bz.exec
  have hb := Bz.bytes
  have hr := Bz.returns
  have hts := atoms_spec (ws := wsX3_takeStep) Bz.pre
  have hown : s.vm.findClass RX3 = some m.cls := findClass_of_methodNamed Bz.named
  have hlocks := Bz.notSynchronized
  have hP : va_P D vwCl [(g0, .inr (2, [.ref h0, .ref g1, .ref g2, .ref g3, .ref g4, .int (nI sk), .ref g5, .ref g6, .ref g7])), (h0, .inr (0, [.int (nI N), .ref h1, .ref h2, .ref h3, .ref h4, .ref h5, .ref h6])), (h1, .inl (E 0, 15, .inl hm)), (h2, .inl (E 0, 15, .inl aw)), (h3, .inl (E 0, 30, .inl rv)), (h4, .inl (E 0, 30, .inl sd)), (h5, .inl (E 0, 30, .inl gm)), (h6, .inl (E 0, 36, .inl ca)), (g1, .inl (E 0, 6, .inl xs)), (g2, .inl (E 0, 6, .inl ys)), (g3, .inl (E 1, 30, .inl bz)), (g4, .inl (E 0, 4, .inl rt))] s.heap := hP
  obtain ⟨A, hAe⟩ : ∃ A : Nat → Prop, A = zw_A [(g0, .inr (2, [.ref h0, .ref g1, .ref g2, .ref g3, .ref g4, .int (nI sk), .ref g5, .ref g6, .ref g7])), (h0, .inr (0, [.int (nI N), .ref h1, .ref h2, .ref h3, .ref h4, .ref h5, .ref h6])), (h1, .inl (E 0, 15, .inl hm)), (h2, .inl (E 0, 15, .inl aw)), (h3, .inl (E 0, 30, .inl rv)), (h4, .inl (E 0, 30, .inl sd)), (h5, .inl (E 0, 30, .inl gm)), (h6, .inl (E 0, 36, .inl ca)), (g1, .inl (E 0, 6, .inl xs)), (g2, .inl (E 0, 6, .inl ys)), (g3, .inl (E 1, 30, .inl bz)), (g4, .inl (E 0, 4, .inl rt))] := ⟨_, rfl⟩
  have hD : va_D A [(g0, .inr (2, [.ref h0, .ref g1, .ref g2, .ref g3, .ref g4, .int (nI sk), .ref g5, .ref g6, .ref g7])), (h0, .inr (0, [.int (nI N), .ref h1, .ref h2, .ref h3, .ref h4, .ref h5, .ref h6])), (h1, .inl (E 0, 15, .inl hm)), (h2, .inl (E 0, 15, .inl aw)), (h3, .inl (E 0, 30, .inl rv)), (h4, .inl (E 0, 30, .inl sd)), (h5, .inl (E 0, 30, .inl gm)), (h6, .inl (E 0, 36, .inl ca)), (g1, .inl (E 0, 6, .inl xs)), (g2, .inl (E 0, 6, .inl ys)), (g3, .inl (E 1, 30, .inl bz)), (g4, .inl (E 0, 4, .inl rt))] := hAe ▸ zw_own hD0
  have hS : va_S A s.heap s.heap [] := va_S.rf
  have hl := lv_entry ([.ref g0, .int (nI 0)]) (n := 12) (Nat.le_of_ble_eq_true rfl)
  rw [lg_entry_eq]
  generalize (lg_sl ([.ref g0, .int (nI 0)]) ++ List.replicate (12 - (lg_sl ([.ref g0, .int (nI 0)])).length) Slot.unset).toArray = ls at hl ⊢
  have hl : lv_has ls 12 [(0, .ref g0), (1, .int (nI 0))] := hl
  refine zr_nQ (fun Q hQ => ?_)
  have hN := hpl.1.1
  have hok := hpl.1
  have hRR : ∀ k, k < 4 → R k ≤ 99 := fun k hk => (hrt k hk).1
  refine lv_aload_n hx hb dX3_takeStep_0 rfl (lv_at hl 0 rfl) ?_
  have hPc := hP.sub (ws' := [(g0, .inr (2, [.ref h0, .ref g1, .ref g2, .ref g3, .ref g4, .int (nI sk), .ref g5, .ref g6, .ref g7])), (h0, .inr (0, [.int (nI N), .ref h1, .ref h2, .ref h3, .ref h4, .ref h5, .ref h6])), (h1, .inl (E 0, 15, .inl hm)), (h2, .inl (E 0, 15, .inl aw)), (h3, .inl (E 0, 30, .inl rv)), (h4, .inl (E 0, 30, .inl sd)), (h5, .inl (E 0, 30, .inl gm)), (h6, .inl (E 0, 36, .inl ca)), (g1, .inl (E 0, 6, .inl xs)), (g2, .inl (E 0, 6, .inl ys)), (g3, .inl (E 1, 30, .inl bz)), (g4, .inl (E 0, 4, .inl rt))]) [0, 1, 2, 3, 4, 5, 6, 7, 8, 9, 10, 11] rfl
  have hDc := hD.sub (ws' := [(g0, .inr (2, [.ref h0, .ref g1, .ref g2, .ref g3, .ref g4, .int (nI sk), .ref g5, .ref g6, .ref g7])), (h0, .inr (0, [.int (nI N), .ref h1, .ref h2, .ref h3, .ref h4, .ref h5, .ref h6])), (h1, .inl (E 0, 15, .inl hm)), (h2, .inl (E 0, 15, .inl aw)), (h3, .inl (E 0, 30, .inl rv)), (h4, .inl (E 0, 30, .inl sd)), (h5, .inl (E 0, 30, .inl gm)), (h6, .inl (E 0, 36, .inl ca)), (g1, .inl (E 0, 6, .inl xs)), (g2, .inl (E 0, 6, .inl ys)), (g3, .inl (E 1, 30, .inl bz)), (g4, .inl (E 0, 4, .inl rt))]) [0, 1, 2, 3, 4, 5, 6, 7, 8, 9, 10, 11] (by decide +kernel) rfl
  have hAc := zw_AA (wc := [(g0, .inr (2, [.ref h0, .ref g1, .ref g2, .ref g3, .ref g4, .int (nI sk), .ref g5, .ref g6, .ref g7])), (h0, .inr (0, [.int (nI N), .ref h1, .ref h2, .ref h3, .ref h4, .ref h5, .ref h6])), (h1, .inl (E 0, 15, .inl hm)), (h2, .inl (E 0, 15, .inl aw)), (h3, .inl (E 0, 30, .inl rv)), (h4, .inl (E 0, 30, .inl sd)), (h5, .inl (E 0, 30, .inl gm)), (h6, .inl (E 0, 36, .inl ca)), (g1, .inl (E 0, 6, .inl xs)), (g2, .inl (E 0, 6, .inl ys)), (g3, .inl (E 1, 30, .inl bz)), (g4, .inl (E 0, 4, .inl rt))]) hD [0, 1, 2, 3, 4, 5, 6, 7, 8, 9, 10, 11] rfl
  refine zw_cf hAc hS (va_runV (As := []) (rest := []) ⟨hx, hb, hml, hown, hts⟩ (c_X3_fullCost l D E g0 g1 g2 g3 g4 g5 g6 g7 sk h0 h1 h2 h3 h4 h5 h6 N hm aw rv sd gm ca G P xs ys X Y bz B rt R (hpl) (hgr) (hbz) (hrt)) (cwV 0 hts gX3_takeStep_X3_fullCost rfl rfl rfl (by decide +kernel) ⟨Nat.le_of_ble_eq_true rfl, Nat.le_of_ble_eq_true rfl⟩) (zw_V hK hPc hDc (ci := 2) (q0 := 0) rfl rfl) rfl rfl hl.1 rfl (lv_room (Nat.le_of_ble_eq_true rfl)) dX3_takeStep_1 ⟨Nat.zero_le _, Nat.zero_le _⟩) (fun r_1 u_3 H locs hw_2 hP1 hD1 hk1 hS => ?_)
  obtain ⟨ca_4, rfl⟩ : ∃ z, z = u_3 := ⟨_, rfl⟩
  try dsimp only at hw_2 hP1 hD1
  obtain ⟨hP, hD⟩ := zw_join (wr := []) (w1 := [(g0, .inr (2, [.ref h0, .ref g1, .ref g2, .ref g3, .ref g4, .int (nI sk), .ref g5, .ref g6, .ref g7])), (h0, .inr (0, [.int (nI N), .ref h1, .ref h2, .ref h3, .ref h4, .ref h5, .ref h6])), (h1, .inl (E 0, 15, .inl hm)), (h2, .inl (E 0, 15, .inl aw)), (h3, .inl (E 0, 30, .inl rv)), (h4, .inl (E 0, 30, .inl sd)), (h5, .inl (E 0, 30, .inl gm)), (h6, .inl (E 0, 36, .inl ca_4)), (g1, .inl (E 0, 6, .inl xs)), (g2, .inl (E 0, 6, .inl ys)), (g3, .inl (E 1, 30, .inl bz)), (g4, .inl (E 0, 4, .inl rt))]) (ws' := [(g0, .inr (2, [.ref h0, .ref g1, .ref g2, .ref g3, .ref g4, .int (nI sk), .ref g5, .ref g6, .ref g7])), (h0, .inr (0, [.int (nI N), .ref h1, .ref h2, .ref h3, .ref h4, .ref h5, .ref h6])), (h1, .inl (E 0, 15, .inl hm)), (h2, .inl (E 0, 15, .inl aw)), (h3, .inl (E 0, 30, .inl rv)), (h4, .inl (E 0, 30, .inl sd)), (h5, .inl (E 0, 30, .inl gm)), (h6, .inl (E 0, 36, .inl ca_4)), (g1, .inl (E 0, 6, .inl xs)), (g2, .inl (E 0, 6, .inl ys)), (g3, .inl (E 1, 30, .inl bz)), (g4, .inl (E 0, 4, .inl rt))]) hP hD [0, 1, 2, 3, 4, 5, 6, 7, 8, 9, 10, 11] [] [0, 1, 2, 3, 4, 5, 6, 7, 8, 9, 10, 11] rfl rfl (by decide +kernel) (by decide +kernel) hAc hk1 hP1 hD1 (by decide +kernel) rfl
  clear hP1 hD1 hk1 hPc hDc hAc
  obtain ⟨rfl, hw_2⟩ := hw_2
  refine lv_fstore_n (lv' := [(2, .float (zf_cost R (zm_brs N P) (zm_vio N G B) (zm_car N G P) (zm_amiles N G P X Y))), (0, .ref g0), (1, .int (nI 0))]) hx hb dX3_takeStep_4 rfl hl (by decide) rfl (fun ls hl => ?_)
  refine lv_iconst (v := (-1)) hx hb dX3_takeStep_5 (by rfl) ?_
  refine lv_istore_n (lv' := [(3, .int (-1)), (2, .float (zf_cost R (zm_brs N P) (zm_vio N G B) (zm_car N G P) (zm_amiles N G P X Y))), (0, .ref g0), (1, .int (nI 0))]) hx hb dX3_takeStep_6 rfl hl (by decide) rfl (fun ls hl => ?_)
  refine lv_iconst (v := (-1)) hx hb dX3_takeStep_7 (by rfl) ?_
  refine lv_istore (lv' := [(4, .int (-1)), (3, .int (-1)), (2, .float (zf_cost R (zm_brs N P) (zm_vio N G B) (zm_car N G P) (zm_amiles N G P X Y))), (0, .ref g0), (1, .int (nI 0))]) hx hb dX3_takeStep_8 hl (by decide) rfl (fun ls hl => ?_)
  refine lv_iload_n hx hb dX3_takeStep_10 rfl (lv_at hl 4 rfl) ?_
  refine lv_iconst (v := nI 2) hx hb dX3_takeStep_11 (by rfl) ?_
  refine lv_icmp_ne (tgt := 25) hx hb dX3_takeStep_12 (by decide) (fun cn_5 => ?_) (fun cn_5 => ?_)
  · skip
    refine lv_aload_n hx hb dX3_takeStep_25 rfl (lv_at hl 3 rfl) ?_
    refine va_get (D := D) (ci := 2) (v := .ref h0) (C := RX3) (T := TX3) (N := 9) hx hb hts (by decide +kernel) hown hK.1 hP 0 rfl rfl 0 (by decide) (hts (.fieldLink RX3 12 "HomeRounds$Setting" "plan" "LHomeRounds$Plan;") (by decide +kernel)) (fun _ h9 => h9) rfl dX3_takeStep_26 ?_
    refine va_get (D := D) (ci := 0) (v := .int (nI N)) (C := RX1) (T := TX1) (N := 7) hx hb hts (by decide +kernel) hown hK.1 hP 1 rfl rfl 0 (by decide) (hts (.fieldLink RX3 105 "HomeRounds$Plan" "n" "I") (by decide +kernel)) (fun _ h9 => h9) rfl dX3_takeStep_29 ?_
    refine lv_iconst (v := nI 1) hx hb dX3_takeStep_32 (by rfl) ?_
    refine lv_isub hx hb dX3_takeStep_33 ?_
    refine zr_ti (y := nI (N - 1)) (pk_sub (by omega)) ?_
    refine lv_istore (lv' := [(5, .int (nI (N - 1))), (4, .int (-1)), (3, .int (-1)), (2, .float (zf_cost R (zm_brs N P) (zm_vio N G B) (zm_car N G P) (zm_amiles N G P X Y))), (0, .ref g0), (1, .int (nI 0))]) hx hb dX3_takeStep_34 hl (by decide) rfl (fun ls hl => ?_)
    refine lv_aload_n hx hb dX3_takeStep_36 rfl (lv_at hl 4 rfl) ?_
    refine va_get (D := D) (ci := 2) (v := .ref h0) (C := RX3) (T := TX3) (N := 9) hx hb hts (by decide +kernel) hown hK.1 hP 0 rfl rfl 0 (by decide) (hts (.fieldLink RX3 12 "HomeRounds$Setting" "plan" "LHomeRounds$Plan;") (by decide +kernel)) (fun _ h9 => h9) rfl dX3_takeStep_37 ?_
    refine va_get (D := D) (ci := 0) (v := .int (nI N)) (C := RX1) (T := TX1) (N := 7) hx hb hts (by decide +kernel) hown hK.1 hP 1 rfl rfl 0 (by decide) (hts (.fieldLink RX3 105 "HomeRounds$Plan" "n" "I") (by decide +kernel)) (fun _ h9 => h9) rfl dX3_takeStep_40 ?_
    refine lv_iconst (v := nI 2) hx hb dX3_takeStep_43 (by rfl) ?_
    refine lv_idiv hx hb dX3_takeStep_44 (by decide) ?_
    refine zr_ti (y := nI (N / 2)) (pk_div (by omega) (by omega) (by omega)) ?_
    refine lv_istore (lv' := [(6, .int (nI (N / 2))), (5, .int (nI (N - 1))), (4, .int (-1)), (3, .int (-1)), (2, .float (zf_cost R (zm_brs N P) (zm_vio N G B) (zm_car N G P) (zm_amiles N G P X Y))), (0, .ref g0), (1, .int (nI 0))]) hx hb dX3_takeStep_45 hl (by decide) rfl (fun ls hl => ?_)
    refine lv_iconst (v := nI 0) hx hb dX3_takeStep_47 (by rfl) ?_
    refine lv_istore (lv' := [(7, .int (nI 0)), (6, .int (nI (N / 2))), (5, .int (nI (N - 1))), (4, .int (-1)), (3, .int (-1)), (2, .float (zf_cost R (zm_brs N P) (zm_vio N G B) (zm_car N G P) (zm_amiles N G P X Y))), (0, .ref g0), (1, .int (nI 0))]) hx hb dX3_takeStep_48 hl (by decide) rfl (fun ls hl => ?_)
    suffices KL50 : ∀ (kz : Nat) (a : Nat) (lz : UInt32) (ba : Int32) (bb : Int32) (hmv : Nat → Int32) (awv : Nat → Int32) (rvv : Nat → Int32) (sdv : Nat → Int32) (gmv : Nat → Int32) (cav : Nat → Int32) (H : Heap) (locs : List Loc) (ls : Array Slot), (N - 1 - a) < kz → (zm_best 0 R B X Y N G P = zb_out (fun a b => zm_cost R B X Y N (zm_opG 0 G a b) (zm_opP 0 P a b)) (zm_first 0) (fun _ => zm_last 0 N) (N - 1 - a) a (lz, ba, bb)) → (zm_val 0 N ba bb) → (zm_pl N G P hmv awv rvv sdv gmv) → (a ≤ N - 1) → va_P D vwCl [(g0, .inr (2, [.ref h0, .ref g1, .ref g2, .ref g3, .ref g4, .int (nI sk), .ref g5, .ref g6, .ref g7])), (h0, .inr (0, [.int (nI N), .ref h1, .ref h2, .ref h3, .ref h4, .ref h5, .ref h6])), (h1, .inl (E 0, 15, .inl hmv)), (h2, .inl (E 0, 15, .inl awv)), (h3, .inl (E 0, 30, .inl rvv)), (h4, .inl (E 0, 30, .inl sdv)), (h5, .inl (E 0, 30, .inl gmv)), (h6, .inl (E 0, 36, .inl cav)), (g1, .inl (E 0, 6, .inl xs)), (g2, .inl (E 0, 6, .inl ys)), (g3, .inl (E 1, 30, .inl bz)), (g4, .inl (E 0, 4, .inl rt))] H → va_D A [(g0, .inr (2, [.ref h0, .ref g1, .ref g2, .ref g3, .ref g4, .int (nI sk), .ref g5, .ref g6, .ref g7])), (h0, .inr (0, [.int (nI N), .ref h1, .ref h2, .ref h3, .ref h4, .ref h5, .ref h6])), (h1, .inl (E 0, 15, .inl hmv)), (h2, .inl (E 0, 15, .inl awv)), (h3, .inl (E 0, 30, .inl rvv)), (h4, .inl (E 0, 30, .inl sdv)), (h5, .inl (E 0, 30, .inl gmv)), (h6, .inl (E 0, 36, .inl cav)), (g1, .inl (E 0, 6, .inl xs)), (g2, .inl (E 0, 6, .inl ys)), (g3, .inl (E 1, 30, .inl bz)), (g4, .inl (E 0, 4, .inl rt))] → va_S A s.heap H locs → lv_has ls 12 [(0, .ref g0), (1, .int (nI 0)), (2, .float lz), (3, .int ba), (4, .int bb), (5, .int (nI (N - 1))), (6, .int (nI (N / 2))), (7, .int (nI a))] → W p l e (headSpec wsX3_takeStep ({ frames := 6, cells := 0, slots := 0, locals := 137 })).room s m ([.ref g0, .int (nI 0)] : List Value).toArray below meth c H locs 0 0 Q (F0 m 50 ls []) from
      KL50 _ 0 (zf_cost R (zm_brs N P) (zm_vio N G B) (zm_car N G P) (zm_amiles N G P X Y)) (-1) (-1) hm aw rv sd gm ca_4 _ _ ls (Nat.lt_succ_self _) (rfl) (Or.inl rfl) (hpl) (by omega) hP hD hS (lv_sub hl [6, 7, 5, 4, 3, 2, 1, 0] rfl)
    clear hP hS hl hD
    intro kz
    induction kz with
    | zero => intro a lz ba bb hmv awv rvv sdv gmv cav H locs ls hkz; exact absurd hkz (Nat.not_lt_zero _)
    | succ kz ih50 =>
      intro a lz ba bb hmv awv rvv sdv gmv cav H locs ls hkz hO hV hplv haE hP hD hS hl
      refine lv_iload hx hb dX3_takeStep_50 (lv_at hl 7 rfl) ?_
      refine lv_iload hx hb dX3_takeStep_52 (lv_at hl 5 rfl) ?_
      refine lv_icmp_ge (tgt := 137) hx hb dX3_takeStep_54 (by decide) (fun cn_6 => ?_) (fun cn_6 => ?_)
      · skip
        have cn_6 : N - 1 ≤ a := (nI_leI (a := N - 1) (b := a) (by omega) (by omega)).mp cn_6
        have haE2 : N - 1 ≤ a := by omega
        have hbest := hO.trans (zb_out_e haE2)
        refine lv_iload_n hx hb dX3_takeStep_137 rfl (lv_at hl 3 rfl) ?_
        refine lv_iconst (v := (-1)) hx hb dX3_takeStep_138 (by rfl) ?_
        refine lv_icmp_ne (tgt := 144) hx hb dX3_takeStep_139 (by decide) (fun cn_7 => ?_) (fun cn_7 => ?_)
        · skip
          have hsome := cn_7
          obtain ⟨a9, b9, rfl, rfl, ha9, hb9⟩ := Or.resolve_left hV hsome
          have ha9 : a9 < N - 1 := ha9
          have hb9 : b9 < N - 1 := hb9
          refine lv_aload_n hx hb dX3_takeStep_144 rfl (lv_at hl 0 rfl) ?_
          refine lv_iload_n hx hb dX3_takeStep_145 rfl (lv_at hl 1 rfl) ?_
          refine lv_iload_n hx hb dX3_takeStep_146 rfl (lv_at hl 3 rfl) ?_
          refine lv_iload hx hb dX3_takeStep_147 (lv_at hl 4 rfl) ?_
          have hPc := hP.sub (ws' := [(g0, .inr (2, [.ref h0, .ref g1, .ref g2, .ref g3, .ref g4, .int (nI sk), .ref g5, .ref g6, .ref g7])), (h0, .inr (0, [.int (nI N), .ref h1, .ref h2, .ref h3, .ref h4, .ref h5, .ref h6])), (h1, .inl (E 0, 15, .inl hmv)), (h2, .inl (E 0, 15, .inl awv)), (h3, .inl (E 0, 30, .inl rvv)), (h4, .inl (E 0, 30, .inl sdv)), (h5, .inl (E 0, 30, .inl gmv)), (h6, .inl (E 0, 36, .inl cav))]) [0, 1, 2, 3, 4, 5, 6, 7] rfl
          have hDc := hD.sub (ws' := [(g0, .inr (2, [.ref h0, .ref g1, .ref g2, .ref g3, .ref g4, .int (nI sk), .ref g5, .ref g6, .ref g7])), (h0, .inr (0, [.int (nI N), .ref h1, .ref h2, .ref h3, .ref h4, .ref h5, .ref h6])), (h1, .inl (E 0, 15, .inl hmv)), (h2, .inl (E 0, 15, .inl awv)), (h3, .inl (E 0, 30, .inl rvv)), (h4, .inl (E 0, 30, .inl sdv)), (h5, .inl (E 0, 30, .inl gmv)), (h6, .inl (E 0, 36, .inl cav))]) [0, 1, 2, 3, 4, 5, 6, 7] (by decide +kernel) rfl
          have hAc := zw_AA (wc := [(g0, .inr (2, [.ref h0, .ref g1, .ref g2, .ref g3, .ref g4, .int (nI sk), .ref g5, .ref g6, .ref g7])), (h0, .inr (0, [.int (nI N), .ref h1, .ref h2, .ref h3, .ref h4, .ref h5, .ref h6])), (h1, .inl (E 0, 15, .inl hmv)), (h2, .inl (E 0, 15, .inl awv)), (h3, .inl (E 0, 30, .inl rvv)), (h4, .inl (E 0, 30, .inl sdv)), (h5, .inl (E 0, 30, .inl gmv)), (h6, .inl (E 0, 36, .inl cav))]) hD [0, 1, 2, 3, 4, 5, 6, 7] rfl
          refine zw_cv hAc hS (va_runV (As := [.int (nI 0), .int (nI a9), .int (nI b9)]) (rest := []) ⟨hx, hb, hml, hown, hts⟩ (c_X3_change_0 l D E g0 g1 g2 g3 g4 g5 g6 g7 sk h0 h1 h2 h3 h4 h5 h6 N hmv awv rvv sdv gmv cav G P a9 b9 (hplv) (ha9) (hb9)) (cwV 3 hts gX3_takeStep_X3_change rfl rfl rfl (by decide +kernel) ⟨Nat.le_of_ble_eq_true rfl, Nat.le_of_ble_eq_true rfl⟩) (zw_V hK hPc hDc (ci := 2) (q0 := 0) rfl rfl) rfl rfl hl.1 rfl (lv_room (Nat.le_of_ble_eq_true rfl)) dX3_takeStep_149 ⟨Nat.zero_le _, Nat.zero_le _⟩) (fun u_10 H locs hw_9 hP1 hD1 hk1 hS => ?_)
          obtain ⟨hm_11, aw_12, rv_13, sd_14, gm_15⟩ := u_10
          try dsimp only at hw_9 hP1 hD1
          obtain ⟨hP, hD⟩ := zw_join (wr := [(g1, .inl (E 0, 6, .inl xs)), (g2, .inl (E 0, 6, .inl ys)), (g3, .inl (E 1, 30, .inl bz)), (g4, .inl (E 0, 4, .inl rt))]) (w1 := [(g0, .inr (2, [.ref h0, .ref g1, .ref g2, .ref g3, .ref g4, .int (nI sk), .ref g5, .ref g6, .ref g7])), (h0, .inr (0, [.int (nI N), .ref h1, .ref h2, .ref h3, .ref h4, .ref h5, .ref h6])), (h1, .inl (E 0, 15, .inl hm_11)), (h2, .inl (E 0, 15, .inl aw_12)), (h3, .inl (E 0, 30, .inl rv_13)), (h4, .inl (E 0, 30, .inl sd_14)), (h5, .inl (E 0, 30, .inl gm_15)), (h6, .inl (E 0, 36, .inl cav))]) (ws' := [(g0, .inr (2, [.ref h0, .ref g1, .ref g2, .ref g3, .ref g4, .int (nI sk), .ref g5, .ref g6, .ref g7])), (h0, .inr (0, [.int (nI N), .ref h1, .ref h2, .ref h3, .ref h4, .ref h5, .ref h6])), (h1, .inl (E 0, 15, .inl hm_11)), (h2, .inl (E 0, 15, .inl aw_12)), (h3, .inl (E 0, 30, .inl rv_13)), (h4, .inl (E 0, 30, .inl sd_14)), (h5, .inl (E 0, 30, .inl gm_15)), (h6, .inl (E 0, 36, .inl cav)), (g1, .inl (E 0, 6, .inl xs)), (g2, .inl (E 0, 6, .inl ys)), (g3, .inl (E 1, 30, .inl bz)), (g4, .inl (E 0, 4, .inl rt))]) hP hD [0, 1, 2, 3, 4, 5, 6, 7] [8, 9, 10, 11] [4, 5, 6, 7, 8, 9, 10, 11, 0, 1, 2, 3] rfl rfl (by decide +kernel) (by decide +kernel) hAc hk1 hP1 hD1 (by decide +kernel) rfl
          clear hP1 hD1 hk1 hPc hDc hAc
          have hpe := hw_9
          refine lv_iconst (v := nI 1) hx hb dX3_takeStep_152 (by rfl) ?_
          subst hQ; subst hAe
          exact W.zret (v := nI 1) hx hb hr (by decide) (fun tz htz hWz => ⟨⟨nI 1, (hm_11, aw_12, rv_13, sd_14, gm_15, cav), rfl, Or.inr ⟨a9, b9, zm_step_s (by omega) (by omega) hbest, rfl, hpe⟩, by rw [htz]; exact hP, hD⟩, hS.F htz⟩) hS.2.2 dX3_takeStep_153
        · skip
          have hnone := cn_7
          refine lv_iconst (v := nI 0) hx hb dX3_takeStep_142 (by rfl) ?_
          subst hQ; subst hAe
          exact W.zret (v := nI 0) hx hb hr (by decide) (fun tz htz hWz => ⟨⟨nI 0, (hmv, awv, rvv, sdv, gmv, cav), rfl, Or.inl ⟨zm_step_n (by rw [hbest, hnone]), rfl, hplv⟩, by rw [htz]; exact hP, hD⟩, hS.F htz⟩) hS.2.2 dX3_takeStep_143
      · skip
        have cn_6 : ¬ (N - 1 ≤ a) := fun hz => cn_6 ((nI_leI (a := N - 1) (b := a) (by omega) (by omega)).mpr hz)
        have haL : a < N - 1 := by omega
        refine lv_iload_n hx hb dX3_takeStep_57 rfl (lv_at hl 1 rfl) ?_
        refine lv_iconst (v := nI 1) hx hb dX3_takeStep_58 (by rfl) ?_
        refine lv_icmp_ne (tgt := 66) hx hb dX3_takeStep_59 (by decide) (fun cn_16 => ?_) (fun cn_16 => ?_)
        · skip
          refine lv_iload hx hb dX3_takeStep_66 (lv_at hl 7 rfl) ?_
          refine lv_iconst (v := nI 1) hx hb dX3_takeStep_68 (by rfl) ?_
          refine lv_iadd hx hb dX3_takeStep_69 ?_
          refine zr_ti (y := nI (a + 1)) (nI_add _ _) ?_
          refine lv_istore (lv' := [(8, .int (nI (a + 1))), (0, .ref g0), (1, .int (nI 0)), (2, .float lz), (3, .int ba), (4, .int bb), (5, .int (nI (N - 1))), (6, .int (nI (N / 2))), (7, .int (nI a))]) hx hb dX3_takeStep_70 hl (by decide) rfl (fun ls hl => ?_)
          refine lv_iload_n hx hb dX3_takeStep_72 rfl (lv_at hl 2 rfl) ?_
          refine lv_iconst (v := nI 1) hx hb dX3_takeStep_73 (by rfl) ?_
          refine lv_icmp_ne (tgt := 82) hx hb dX3_takeStep_74 (by decide) (fun cn_17 => ?_) (fun cn_17 => ?_)
          · skip
            refine lv_iload hx hb dX3_takeStep_82 (lv_at hl 6 rfl) ?_
            refine lv_istore (lv' := [(9, .int (nI (N - 1))), (8, .int (nI (a + 1))), (0, .ref g0), (1, .int (nI 0)), (2, .float lz), (3, .int ba), (4, .int bb), (5, .int (nI (N - 1))), (6, .int (nI (N / 2))), (7, .int (nI a))]) hx hb dX3_takeStep_84 hl (by decide) rfl (fun ls hl => ?_)
            refine lv_iload hx hb dX3_takeStep_86 (lv_at hl 1 rfl) ?_
            refine lv_istore (lv' := [(10, .int (nI (a + 1))), (9, .int (nI (N - 1))), (8, .int (nI (a + 1))), (0, .ref g0), (1, .int (nI 0)), (2, .float lz), (3, .int ba), (4, .int bb), (5, .int (nI (N - 1))), (6, .int (nI (N / 2))), (7, .int (nI a))]) hx hb dX3_takeStep_88 hl (by decide) rfl (fun ls hl => ?_)
            suffices KL90 : ∀ (kz : Nat) (b : Nat) (ly : UInt32) (bay : Int32) (bby : Int32) (hmy : Nat → Int32) (awy : Nat → Int32) (rvy : Nat → Int32) (sdy : Nat → Int32) (gmy : Nat → Int32) (cay : Nat → Int32) (H : Heap) (locs : List Loc) (ls : Array Slot), (10 - b) < kz → (zb_in ((fun a b => zm_cost R B X Y N (zm_opG 0 G a b) (zm_opP 0 P a b)) a) a ((fun _ => zm_last 0 N) a - zm_first 0 a) (zm_first 0 a) (lz, ba, bb) = zb_in ((fun a b => zm_cost R B X Y N (zm_opG 0 G a b) (zm_opP 0 P a b)) a) a ((N - 1) - b) b (ly, bay, bby)) → (zm_val 0 N bay bby) → (zm_pl N G P hmy awy rvy sdy gmy) → (b ≤ 6) → va_P D vwCl [(g0, .inr (2, [.ref h0, .ref g1, .ref g2, .ref g3, .ref g4, .int (nI sk), .ref g5, .ref g6, .ref g7])), (h0, .inr (0, [.int (nI N), .ref h1, .ref h2, .ref h3, .ref h4, .ref h5, .ref h6])), (h1, .inl (E 0, 15, .inl hmy)), (h2, .inl (E 0, 15, .inl awy)), (h3, .inl (E 0, 30, .inl rvy)), (h4, .inl (E 0, 30, .inl sdy)), (h5, .inl (E 0, 30, .inl gmy)), (h6, .inl (E 0, 36, .inl cay)), (g1, .inl (E 0, 6, .inl xs)), (g2, .inl (E 0, 6, .inl ys)), (g3, .inl (E 1, 30, .inl bz)), (g4, .inl (E 0, 4, .inl rt))] H → va_D A [(g0, .inr (2, [.ref h0, .ref g1, .ref g2, .ref g3, .ref g4, .int (nI sk), .ref g5, .ref g6, .ref g7])), (h0, .inr (0, [.int (nI N), .ref h1, .ref h2, .ref h3, .ref h4, .ref h5, .ref h6])), (h1, .inl (E 0, 15, .inl hmy)), (h2, .inl (E 0, 15, .inl awy)), (h3, .inl (E 0, 30, .inl rvy)), (h4, .inl (E 0, 30, .inl sdy)), (h5, .inl (E 0, 30, .inl gmy)), (h6, .inl (E 0, 36, .inl cay)), (g1, .inl (E 0, 6, .inl xs)), (g2, .inl (E 0, 6, .inl ys)), (g3, .inl (E 1, 30, .inl bz)), (g4, .inl (E 0, 4, .inl rt))] → va_S A s.heap H locs → lv_has ls 12 [(0, .ref g0), (1, .int (nI 0)), (2, .float ly), (3, .int bay), (4, .int bby), (5, .int (nI (N - 1))), (6, .int (nI (N / 2))), (7, .int (nI a)), (9, .int (nI (N - 1))), (10, .int (nI b))] → W p l e (headSpec wsX3_takeStep ({ frames := 6, cells := 0, slots := 0, locals := 137 })).room s m ([.ref g0, .int (nI 0)] : List Value).toArray below meth c H locs 0 0 Q (F0 m 90 ls []) from
              KL90 _ (a + 1) lz ba bb hmv awv rvv sdv gmv cav _ _ ls (Nat.lt_succ_self _) (rfl) (hV) (hplv) (by omega) hP hD hS (lv_sub hl [3, 4, 5, 6, 7, 8, 9, 10, 1, 0] rfl)
            clear hP hS hl hD
            intro kz
            induction kz with
            | zero => intro b ly bay bby hmy awy rvy sdy gmy cay H locs ls hkz; exact absurd hkz (Nat.not_lt_zero _)
            | succ kz ih90 =>
              intro b ly bay bby hmy awy rvy sdy gmy cay H locs ls hkz hI hV2 hply hb6 hP hD hS hl
              refine lv_iload hx hb dX3_takeStep_90 (lv_at hl 9 rfl) ?_
              refine lv_iload hx hb dX3_takeStep_92 (lv_at hl 8 rfl) ?_
              refine lv_icmp_ge (tgt := 131) hx hb dX3_takeStep_94 (by decide) (fun cn_18 => ?_) (fun cn_18 => ?_)
              · skip
                have cn_18 : N - 1 ≤ b := (nI_leI (a := N - 1) (b := b) (by omega) (by omega)).mp cn_18
                have hbE : N - 1 ≤ b := by omega
                refine lv_iinc (v := nI (a + 1)) (lv' := [(7, .int (nI (a + 1))), (0, .ref g0), (1, .int (nI 0)), (2, .float ly), (3, .int bay), (4, .int bby), (5, .int (nI (N - 1))), (6, .int (nI (N / 2))), (9, .int (nI (N - 1))), (10, .int (nI b))]) hx hb dX3_takeStep_131 hl (k := 7) rfl (nI_add _ _) (by decide) rfl (fun ls hl => ?_)
                refine lv_goto (tgt := 50) hx hb dX3_takeStep_134 (by decide) ?_
                have hl : lv_has ls 12 [(0, .ref g0), (1, .int (nI 0)), (2, .float ly), (3, .int bay), (4, .int bby), (5, .int (nI (N - 1))), (6, .int (nI (N / 2))), (7, .int (nI (a + 1)))] := lv_sub hl [1, 2, 3, 4, 5, 6, 7, 0] rfl
                exact ih50 (a + 1) ly bay bby hmy awy rvy sdy gmy cay H locs ls (by omega) (by rw [hO, zb_out_s haL]; exact congrArg (fun s => zb_out (fun a b => zm_cost R B X Y N (zm_opG 0 G a b) (zm_opP 0 P a b)) (zm_first 0) (fun _ => zm_last 0 N) (N - 1 - (a + 1)) (a + 1) s) (hI.trans (zb_in_e hbE))) (hV2) (hply) (by omega) hP hD hS hl
              · skip
                have cn_18 : ¬ (N - 1 ≤ b) := fun hz => cn_18 ((nI_leI (a := N - 1) (b := b) (by omega) (by omega)).mpr hz)
                have hbL : b < N - 1 := by omega
                refine lv_aload_n hx hb dX3_takeStep_97 rfl (lv_at hl 0 rfl) ?_
                refine lv_iload_n hx hb dX3_takeStep_98 rfl (lv_at hl 1 rfl) ?_
                refine lv_iload hx hb dX3_takeStep_99 (lv_at hl 7 rfl) ?_
                refine lv_iload hx hb dX3_takeStep_101 (lv_at hl 9 rfl) ?_
                have hPc := hP.sub (ws' := [(g0, .inr (2, [.ref h0, .ref g1, .ref g2, .ref g3, .ref g4, .int (nI sk), .ref g5, .ref g6, .ref g7])), (h0, .inr (0, [.int (nI N), .ref h1, .ref h2, .ref h3, .ref h4, .ref h5, .ref h6])), (h1, .inl (E 0, 15, .inl hmy)), (h2, .inl (E 0, 15, .inl awy)), (h3, .inl (E 0, 30, .inl rvy)), (h4, .inl (E 0, 30, .inl sdy)), (h5, .inl (E 0, 30, .inl gmy)), (h6, .inl (E 0, 36, .inl cay)), (g1, .inl (E 0, 6, .inl xs)), (g2, .inl (E 0, 6, .inl ys)), (g3, .inl (E 1, 30, .inl bz)), (g4, .inl (E 0, 4, .inl rt))]) [0, 1, 2, 3, 4, 5, 6, 7, 8, 9, 10, 11] rfl
                have hDc := hD.sub (ws' := [(g0, .inr (2, [.ref h0, .ref g1, .ref g2, .ref g3, .ref g4, .int (nI sk), .ref g5, .ref g6, .ref g7])), (h0, .inr (0, [.int (nI N), .ref h1, .ref h2, .ref h3, .ref h4, .ref h5, .ref h6])), (h1, .inl (E 0, 15, .inl hmy)), (h2, .inl (E 0, 15, .inl awy)), (h3, .inl (E 0, 30, .inl rvy)), (h4, .inl (E 0, 30, .inl sdy)), (h5, .inl (E 0, 30, .inl gmy)), (h6, .inl (E 0, 36, .inl cay)), (g1, .inl (E 0, 6, .inl xs)), (g2, .inl (E 0, 6, .inl ys)), (g3, .inl (E 1, 30, .inl bz)), (g4, .inl (E 0, 4, .inl rt))]) [0, 1, 2, 3, 4, 5, 6, 7, 8, 9, 10, 11] (by decide +kernel) rfl
                have hAc := zw_AA (wc := [(g0, .inr (2, [.ref h0, .ref g1, .ref g2, .ref g3, .ref g4, .int (nI sk), .ref g5, .ref g6, .ref g7])), (h0, .inr (0, [.int (nI N), .ref h1, .ref h2, .ref h3, .ref h4, .ref h5, .ref h6])), (h1, .inl (E 0, 15, .inl hmy)), (h2, .inl (E 0, 15, .inl awy)), (h3, .inl (E 0, 30, .inl rvy)), (h4, .inl (E 0, 30, .inl sdy)), (h5, .inl (E 0, 30, .inl gmy)), (h6, .inl (E 0, 36, .inl cay)), (g1, .inl (E 0, 6, .inl xs)), (g2, .inl (E 0, 6, .inl ys)), (g3, .inl (E 1, 30, .inl bz)), (g4, .inl (E 0, 4, .inl rt))]) hD [0, 1, 2, 3, 4, 5, 6, 7, 8, 9, 10, 11] rfl
                refine zw_cf hAc hS (va_runV (As := [.int (nI 0), .int (nI a), .int (nI b)]) (rest := []) ⟨hx, hb, hml, hown, hts⟩ (c_X3_costIf_0 l D E g0 g1 g2 g3 g4 g5 g6 g7 sk h0 h1 h2 h3 h4 h5 h6 N hmy awy rvy sdy gmy cay G P xs ys X Y bz B rt R a b (hply) (hgr) (hbz) (hrt) (haL) (hbL)) (cwV 3 hts gX3_takeStep_X3_costIf rfl rfl rfl (by decide +kernel) ⟨Nat.le_of_ble_eq_true rfl, Nat.le_of_ble_eq_true rfl⟩) (zw_V hK hPc hDc (ci := 2) (q0 := 0) rfl rfl) rfl rfl hl.1 rfl (lv_room (Nat.le_of_ble_eq_true rfl)) dX3_takeStep_103 ⟨Nat.zero_le _, Nat.zero_le _⟩) (fun r_19 u_21 H locs hw_20 hP1 hD1 hk1 hS => ?_)
                obtain ⟨hm_22, aw_23, rv_24, sd_25, gm_26, ca_27⟩ := u_21
                try dsimp only at hw_20 hP1 hD1
                obtain ⟨hP, hD⟩ := zw_join (wr := []) (w1 := [(g0, .inr (2, [.ref h0, .ref g1, .ref g2, .ref g3, .ref g4, .int (nI sk), .ref g5, .ref g6, .ref g7])), (h0, .inr (0, [.int (nI N), .ref h1, .ref h2, .ref h3, .ref h4, .ref h5, .ref h6])), (h1, .inl (E 0, 15, .inl hm_22)), (h2, .inl (E 0, 15, .inl aw_23)), (h3, .inl (E 0, 30, .inl rv_24)), (h4, .inl (E 0, 30, .inl sd_25)), (h5, .inl (E 0, 30, .inl gm_26)), (h6, .inl (E 0, 36, .inl ca_27)), (g1, .inl (E 0, 6, .inl xs)), (g2, .inl (E 0, 6, .inl ys)), (g3, .inl (E 1, 30, .inl bz)), (g4, .inl (E 0, 4, .inl rt))]) (ws' := [(g0, .inr (2, [.ref h0, .ref g1, .ref g2, .ref g3, .ref g4, .int (nI sk), .ref g5, .ref g6, .ref g7])), (h0, .inr (0, [.int (nI N), .ref h1, .ref h2, .ref h3, .ref h4, .ref h5, .ref h6])), (h1, .inl (E 0, 15, .inl hm_22)), (h2, .inl (E 0, 15, .inl aw_23)), (h3, .inl (E 0, 30, .inl rv_24)), (h4, .inl (E 0, 30, .inl sd_25)), (h5, .inl (E 0, 30, .inl gm_26)), (h6, .inl (E 0, 36, .inl ca_27)), (g1, .inl (E 0, 6, .inl xs)), (g2, .inl (E 0, 6, .inl ys)), (g3, .inl (E 1, 30, .inl bz)), (g4, .inl (E 0, 4, .inl rt))]) hP hD [0, 1, 2, 3, 4, 5, 6, 7, 8, 9, 10, 11] [] [0, 1, 2, 3, 4, 5, 6, 7, 8, 9, 10, 11] rfl rfl (by decide +kernel) (by decide +kernel) hAc hk1 hP1 hD1 (by decide +kernel) rfl
                clear hP1 hD1 hk1 hPc hDc hAc
                obtain ⟨rfl, hw_20⟩ := hw_20
                have hpz := hw_20
                refine lv_fstore (lv' := [(11, .float (zm_cost R B X Y N (zm_sw G a b) (zm_sw P a b))), (0, .ref g0), (1, .int (nI 0)), (2, .float ly), (3, .int bay), (4, .int bby), (5, .int (nI (N - 1))), (6, .int (nI (N / 2))), (7, .int (nI a)), (9, .int (nI (N - 1))), (10, .int (nI b))]) hx hb dX3_takeStep_106 hl (by decide) rfl (fun ls hl => ?_)
                refine lv_fload hx hb dX3_takeStep_108 (lv_at hl 0 rfl) ?_
                refine lv_fload_n hx hb dX3_takeStep_110 rfl (lv_at hl 3 rfl) ?_
                refine lv_fcmp hx hb dX3_takeStep_111 ?_
                refine lv_if_ge (tgt := 125) hx hb dX3_takeStep_112 (by decide) (fun cn_28 => ?_) (fun cn_28 => ?_)
                · skip
                  have hbr := cn_28
                  refine lv_iinc (v := nI (b + 1)) (lv' := [(10, .int (nI (b + 1))), (11, .float (zm_cost R B X Y N (zm_sw G a b) (zm_sw P a b))), (0, .ref g0), (1, .int (nI 0)), (2, .float ly), (3, .int bay), (4, .int bby), (5, .int (nI (N - 1))), (6, .int (nI (N / 2))), (7, .int (nI a)), (9, .int (nI (N - 1)))]) hx hb dX3_takeStep_125 hl (k := 10) rfl (nI_add _ _) (by decide) rfl (fun ls hl => ?_)
                  refine lv_goto (tgt := 90) hx hb dX3_takeStep_128 (by decide) ?_
                  have hl : lv_has ls 12 [(0, .ref g0), (1, .int (nI 0)), (2, .float ly), (3, .int bay), (4, .int bby), (5, .int (nI (N - 1))), (6, .int (nI (N / 2))), (7, .int (nI a)), (9, .int (nI (N - 1))), (10, .int (nI (b + 1)))] := lv_sub hl [2, 3, 4, 5, 6, 7, 8, 9, 10, 0] rfl
                  exact ih90 (b + 1) ly bay bby hm_22 aw_23 rv_24 sd_25 gm_26 ca_27 H locs ls (by omega) (by first | exact (hI.trans (zb_in_s hbL)).trans (congrArg (zb_in ((fun a b => zm_cost R B X Y N (zm_opG 0 G a b) (zm_opP 0 P a b)) a) a ((N - 1) - (b + 1)) (b + 1)) (zb_one_t (s := (ly, bay, bby)) hbr)) | exact (hI.trans (zb_in_s hbL)).trans (congrArg (zb_in ((fun a b => zm_cost R B X Y N (zm_opG 0 G a b) (zm_opP 0 P a b)) a) a ((N - 1) - (b + 1)) (b + 1)) (zb_one_f (s := (ly, bay, bby)) hbr))) (by first | exact hV2 | exact Or.inr ⟨a, b, rfl, rfl, haL, hbL⟩) (hpz) (by omega) hP hD hS hl
                · skip
                  have hbr := cn_28
                  refine lv_fload hx hb dX3_takeStep_115 (lv_at hl 0 rfl) ?_
                  refine lv_fstore_n (lv' := [(2, .float (zm_cost R B X Y N (zm_sw G a b) (zm_sw P a b))), (11, .float (zm_cost R B X Y N (zm_sw G a b) (zm_sw P a b))), (0, .ref g0), (1, .int (nI 0)), (3, .int bay), (4, .int bby), (5, .int (nI (N - 1))), (6, .int (nI (N / 2))), (7, .int (nI a)), (9, .int (nI (N - 1))), (10, .int (nI b))]) hx hb dX3_takeStep_117 rfl hl (by decide) rfl (fun ls hl => ?_)
                  refine lv_iload hx hb dX3_takeStep_118 (lv_at hl 8 rfl) ?_
                  refine lv_istore_n (lv' := [(3, .int (nI a)), (2, .float (zm_cost R B X Y N (zm_sw G a b) (zm_sw P a b))), (11, .float (zm_cost R B X Y N (zm_sw G a b) (zm_sw P a b))), (0, .ref g0), (1, .int (nI 0)), (4, .int bby), (5, .int (nI (N - 1))), (6, .int (nI (N / 2))), (7, .int (nI a)), (9, .int (nI (N - 1))), (10, .int (nI b))]) hx hb dX3_takeStep_120 rfl hl (by decide) rfl (fun ls hl => ?_)
                  refine lv_iload hx hb dX3_takeStep_121 (lv_at hl 10 rfl) ?_
                  refine lv_istore (lv' := [(4, .int (nI b)), (3, .int (nI a)), (2, .float (zm_cost R B X Y N (zm_sw G a b) (zm_sw P a b))), (11, .float (zm_cost R B X Y N (zm_sw G a b) (zm_sw P a b))), (0, .ref g0), (1, .int (nI 0)), (5, .int (nI (N - 1))), (6, .int (nI (N / 2))), (7, .int (nI a)), (9, .int (nI (N - 1))), (10, .int (nI b))]) hx hb dX3_takeStep_123 hl (by decide) rfl (fun ls hl => ?_)
                  refine lv_iinc (v := nI (b + 1)) (lv' := [(10, .int (nI (b + 1))), (4, .int (nI b)), (3, .int (nI a)), (2, .float (zm_cost R B X Y N (zm_sw G a b) (zm_sw P a b))), (11, .float (zm_cost R B X Y N (zm_sw G a b) (zm_sw P a b))), (0, .ref g0), (1, .int (nI 0)), (5, .int (nI (N - 1))), (6, .int (nI (N / 2))), (7, .int (nI a)), (9, .int (nI (N - 1)))]) hx hb dX3_takeStep_125 hl (k := 10) rfl (nI_add _ _) (by decide) rfl (fun ls hl => ?_)
                  refine lv_goto (tgt := 90) hx hb dX3_takeStep_128 (by decide) ?_
                  have hl : lv_has ls 12 [(0, .ref g0), (1, .int (nI 0)), (2, .float (zm_cost R B X Y N (zm_sw G a b) (zm_sw P a b))), (3, .int (nI a)), (4, .int (nI b)), (5, .int (nI (N - 1))), (6, .int (nI (N / 2))), (7, .int (nI a)), (9, .int (nI (N - 1))), (10, .int (nI (b + 1)))] := lv_sub hl [5, 6, 3, 2, 1, 7, 8, 9, 10, 0] rfl
                  exact ih90 (b + 1) (zm_cost R B X Y N (zm_sw G a b) (zm_sw P a b)) (nI a) (nI b) hm_22 aw_23 rv_24 sd_25 gm_26 ca_27 H locs ls (by omega) (by first | exact (hI.trans (zb_in_s hbL)).trans (congrArg (zb_in ((fun a b => zm_cost R B X Y N (zm_opG 0 G a b) (zm_opP 0 P a b)) a) a ((N - 1) - (b + 1)) (b + 1)) (zb_one_t (s := (ly, bay, bby)) hbr)) | exact (hI.trans (zb_in_s hbL)).trans (congrArg (zb_in ((fun a b => zm_cost R B X Y N (zm_opG 0 G a b) (zm_opP 0 P a b)) a) a ((N - 1) - (b + 1)) (b + 1)) (zb_one_f (s := (ly, bay, bby)) hbr))) (by first | exact hV2 | exact Or.inr ⟨a, b, rfl, rfl, haL, hbL⟩) (hpz) (by omega) hP hD hS hl
          · skip
            exact absurd cn_17 (by decide)
        · skip
          exact absurd cn_16 (by decide)
  · skip
    exact absurd cn_5 (by decide)

set_option maxHeartbeats 4000000 in
set_option maxRecDepth 100000 in
theorem c_X3_takeStep_1 (l : Launch) (D : va_G) (E : Nat → ClassId) (g0 : Nat) (g1 : Nat) (g2 : Nat) (g3 : Nat) (g4 : Nat) (g5 : Nat) (g6 : Nat) (g7 : Nat) (sk : Nat) (h0 : Nat) (h1 : Nat) (h2 : Nat) (h3 : Nat) (h4 : Nat) (h5 : Nat) (h6 : Nat) (N : Nat) (hm : Nat → Int32) (aw : Nat → Int32) (rv : Nat → Int32) (sd : Nat → Int32) (gm : Nat → Int32) (ca : Nat → Int32) (G : Nat → Nat → Nat) (P : Nat → Nat → Nat) (xs : Nat → Int32) (ys : Nat → Int32) (X : Nat → Nat) (Y : Nat → Nat) (bz : Nat → Int32) (B : Nat → Nat → Nat) (rt : Nat → Int32) (R : Nat → Nat) (hpl : zm_pl N G P hm aw rv sd gm) (hgr : zm_gr X Y xs ys) (hbz : zm_bz B bz) (hrt : zm_rt R rt) : Met l yX3_takeStep wsX3_takeStep ({ frames := 6, cells := 0, slots := 0, locals := 137 }) (zw_P D E [.ref g0, .int (nI 1)] [(g0, .inr (2, [.ref h0, .ref g1, .ref g2, .ref g3, .ref g4, .int (nI sk), .ref g5, .ref g6, .ref g7])), (h0, .inr (0, [.int (nI N), .ref h1, .ref h2, .ref h3, .ref h4, .ref h5, .ref h6])), (h1, .inl (E 0, 15, .inl hm)), (h2, .inl (E 0, 15, .inl aw)), (h3, .inl (E 0, 30, .inl rv)), (h4, .inl (E 0, 30, .inl sd)), (h5, .inl (E 0, 30, .inl gm)), (h6, .inl (E 0, 36, .inl ca)), (g1, .inl (E 0, 6, .inl xs)), (g2, .inl (E 0, 6, .inl ys)), (g3, .inl (E 1, 30, .inl bz)), (g4, .inl (E 0, 4, .inl rt))]) (zw_Qi D [(g0, .inr (2, [.ref h0, .ref g1, .ref g2, .ref g3, .ref g4, .int (nI sk), .ref g5, .ref g6, .ref g7])), (h0, .inr (0, [.int (nI N), .ref h1, .ref h2, .ref h3, .ref h4, .ref h5, .ref h6])), (h1, .inl (E 0, 15, .inl hm)), (h2, .inl (E 0, 15, .inl aw)), (h3, .inl (E 0, 30, .inl rv)), (h4, .inl (E 0, 30, .inl sd)), (h5, .inl (E 0, 30, .inl gm)), (h6, .inl (E 0, 36, .inl ca)), (g1, .inl (E 0, 6, .inl xs)), (g2, .inl (E 0, 6, .inl ys)), (g3, .inl (E 1, 30, .inl bz)), (g4, .inl (E 0, 4, .inl rt))] (fun zv (u : (Nat → Int32) × (Nat → Int32) × (Nat → Int32) × (Nat → Int32) × (Nat → Int32) × (Nat → Int32)) => zm_stepR 1 R B X Y N G P zv (fun G P => zm_pl N G P u.1 u.2.1 u.2.2.1 u.2.2.2.1 u.2.2.2.2.1)) (fun (u : (Nat → Int32) × (Nat → Int32) × (Nat → Int32) × (Nat → Int32) × (Nat → Int32) × (Nat → Int32)) => [(g0, .inr (2, [.ref h0, .ref g1, .ref g2, .ref g3, .ref g4, .int (nI sk), .ref g5, .ref g6, .ref g7])), (h0, .inr (0, [.int (nI N), .ref h1, .ref h2, .ref h3, .ref h4, .ref h5, .ref h6])), (h1, .inl (E 0, 15, .inl u.1)), (h2, .inl (E 0, 15, .inl u.2.1)), (h3, .inl (E 0, 30, .inl u.2.2.1)), (h4, .inl (E 0, 30, .inl u.2.2.2.1)), (h5, .inl (E 0, 30, .inl u.2.2.2.2.1)), (h6, .inl (E 0, 36, .inl u.2.2.2.2.2)), (g1, .inl (E 0, 6, .inl xs)), (g2, .inl (E 0, 6, .inl ys)), (g3, .inl (E 1, 30, .inl bz)), (g4, .inl (E 0, 4, .inl rt))])) 0 0 (zw_A [(g0, .inr (2, [.ref h0, .ref g1, .ref g2, .ref g3, .ref g4, .int (nI sk), .ref g5, .ref g6, .ref g7])), (h0, .inr (0, [.int (nI N), .ref h1, .ref h2, .ref h3, .ref h4, .ref h5, .ref h6])), (h1, .inl (E 0, 15, .inl hm)), (h2, .inl (E 0, 15, .inl aw)), (h3, .inl (E 0, 30, .inl rv)), (h4, .inl (E 0, 30, .inl sd)), (h5, .inl (E 0, 30, .inl gm)), (h6, .inl (E 0, 36, .inl ca)), (g1, .inl (E 0, 6, .inl xs)), (g2, .inl (E 0, 6, .inl ys)), (g3, .inl (E 1, 30, .inl bz)), (g4, .inl (E 0, 4, .inl rt))]) := by
  refine Met.ofW (cc := cX3_takeStep) (maxL := 12) (ret := (some .boolean)) (by decide) rfl ?_
  intro p e s m args below meth c s₁ Bz hml hv
  obtain ⟨rfl, hP, hK, hD0⟩ := hv
  have hx := Bz.exec
  have hb := Bz.bytes
  have hr := Bz.returns
  have hts := atoms_spec (ws := wsX3_takeStep) Bz.pre
  have hown : s.vm.findClass RX3 = some m.cls := findClass_of_methodNamed Bz.named
  have hlocks := Bz.notSynchronized
  have hP : va_P D vwCl [(g0, .inr (2, [.ref h0, .ref g1, .ref g2, .ref g3, .ref g4, .int (nI sk), .ref g5, .ref g6, .ref g7])), (h0, .inr (0, [.int (nI N), .ref h1, .ref h2, .ref h3, .ref h4, .ref h5, .ref h6])), (h1, .inl (E 0, 15, .inl hm)), (h2, .inl (E 0, 15, .inl aw)), (h3, .inl (E 0, 30, .inl rv)), (h4, .inl (E 0, 30, .inl sd)), (h5, .inl (E 0, 30, .inl gm)), (h6, .inl (E 0, 36, .inl ca)), (g1, .inl (E 0, 6, .inl xs)), (g2, .inl (E 0, 6, .inl ys)), (g3, .inl (E 1, 30, .inl bz)), (g4, .inl (E 0, 4, .inl rt))] s.heap := hP
  obtain ⟨A, hAe⟩ : ∃ A : Nat → Prop, A = zw_A [(g0, .inr (2, [.ref h0, .ref g1, .ref g2, .ref g3, .ref g4, .int (nI sk), .ref g5, .ref g6, .ref g7])), (h0, .inr (0, [.int (nI N), .ref h1, .ref h2, .ref h3, .ref h4, .ref h5, .ref h6])), (h1, .inl (E 0, 15, .inl hm)), (h2, .inl (E 0, 15, .inl aw)), (h3, .inl (E 0, 30, .inl rv)), (h4, .inl (E 0, 30, .inl sd)), (h5, .inl (E 0, 30, .inl gm)), (h6, .inl (E 0, 36, .inl ca)), (g1, .inl (E 0, 6, .inl xs)), (g2, .inl (E 0, 6, .inl ys)), (g3, .inl (E 1, 30, .inl bz)), (g4, .inl (E 0, 4, .inl rt))] := ⟨_, rfl⟩
  have hD : va_D A [(g0, .inr (2, [.ref h0, .ref g1, .ref g2, .ref g3, .ref g4, .int (nI sk), .ref g5, .ref g6, .ref g7])), (h0, .inr (0, [.int (nI N), .ref h1, .ref h2, .ref h3, .ref h4, .ref h5, .ref h6])), (h1, .inl (E 0, 15, .inl hm)), (h2, .inl (E 0, 15, .inl aw)), (h3, .inl (E 0, 30, .inl rv)), (h4, .inl (E 0, 30, .inl sd)), (h5, .inl (E 0, 30, .inl gm)), (h6, .inl (E 0, 36, .inl ca)), (g1, .inl (E 0, 6, .inl xs)), (g2, .inl (E 0, 6, .inl ys)), (g3, .inl (E 1, 30, .inl bz)), (g4, .inl (E 0, 4, .inl rt))] := hAe ▸ zw_own hD0
  have hS : va_S A s.heap s.heap [] := va_S.rf
  have hl := lv_entry ([.ref g0, .int (nI 1)]) (n := 12) (Nat.le_of_ble_eq_true rfl)
  rw [lg_entry_eq]
  generalize (lg_sl ([.ref g0, .int (nI 1)]) ++ List.replicate (12 - (lg_sl ([.ref g0, .int (nI 1)])).length) Slot.unset).toArray = ls at hl ⊢
  have hl : lv_has ls 12 [(0, .ref g0), (1, .int (nI 1))] := hl
  refine zr_nQ (fun Q hQ => ?_)
  have hN := hpl.1.1
  have hok := hpl.1
  have hRR : ∀ k, k < 4 → R k ≤ 99 := fun k hk => (hrt k hk).1
  refine lv_aload_n hx hb dX3_takeStep_0 rfl (lv_at hl 0 rfl) ?_
  have hPc := hP.sub (ws' := [(g0, .inr (2, [.ref h0, .ref g1, .ref g2, .ref g3, .ref g4, .int (nI sk), .ref g5, .ref g6, .ref g7])), (h0, .inr (0, [.int (nI N), .ref h1, .ref h2, .ref h3, .ref h4, .ref h5, .ref h6])), (h1, .inl (E 0, 15, .inl hm)), (h2, .inl (E 0, 15, .inl aw)), (h3, .inl (E 0, 30, .inl rv)), (h4, .inl (E 0, 30, .inl sd)), (h5, .inl (E 0, 30, .inl gm)), (h6, .inl (E 0, 36, .inl ca)), (g1, .inl (E 0, 6, .inl xs)), (g2, .inl (E 0, 6, .inl ys)), (g3, .inl (E 1, 30, .inl bz)), (g4, .inl (E 0, 4, .inl rt))]) [0, 1, 2, 3, 4, 5, 6, 7, 8, 9, 10, 11] rfl
  have hDc := hD.sub (ws' := [(g0, .inr (2, [.ref h0, .ref g1, .ref g2, .ref g3, .ref g4, .int (nI sk), .ref g5, .ref g6, .ref g7])), (h0, .inr (0, [.int (nI N), .ref h1, .ref h2, .ref h3, .ref h4, .ref h5, .ref h6])), (h1, .inl (E 0, 15, .inl hm)), (h2, .inl (E 0, 15, .inl aw)), (h3, .inl (E 0, 30, .inl rv)), (h4, .inl (E 0, 30, .inl sd)), (h5, .inl (E 0, 30, .inl gm)), (h6, .inl (E 0, 36, .inl ca)), (g1, .inl (E 0, 6, .inl xs)), (g2, .inl (E 0, 6, .inl ys)), (g3, .inl (E 1, 30, .inl bz)), (g4, .inl (E 0, 4, .inl rt))]) [0, 1, 2, 3, 4, 5, 6, 7, 8, 9, 10, 11] (by decide +kernel) rfl
  have hAc := zw_AA (wc := [(g0, .inr (2, [.ref h0, .ref g1, .ref g2, .ref g3, .ref g4, .int (nI sk), .ref g5, .ref g6, .ref g7])), (h0, .inr (0, [.int (nI N), .ref h1, .ref h2, .ref h3, .ref h4, .ref h5, .ref h6])), (h1, .inl (E 0, 15, .inl hm)), (h2, .inl (E 0, 15, .inl aw)), (h3, .inl (E 0, 30, .inl rv)), (h4, .inl (E 0, 30, .inl sd)), (h5, .inl (E 0, 30, .inl gm)), (h6, .inl (E 0, 36, .inl ca)), (g1, .inl (E 0, 6, .inl xs)), (g2, .inl (E 0, 6, .inl ys)), (g3, .inl (E 1, 30, .inl bz)), (g4, .inl (E 0, 4, .inl rt))]) hD [0, 1, 2, 3, 4, 5, 6, 7, 8, 9, 10, 11] rfl
  refine zw_cf hAc hS (va_runV (As := []) (rest := []) ⟨hx, hb, hml, hown, hts⟩ (c_X3_fullCost l D E g0 g1 g2 g3 g4 g5 g6 g7 sk h0 h1 h2 h3 h4 h5 h6 N hm aw rv sd gm ca G P xs ys X Y bz B rt R (hpl) (hgr) (hbz) (hrt)) (cwV 0 hts gX3_takeStep_X3_fullCost rfl rfl rfl (by decide +kernel) ⟨Nat.le_of_ble_eq_true rfl, Nat.le_of_ble_eq_true rfl⟩) (zw_V hK hPc hDc (ci := 2) (q0 := 0) rfl rfl) rfl rfl hl.1 rfl (lv_room (Nat.le_of_ble_eq_true rfl)) dX3_takeStep_1 ⟨Nat.zero_le _, Nat.zero_le _⟩) (fun r_1 u_3 H locs hw_2 hP1 hD1 hk1 hS => ?_)
  obtain ⟨ca_4, rfl⟩ : ∃ z, z = u_3 := ⟨_, rfl⟩
  try dsimp only at hw_2 hP1 hD1
  obtain ⟨hP, hD⟩ := zw_join (wr := []) (w1 := [(g0, .inr (2, [.ref h0, .ref g1, .ref g2, .ref g3, .ref g4, .int (nI sk), .ref g5, .ref g6, .ref g7])), (h0, .inr (0, [.int (nI N), .ref h1, .ref h2, .ref h3, .ref h4, .ref h5, .ref h6])), (h1, .inl (E 0, 15, .inl hm)), (h2, .inl (E 0, 15, .inl aw)), (h3, .inl (E 0, 30, .inl rv)), (h4, .inl (E 0, 30, .inl sd)), (h5, .inl (E 0, 30, .inl gm)), (h6, .inl (E 0, 36, .inl ca_4)), (g1, .inl (E 0, 6, .inl xs)), (g2, .inl (E 0, 6, .inl ys)), (g3, .inl (E 1, 30, .inl bz)), (g4, .inl (E 0, 4, .inl rt))]) (ws' := [(g0, .inr (2, [.ref h0, .ref g1, .ref g2, .ref g3, .ref g4, .int (nI sk), .ref g5, .ref g6, .ref g7])), (h0, .inr (0, [.int (nI N), .ref h1, .ref h2, .ref h3, .ref h4, .ref h5, .ref h6])), (h1, .inl (E 0, 15, .inl hm)), (h2, .inl (E 0, 15, .inl aw)), (h3, .inl (E 0, 30, .inl rv)), (h4, .inl (E 0, 30, .inl sd)), (h5, .inl (E 0, 30, .inl gm)), (h6, .inl (E 0, 36, .inl ca_4)), (g1, .inl (E 0, 6, .inl xs)), (g2, .inl (E 0, 6, .inl ys)), (g3, .inl (E 1, 30, .inl bz)), (g4, .inl (E 0, 4, .inl rt))]) hP hD [0, 1, 2, 3, 4, 5, 6, 7, 8, 9, 10, 11] [] [0, 1, 2, 3, 4, 5, 6, 7, 8, 9, 10, 11] rfl rfl (by decide +kernel) (by decide +kernel) hAc hk1 hP1 hD1 (by decide +kernel) rfl
  clear hP1 hD1 hk1 hPc hDc hAc
  obtain ⟨rfl, hw_2⟩ := hw_2
  refine lv_fstore_n (lv' := [(2, .float (zf_cost R (zm_brs N P) (zm_vio N G B) (zm_car N G P) (zm_amiles N G P X Y))), (0, .ref g0), (1, .int (nI 1))]) hx hb dX3_takeStep_4 rfl hl (by decide) rfl (fun ls hl => ?_)
  refine lv_iconst (v := (-1)) hx hb dX3_takeStep_5 (by rfl) ?_
  refine lv_istore_n (lv' := [(3, .int (-1)), (2, .float (zf_cost R (zm_brs N P) (zm_vio N G B) (zm_car N G P) (zm_amiles N G P X Y))), (0, .ref g0), (1, .int (nI 1))]) hx hb dX3_takeStep_6 rfl hl (by decide) rfl (fun ls hl => ?_)
  refine lv_iconst (v := (-1)) hx hb dX3_takeStep_7 (by rfl) ?_
  refine lv_istore (lv' := [(4, .int (-1)), (3, .int (-1)), (2, .float (zf_cost R (zm_brs N P) (zm_vio N G B) (zm_car N G P) (zm_amiles N G P X Y))), (0, .ref g0), (1, .int (nI 1))]) hx hb dX3_takeStep_8 hl (by decide) rfl (fun ls hl => ?_)
  refine lv_iload_n hx hb dX3_takeStep_10 rfl (lv_at hl 4 rfl) ?_
  refine lv_iconst (v := nI 2) hx hb dX3_takeStep_11 (by rfl) ?_
  refine lv_icmp_ne (tgt := 25) hx hb dX3_takeStep_12 (by decide) (fun cn_5 => ?_) (fun cn_5 => ?_)
  · skip
    refine lv_aload_n hx hb dX3_takeStep_25 rfl (lv_at hl 3 rfl) ?_
    refine va_get (D := D) (ci := 2) (v := .ref h0) (C := RX3) (T := TX3) (N := 9) hx hb hts (by decide +kernel) hown hK.1 hP 0 rfl rfl 0 (by decide) (hts (.fieldLink RX3 12 "HomeRounds$Setting" "plan" "LHomeRounds$Plan;") (by decide +kernel)) (fun _ h9 => h9) rfl dX3_takeStep_26 ?_
    refine va_get (D := D) (ci := 0) (v := .int (nI N)) (C := RX1) (T := TX1) (N := 7) hx hb hts (by decide +kernel) hown hK.1 hP 1 rfl rfl 0 (by decide) (hts (.fieldLink RX3 105 "HomeRounds$Plan" "n" "I") (by decide +kernel)) (fun _ h9 => h9) rfl dX3_takeStep_29 ?_
    refine lv_iconst (v := nI 1) hx hb dX3_takeStep_32 (by rfl) ?_
    refine lv_isub hx hb dX3_takeStep_33 ?_
    refine zr_ti (y := nI (N - 1)) (pk_sub (by omega)) ?_
    refine lv_istore (lv' := [(5, .int (nI (N - 1))), (4, .int (-1)), (3, .int (-1)), (2, .float (zf_cost R (zm_brs N P) (zm_vio N G B) (zm_car N G P) (zm_amiles N G P X Y))), (0, .ref g0), (1, .int (nI 1))]) hx hb dX3_takeStep_34 hl (by decide) rfl (fun ls hl => ?_)
    refine lv_aload_n hx hb dX3_takeStep_36 rfl (lv_at hl 4 rfl) ?_
    refine va_get (D := D) (ci := 2) (v := .ref h0) (C := RX3) (T := TX3) (N := 9) hx hb hts (by decide +kernel) hown hK.1 hP 0 rfl rfl 0 (by decide) (hts (.fieldLink RX3 12 "HomeRounds$Setting" "plan" "LHomeRounds$Plan;") (by decide +kernel)) (fun _ h9 => h9) rfl dX3_takeStep_37 ?_
    refine va_get (D := D) (ci := 0) (v := .int (nI N)) (C := RX1) (T := TX1) (N := 7) hx hb hts (by decide +kernel) hown hK.1 hP 1 rfl rfl 0 (by decide) (hts (.fieldLink RX3 105 "HomeRounds$Plan" "n" "I") (by decide +kernel)) (fun _ h9 => h9) rfl dX3_takeStep_40 ?_
    refine lv_iconst (v := nI 2) hx hb dX3_takeStep_43 (by rfl) ?_
    refine lv_idiv hx hb dX3_takeStep_44 (by decide) ?_
    refine zr_ti (y := nI (N / 2)) (pk_div (by omega) (by omega) (by omega)) ?_
    refine lv_istore (lv' := [(6, .int (nI (N / 2))), (5, .int (nI (N - 1))), (4, .int (-1)), (3, .int (-1)), (2, .float (zf_cost R (zm_brs N P) (zm_vio N G B) (zm_car N G P) (zm_amiles N G P X Y))), (0, .ref g0), (1, .int (nI 1))]) hx hb dX3_takeStep_45 hl (by decide) rfl (fun ls hl => ?_)
    refine lv_iconst (v := nI 0) hx hb dX3_takeStep_47 (by rfl) ?_
    refine lv_istore (lv' := [(7, .int (nI 0)), (6, .int (nI (N / 2))), (5, .int (nI (N - 1))), (4, .int (-1)), (3, .int (-1)), (2, .float (zf_cost R (zm_brs N P) (zm_vio N G B) (zm_car N G P) (zm_amiles N G P X Y))), (0, .ref g0), (1, .int (nI 1))]) hx hb dX3_takeStep_48 hl (by decide) rfl (fun ls hl => ?_)
    suffices KL50 : ∀ (kz : Nat) (a : Nat) (lz : UInt32) (ba : Int32) (bb : Int32) (hmv : Nat → Int32) (awv : Nat → Int32) (rvv : Nat → Int32) (sdv : Nat → Int32) (gmv : Nat → Int32) (cav : Nat → Int32) (H : Heap) (locs : List Loc) (ls : Array Slot), (N - 1 - a) < kz → (zm_best 1 R B X Y N G P = zb_out (fun a b => zm_cost R B X Y N (zm_opG 1 G a b) (zm_opP 1 P a b)) (zm_first 1) (fun _ => zm_last 1 N) (N - 1 - a) a (lz, ba, bb)) → (zm_val 1 N ba bb) → (zm_pl N G P hmv awv rvv sdv gmv) → (a ≤ N - 1) → va_P D vwCl [(g0, .inr (2, [.ref h0, .ref g1, .ref g2, .ref g3, .ref g4, .int (nI sk), .ref g5, .ref g6, .ref g7])), (h0, .inr (0, [.int (nI N), .ref h1, .ref h2, .ref h3, .ref h4, .ref h5, .ref h6])), (h1, .inl (E 0, 15, .inl hmv)), (h2, .inl (E 0, 15, .inl awv)), (h3, .inl (E 0, 30, .inl rvv)), (h4, .inl (E 0, 30, .inl sdv)), (h5, .inl (E 0, 30, .inl gmv)), (h6, .inl (E 0, 36, .inl cav)), (g1, .inl (E 0, 6, .inl xs)), (g2, .inl (E 0, 6, .inl ys)), (g3, .inl (E 1, 30, .inl bz)), (g4, .inl (E 0, 4, .inl rt))] H → va_D A [(g0, .inr (2, [.ref h0, .ref g1, .ref g2, .ref g3, .ref g4, .int (nI sk), .ref g5, .ref g6, .ref g7])), (h0, .inr (0, [.int (nI N), .ref h1, .ref h2, .ref h3, .ref h4, .ref h5, .ref h6])), (h1, .inl (E 0, 15, .inl hmv)), (h2, .inl (E 0, 15, .inl awv)), (h3, .inl (E 0, 30, .inl rvv)), (h4, .inl (E 0, 30, .inl sdv)), (h5, .inl (E 0, 30, .inl gmv)), (h6, .inl (E 0, 36, .inl cav)), (g1, .inl (E 0, 6, .inl xs)), (g2, .inl (E 0, 6, .inl ys)), (g3, .inl (E 1, 30, .inl bz)), (g4, .inl (E 0, 4, .inl rt))] → va_S A s.heap H locs → lv_has ls 12 [(0, .ref g0), (1, .int (nI 1)), (2, .float lz), (3, .int ba), (4, .int bb), (5, .int (nI (N - 1))), (6, .int (nI (N / 2))), (7, .int (nI a))] → W p l e (headSpec wsX3_takeStep ({ frames := 6, cells := 0, slots := 0, locals := 137 })).room s m ([.ref g0, .int (nI 1)] : List Value).toArray below meth c H locs 0 0 Q (F0 m 50 ls []) from
      KL50 _ 0 (zf_cost R (zm_brs N P) (zm_vio N G B) (zm_car N G P) (zm_amiles N G P X Y)) (-1) (-1) hm aw rv sd gm ca_4 _ _ ls (Nat.lt_succ_self _) (rfl) (Or.inl rfl) (hpl) (by omega) hP hD hS (lv_sub hl [6, 7, 5, 4, 3, 2, 1, 0] rfl)
    clear hP hS hl hD
    intro kz
    induction kz with
    | zero => intro a lz ba bb hmv awv rvv sdv gmv cav H locs ls hkz; exact absurd hkz (Nat.not_lt_zero _)
    | succ kz ih50 =>
      intro a lz ba bb hmv awv rvv sdv gmv cav H locs ls hkz hO hV hplv haE hP hD hS hl
      refine lv_iload hx hb dX3_takeStep_50 (lv_at hl 7 rfl) ?_
      refine lv_iload hx hb dX3_takeStep_52 (lv_at hl 5 rfl) ?_
      refine lv_icmp_ge (tgt := 137) hx hb dX3_takeStep_54 (by decide) (fun cn_6 => ?_) (fun cn_6 => ?_)
      · skip
        have cn_6 : N - 1 ≤ a := (nI_leI (a := N - 1) (b := a) (by omega) (by omega)).mp cn_6
        have haE2 : N - 1 ≤ a := by omega
        have hbest := hO.trans (zb_out_e haE2)
        refine lv_iload_n hx hb dX3_takeStep_137 rfl (lv_at hl 3 rfl) ?_
        refine lv_iconst (v := (-1)) hx hb dX3_takeStep_138 (by rfl) ?_
        refine lv_icmp_ne (tgt := 144) hx hb dX3_takeStep_139 (by decide) (fun cn_7 => ?_) (fun cn_7 => ?_)
        · skip
          have hsome := cn_7
          obtain ⟨a9, b9, rfl, rfl, ha9, hb9⟩ := Or.resolve_left hV hsome
          have ha9 : a9 < N - 1 := ha9
          have hb9 : b9 < N / 2 := hb9
          refine lv_aload_n hx hb dX3_takeStep_144 rfl (lv_at hl 0 rfl) ?_
          refine lv_iload_n hx hb dX3_takeStep_145 rfl (lv_at hl 1 rfl) ?_
          refine lv_iload_n hx hb dX3_takeStep_146 rfl (lv_at hl 3 rfl) ?_
          refine lv_iload hx hb dX3_takeStep_147 (lv_at hl 4 rfl) ?_
          have hPc := hP.sub (ws' := [(g0, .inr (2, [.ref h0, .ref g1, .ref g2, .ref g3, .ref g4, .int (nI sk), .ref g5, .ref g6, .ref g7])), (h0, .inr (0, [.int (nI N), .ref h1, .ref h2, .ref h3, .ref h4, .ref h5, .ref h6])), (h1, .inl (E 0, 15, .inl hmv)), (h2, .inl (E 0, 15, .inl awv)), (h3, .inl (E 0, 30, .inl rvv)), (h4, .inl (E 0, 30, .inl sdv)), (h5, .inl (E 0, 30, .inl gmv)), (h6, .inl (E 0, 36, .inl cav))]) [0, 1, 2, 3, 4, 5, 6, 7] rfl
          have hDc := hD.sub (ws' := [(g0, .inr (2, [.ref h0, .ref g1, .ref g2, .ref g3, .ref g4, .int (nI sk), .ref g5, .ref g6, .ref g7])), (h0, .inr (0, [.int (nI N), .ref h1, .ref h2, .ref h3, .ref h4, .ref h5, .ref h6])), (h1, .inl (E 0, 15, .inl hmv)), (h2, .inl (E 0, 15, .inl awv)), (h3, .inl (E 0, 30, .inl rvv)), (h4, .inl (E 0, 30, .inl sdv)), (h5, .inl (E 0, 30, .inl gmv)), (h6, .inl (E 0, 36, .inl cav))]) [0, 1, 2, 3, 4, 5, 6, 7] (by decide +kernel) rfl
          have hAc := zw_AA (wc := [(g0, .inr (2, [.ref h0, .ref g1, .ref g2, .ref g3, .ref g4, .int (nI sk), .ref g5, .ref g6, .ref g7])), (h0, .inr (0, [.int (nI N), .ref h1, .ref h2, .ref h3, .ref h4, .ref h5, .ref h6])), (h1, .inl (E 0, 15, .inl hmv)), (h2, .inl (E 0, 15, .inl awv)), (h3, .inl (E 0, 30, .inl rvv)), (h4, .inl (E 0, 30, .inl sdv)), (h5, .inl (E 0, 30, .inl gmv)), (h6, .inl (E 0, 36, .inl cav))]) hD [0, 1, 2, 3, 4, 5, 6, 7] rfl
          refine zw_cv hAc hS (va_runV (As := [.int (nI 1), .int (nI a9), .int (nI b9)]) (rest := []) ⟨hx, hb, hml, hown, hts⟩ (c_X3_change_1 l D E g0 g1 g2 g3 g4 g5 g6 g7 sk h0 h1 h2 h3 h4 h5 h6 N hmv awv rvv sdv gmv cav G P a9 b9 (hplv) (ha9) (hb9)) (cwV 3 hts gX3_takeStep_X3_change rfl rfl rfl (by decide +kernel) ⟨Nat.le_of_ble_eq_true rfl, Nat.le_of_ble_eq_true rfl⟩) (zw_V hK hPc hDc (ci := 2) (q0 := 0) rfl rfl) rfl rfl hl.1 rfl (lv_room (Nat.le_of_ble_eq_true rfl)) dX3_takeStep_149 ⟨Nat.zero_le _, Nat.zero_le _⟩) (fun u_10 H locs hw_9 hP1 hD1 hk1 hS => ?_)
          obtain ⟨hm_11, aw_12, rv_13, sd_14, gm_15⟩ := u_10
          try dsimp only at hw_9 hP1 hD1
          obtain ⟨hP, hD⟩ := zw_join (wr := [(g1, .inl (E 0, 6, .inl xs)), (g2, .inl (E 0, 6, .inl ys)), (g3, .inl (E 1, 30, .inl bz)), (g4, .inl (E 0, 4, .inl rt))]) (w1 := [(g0, .inr (2, [.ref h0, .ref g1, .ref g2, .ref g3, .ref g4, .int (nI sk), .ref g5, .ref g6, .ref g7])), (h0, .inr (0, [.int (nI N), .ref h1, .ref h2, .ref h3, .ref h4, .ref h5, .ref h6])), (h1, .inl (E 0, 15, .inl hm_11)), (h2, .inl (E 0, 15, .inl aw_12)), (h3, .inl (E 0, 30, .inl rv_13)), (h4, .inl (E 0, 30, .inl sd_14)), (h5, .inl (E 0, 30, .inl gm_15)), (h6, .inl (E 0, 36, .inl cav))]) (ws' := [(g0, .inr (2, [.ref h0, .ref g1, .ref g2, .ref g3, .ref g4, .int (nI sk), .ref g5, .ref g6, .ref g7])), (h0, .inr (0, [.int (nI N), .ref h1, .ref h2, .ref h3, .ref h4, .ref h5, .ref h6])), (h1, .inl (E 0, 15, .inl hm_11)), (h2, .inl (E 0, 15, .inl aw_12)), (h3, .inl (E 0, 30, .inl rv_13)), (h4, .inl (E 0, 30, .inl sd_14)), (h5, .inl (E 0, 30, .inl gm_15)), (h6, .inl (E 0, 36, .inl cav)), (g1, .inl (E 0, 6, .inl xs)), (g2, .inl (E 0, 6, .inl ys)), (g3, .inl (E 1, 30, .inl bz)), (g4, .inl (E 0, 4, .inl rt))]) hP hD [0, 1, 2, 3, 4, 5, 6, 7] [8, 9, 10, 11] [4, 5, 6, 7, 8, 9, 10, 11, 0, 1, 2, 3] rfl rfl (by decide +kernel) (by decide +kernel) hAc hk1 hP1 hD1 (by decide +kernel) rfl
          clear hP1 hD1 hk1 hPc hDc hAc
          have hpe := hw_9
          refine lv_iconst (v := nI 1) hx hb dX3_takeStep_152 (by rfl) ?_
          subst hQ; subst hAe
          exact W.zret (v := nI 1) hx hb hr (by decide) (fun tz htz hWz => ⟨⟨nI 1, (hm_11, aw_12, rv_13, sd_14, gm_15, cav), rfl, Or.inr ⟨a9, b9, zm_step_s (by omega) (by omega) hbest, rfl, hpe⟩, by rw [htz]; exact hP, hD⟩, hS.F htz⟩) hS.2.2 dX3_takeStep_153
        · skip
          have hnone := cn_7
          refine lv_iconst (v := nI 0) hx hb dX3_takeStep_142 (by rfl) ?_
          subst hQ; subst hAe
          exact W.zret (v := nI 0) hx hb hr (by decide) (fun tz htz hWz => ⟨⟨nI 0, (hmv, awv, rvv, sdv, gmv, cav), rfl, Or.inl ⟨zm_step_n (by rw [hbest, hnone]), rfl, hplv⟩, by rw [htz]; exact hP, hD⟩, hS.F htz⟩) hS.2.2 dX3_takeStep_143
      · skip
        have cn_6 : ¬ (N - 1 ≤ a) := fun hz => cn_6 ((nI_leI (a := N - 1) (b := a) (by omega) (by omega)).mpr hz)
        have haL : a < N - 1 := by omega
        refine lv_iload_n hx hb dX3_takeStep_57 rfl (lv_at hl 1 rfl) ?_
        refine lv_iconst (v := nI 1) hx hb dX3_takeStep_58 (by rfl) ?_
        refine lv_icmp_ne (tgt := 66) hx hb dX3_takeStep_59 (by decide) (fun cn_16 => ?_) (fun cn_16 => ?_)
        · skip
          exact absurd cn_16 (by decide)
        · skip
          refine lv_iconst (v := nI 0) hx hb dX3_takeStep_62 (by rfl) ?_
          refine lv_goto (tgt := 70) hx hb dX3_takeStep_63 (by decide) ?_
          refine lv_istore (lv' := [(8, .int (nI 0)), (0, .ref g0), (1, .int (nI 1)), (2, .float lz), (3, .int ba), (4, .int bb), (5, .int (nI (N - 1))), (6, .int (nI (N / 2))), (7, .int (nI a))]) hx hb dX3_takeStep_70 hl (by decide) rfl (fun ls hl => ?_)
          refine lv_iload_n hx hb dX3_takeStep_72 rfl (lv_at hl 2 rfl) ?_
          refine lv_iconst (v := nI 1) hx hb dX3_takeStep_73 (by rfl) ?_
          refine lv_icmp_ne (tgt := 82) hx hb dX3_takeStep_74 (by decide) (fun cn_17 => ?_) (fun cn_17 => ?_)
          · skip
            exact absurd cn_17 (by decide)
          · skip
            refine lv_iload hx hb dX3_takeStep_77 (lv_at hl 7 rfl) ?_
            refine lv_goto (tgt := 84) hx hb dX3_takeStep_79 (by decide) ?_
            refine lv_istore (lv' := [(9, .int (nI (N / 2))), (8, .int (nI 0)), (0, .ref g0), (1, .int (nI 1)), (2, .float lz), (3, .int ba), (4, .int bb), (5, .int (nI (N - 1))), (6, .int (nI (N / 2))), (7, .int (nI a))]) hx hb dX3_takeStep_84 hl (by decide) rfl (fun ls hl => ?_)
            refine lv_iload hx hb dX3_takeStep_86 (lv_at hl 1 rfl) ?_
            refine lv_istore (lv' := [(10, .int (nI 0)), (9, .int (nI (N / 2))), (8, .int (nI 0)), (0, .ref g0), (1, .int (nI 1)), (2, .float lz), (3, .int ba), (4, .int bb), (5, .int (nI (N - 1))), (6, .int (nI (N / 2))), (7, .int (nI a))]) hx hb dX3_takeStep_88 hl (by decide) rfl (fun ls hl => ?_)
            suffices KL90 : ∀ (kz : Nat) (b : Nat) (ly : UInt32) (bay : Int32) (bby : Int32) (hmy : Nat → Int32) (awy : Nat → Int32) (rvy : Nat → Int32) (sdy : Nat → Int32) (gmy : Nat → Int32) (cay : Nat → Int32) (H : Heap) (locs : List Loc) (ls : Array Slot), (10 - b) < kz → (zb_in ((fun a b => zm_cost R B X Y N (zm_opG 1 G a b) (zm_opP 1 P a b)) a) a ((fun _ => zm_last 1 N) a - zm_first 1 a) (zm_first 1 a) (lz, ba, bb) = zb_in ((fun a b => zm_cost R B X Y N (zm_opG 1 G a b) (zm_opP 1 P a b)) a) a ((N / 2) - b) b (ly, bay, bby)) → (zm_val 1 N bay bby) → (zm_pl N G P hmy awy rvy sdy gmy) → (b ≤ 6) → va_P D vwCl [(g0, .inr (2, [.ref h0, .ref g1, .ref g2, .ref g3, .ref g4, .int (nI sk), .ref g5, .ref g6, .ref g7])), (h0, .inr (0, [.int (nI N), .ref h1, .ref h2, .ref h3, .ref h4, .ref h5, .ref h6])), (h1, .inl (E 0, 15, .inl hmy)), (h2, .inl (E 0, 15, .inl awy)), (h3, .inl (E 0, 30, .inl rvy)), (h4, .inl (E 0, 30, .inl sdy)), (h5, .inl (E 0, 30, .inl gmy)), (h6, .inl (E 0, 36, .inl cay)), (g1, .inl (E 0, 6, .inl xs)), (g2, .inl (E 0, 6, .inl ys)), (g3, .inl (E 1, 30, .inl bz)), (g4, .inl (E 0, 4, .inl rt))] H → va_D A [(g0, .inr (2, [.ref h0, .ref g1, .ref g2, .ref g3, .ref g4, .int (nI sk), .ref g5, .ref g6, .ref g7])), (h0, .inr (0, [.int (nI N), .ref h1, .ref h2, .ref h3, .ref h4, .ref h5, .ref h6])), (h1, .inl (E 0, 15, .inl hmy)), (h2, .inl (E 0, 15, .inl awy)), (h3, .inl (E 0, 30, .inl rvy)), (h4, .inl (E 0, 30, .inl sdy)), (h5, .inl (E 0, 30, .inl gmy)), (h6, .inl (E 0, 36, .inl cay)), (g1, .inl (E 0, 6, .inl xs)), (g2, .inl (E 0, 6, .inl ys)), (g3, .inl (E 1, 30, .inl bz)), (g4, .inl (E 0, 4, .inl rt))] → va_S A s.heap H locs → lv_has ls 12 [(0, .ref g0), (1, .int (nI 1)), (2, .float ly), (3, .int bay), (4, .int bby), (5, .int (nI (N - 1))), (6, .int (nI (N / 2))), (7, .int (nI a)), (9, .int (nI (N / 2))), (10, .int (nI b))] → W p l e (headSpec wsX3_takeStep ({ frames := 6, cells := 0, slots := 0, locals := 137 })).room s m ([.ref g0, .int (nI 1)] : List Value).toArray below meth c H locs 0 0 Q (F0 m 90 ls []) from
              KL90 _ 0 lz ba bb hmv awv rvv sdv gmv cav _ _ ls (Nat.lt_succ_self _) (rfl) (hV) (hplv) (by omega) hP hD hS (lv_sub hl [3, 4, 5, 6, 7, 8, 9, 10, 1, 0] rfl)
            clear hP hS hl hD
            intro kz
            induction kz with
            | zero => intro b ly bay bby hmy awy rvy sdy gmy cay H locs ls hkz; exact absurd hkz (Nat.not_lt_zero _)
            | succ kz ih90 =>
              intro b ly bay bby hmy awy rvy sdy gmy cay H locs ls hkz hI hV2 hply hb6 hP hD hS hl
              refine lv_iload hx hb dX3_takeStep_90 (lv_at hl 9 rfl) ?_
              refine lv_iload hx hb dX3_takeStep_92 (lv_at hl 8 rfl) ?_
              refine lv_icmp_ge (tgt := 131) hx hb dX3_takeStep_94 (by decide) (fun cn_18 => ?_) (fun cn_18 => ?_)
              · skip
                have cn_18 : N / 2 ≤ b := (nI_leI (a := N / 2) (b := b) (by omega) (by omega)).mp cn_18
                have hbE : N / 2 ≤ b := by omega
                refine lv_iinc (v := nI (a + 1)) (lv' := [(7, .int (nI (a + 1))), (0, .ref g0), (1, .int (nI 1)), (2, .float ly), (3, .int bay), (4, .int bby), (5, .int (nI (N - 1))), (6, .int (nI (N / 2))), (9, .int (nI (N / 2))), (10, .int (nI b))]) hx hb dX3_takeStep_131 hl (k := 7) rfl (nI_add _ _) (by decide) rfl (fun ls hl => ?_)
                refine lv_goto (tgt := 50) hx hb dX3_takeStep_134 (by decide) ?_
                have hl : lv_has ls 12 [(0, .ref g0), (1, .int (nI 1)), (2, .float ly), (3, .int bay), (4, .int bby), (5, .int (nI (N - 1))), (6, .int (nI (N / 2))), (7, .int (nI (a + 1)))] := lv_sub hl [1, 2, 3, 4, 5, 6, 7, 0] rfl
                exact ih50 (a + 1) ly bay bby hmy awy rvy sdy gmy cay H locs ls (by omega) (by rw [hO, zb_out_s haL]; exact congrArg (fun s => zb_out (fun a b => zm_cost R B X Y N (zm_opG 1 G a b) (zm_opP 1 P a b)) (zm_first 1) (fun _ => zm_last 1 N) (N - 1 - (a + 1)) (a + 1) s) (hI.trans (zb_in_e hbE))) (hV2) (hply) (by omega) hP hD hS hl
              · skip
                have cn_18 : ¬ (N / 2 ≤ b) := fun hz => cn_18 ((nI_leI (a := N / 2) (b := b) (by omega) (by omega)).mpr hz)
                have hbL : b < N / 2 := by omega
                refine lv_aload_n hx hb dX3_takeStep_97 rfl (lv_at hl 0 rfl) ?_
                refine lv_iload_n hx hb dX3_takeStep_98 rfl (lv_at hl 1 rfl) ?_
                refine lv_iload hx hb dX3_takeStep_99 (lv_at hl 7 rfl) ?_
                refine lv_iload hx hb dX3_takeStep_101 (lv_at hl 9 rfl) ?_
                have hPc := hP.sub (ws' := [(g0, .inr (2, [.ref h0, .ref g1, .ref g2, .ref g3, .ref g4, .int (nI sk), .ref g5, .ref g6, .ref g7])), (h0, .inr (0, [.int (nI N), .ref h1, .ref h2, .ref h3, .ref h4, .ref h5, .ref h6])), (h1, .inl (E 0, 15, .inl hmy)), (h2, .inl (E 0, 15, .inl awy)), (h3, .inl (E 0, 30, .inl rvy)), (h4, .inl (E 0, 30, .inl sdy)), (h5, .inl (E 0, 30, .inl gmy)), (h6, .inl (E 0, 36, .inl cay)), (g1, .inl (E 0, 6, .inl xs)), (g2, .inl (E 0, 6, .inl ys)), (g3, .inl (E 1, 30, .inl bz)), (g4, .inl (E 0, 4, .inl rt))]) [0, 1, 2, 3, 4, 5, 6, 7, 8, 9, 10, 11] rfl
                have hDc := hD.sub (ws' := [(g0, .inr (2, [.ref h0, .ref g1, .ref g2, .ref g3, .ref g4, .int (nI sk), .ref g5, .ref g6, .ref g7])), (h0, .inr (0, [.int (nI N), .ref h1, .ref h2, .ref h3, .ref h4, .ref h5, .ref h6])), (h1, .inl (E 0, 15, .inl hmy)), (h2, .inl (E 0, 15, .inl awy)), (h3, .inl (E 0, 30, .inl rvy)), (h4, .inl (E 0, 30, .inl sdy)), (h5, .inl (E 0, 30, .inl gmy)), (h6, .inl (E 0, 36, .inl cay)), (g1, .inl (E 0, 6, .inl xs)), (g2, .inl (E 0, 6, .inl ys)), (g3, .inl (E 1, 30, .inl bz)), (g4, .inl (E 0, 4, .inl rt))]) [0, 1, 2, 3, 4, 5, 6, 7, 8, 9, 10, 11] (by decide +kernel) rfl
                have hAc := zw_AA (wc := [(g0, .inr (2, [.ref h0, .ref g1, .ref g2, .ref g3, .ref g4, .int (nI sk), .ref g5, .ref g6, .ref g7])), (h0, .inr (0, [.int (nI N), .ref h1, .ref h2, .ref h3, .ref h4, .ref h5, .ref h6])), (h1, .inl (E 0, 15, .inl hmy)), (h2, .inl (E 0, 15, .inl awy)), (h3, .inl (E 0, 30, .inl rvy)), (h4, .inl (E 0, 30, .inl sdy)), (h5, .inl (E 0, 30, .inl gmy)), (h6, .inl (E 0, 36, .inl cay)), (g1, .inl (E 0, 6, .inl xs)), (g2, .inl (E 0, 6, .inl ys)), (g3, .inl (E 1, 30, .inl bz)), (g4, .inl (E 0, 4, .inl rt))]) hD [0, 1, 2, 3, 4, 5, 6, 7, 8, 9, 10, 11] rfl
                refine zw_cf hAc hS (va_runV (As := [.int (nI 1), .int (nI a), .int (nI b)]) (rest := []) ⟨hx, hb, hml, hown, hts⟩ (c_X3_costIf_1 l D E g0 g1 g2 g3 g4 g5 g6 g7 sk h0 h1 h2 h3 h4 h5 h6 N hmy awy rvy sdy gmy cay G P xs ys X Y bz B rt R a b (hply) (hgr) (hbz) (hrt) (haL) (hbL)) (cwV 3 hts gX3_takeStep_X3_costIf rfl rfl rfl (by decide +kernel) ⟨Nat.le_of_ble_eq_true rfl, Nat.le_of_ble_eq_true rfl⟩) (zw_V hK hPc hDc (ci := 2) (q0 := 0) rfl rfl) rfl rfl hl.1 rfl (lv_room (Nat.le_of_ble_eq_true rfl)) dX3_takeStep_103 ⟨Nat.zero_le _, Nat.zero_le _⟩) (fun r_19 u_21 H locs hw_20 hP1 hD1 hk1 hS => ?_)
                obtain ⟨hm_22, aw_23, rv_24, sd_25, gm_26, ca_27⟩ := u_21
                try dsimp only at hw_20 hP1 hD1
                obtain ⟨hP, hD⟩ := zw_join (wr := []) (w1 := [(g0, .inr (2, [.ref h0, .ref g1, .ref g2, .ref g3, .ref g4, .int (nI sk), .ref g5, .ref g6, .ref g7])), (h0, .inr (0, [.int (nI N), .ref h1, .ref h2, .ref h3, .ref h4, .ref h5, .ref h6])), (h1, .inl (E 0, 15, .inl hm_22)), (h2, .inl (E 0, 15, .inl aw_23)), (h3, .inl (E 0, 30, .inl rv_24)), (h4, .inl (E 0, 30, .inl sd_25)), (h5, .inl (E 0, 30, .inl gm_26)), (h6, .inl (E 0, 36, .inl ca_27)), (g1, .inl (E 0, 6, .inl xs)), (g2, .inl (E 0, 6, .inl ys)), (g3, .inl (E 1, 30, .inl bz)), (g4, .inl (E 0, 4, .inl rt))]) (ws' := [(g0, .inr (2, [.ref h0, .ref g1, .ref g2, .ref g3, .ref g4, .int (nI sk), .ref g5, .ref g6, .ref g7])), (h0, .inr (0, [.int (nI N), .ref h1, .ref h2, .ref h3, .ref h4, .ref h5, .ref h6])), (h1, .inl (E 0, 15, .inl hm_22)), (h2, .inl (E 0, 15, .inl aw_23)), (h3, .inl (E 0, 30, .inl rv_24)), (h4, .inl (E 0, 30, .inl sd_25)), (h5, .inl (E 0, 30, .inl gm_26)), (h6, .inl (E 0, 36, .inl ca_27)), (g1, .inl (E 0, 6, .inl xs)), (g2, .inl (E 0, 6, .inl ys)), (g3, .inl (E 1, 30, .inl bz)), (g4, .inl (E 0, 4, .inl rt))]) hP hD [0, 1, 2, 3, 4, 5, 6, 7, 8, 9, 10, 11] [] [0, 1, 2, 3, 4, 5, 6, 7, 8, 9, 10, 11] rfl rfl (by decide +kernel) (by decide +kernel) hAc hk1 hP1 hD1 (by decide +kernel) rfl
                clear hP1 hD1 hk1 hPc hDc hAc
                obtain ⟨rfl, hw_20⟩ := hw_20
                have hpz := hw_20
                refine lv_fstore (lv' := [(11, .float (zm_cost R B X Y N (zm_tuG G a b) (zm_tuP P a b))), (0, .ref g0), (1, .int (nI 1)), (2, .float ly), (3, .int bay), (4, .int bby), (5, .int (nI (N - 1))), (6, .int (nI (N / 2))), (7, .int (nI a)), (9, .int (nI (N / 2))), (10, .int (nI b))]) hx hb dX3_takeStep_106 hl (by decide) rfl (fun ls hl => ?_)
                refine lv_fload hx hb dX3_takeStep_108 (lv_at hl 0 rfl) ?_
                refine lv_fload_n hx hb dX3_takeStep_110 rfl (lv_at hl 3 rfl) ?_
                refine lv_fcmp hx hb dX3_takeStep_111 ?_
                refine lv_if_ge (tgt := 125) hx hb dX3_takeStep_112 (by decide) (fun cn_28 => ?_) (fun cn_28 => ?_)
                · skip
                  have hbr := cn_28
                  refine lv_iinc (v := nI (b + 1)) (lv' := [(10, .int (nI (b + 1))), (11, .float (zm_cost R B X Y N (zm_tuG G a b) (zm_tuP P a b))), (0, .ref g0), (1, .int (nI 1)), (2, .float ly), (3, .int bay), (4, .int bby), (5, .int (nI (N - 1))), (6, .int (nI (N / 2))), (7, .int (nI a)), (9, .int (nI (N / 2)))]) hx hb dX3_takeStep_125 hl (k := 10) rfl (nI_add _ _) (by decide) rfl (fun ls hl => ?_)
                  refine lv_goto (tgt := 90) hx hb dX3_takeStep_128 (by decide) ?_
                  have hl : lv_has ls 12 [(0, .ref g0), (1, .int (nI 1)), (2, .float ly), (3, .int bay), (4, .int bby), (5, .int (nI (N - 1))), (6, .int (nI (N / 2))), (7, .int (nI a)), (9, .int (nI (N / 2))), (10, .int (nI (b + 1)))] := lv_sub hl [2, 3, 4, 5, 6, 7, 8, 9, 10, 0] rfl
                  exact ih90 (b + 1) ly bay bby hm_22 aw_23 rv_24 sd_25 gm_26 ca_27 H locs ls (by omega) (by first | exact (hI.trans (zb_in_s hbL)).trans (congrArg (zb_in ((fun a b => zm_cost R B X Y N (zm_opG 1 G a b) (zm_opP 1 P a b)) a) a ((N / 2) - (b + 1)) (b + 1)) (zb_one_t (s := (ly, bay, bby)) hbr)) | exact (hI.trans (zb_in_s hbL)).trans (congrArg (zb_in ((fun a b => zm_cost R B X Y N (zm_opG 1 G a b) (zm_opP 1 P a b)) a) a ((N / 2) - (b + 1)) (b + 1)) (zb_one_f (s := (ly, bay, bby)) hbr))) (by first | exact hV2 | exact Or.inr ⟨a, b, rfl, rfl, haL, hbL⟩) (hpz) (by omega) hP hD hS hl
                · skip
                  have hbr := cn_28
                  refine lv_fload hx hb dX3_takeStep_115 (lv_at hl 0 rfl) ?_
                  refine lv_fstore_n (lv' := [(2, .float (zm_cost R B X Y N (zm_tuG G a b) (zm_tuP P a b))), (11, .float (zm_cost R B X Y N (zm_tuG G a b) (zm_tuP P a b))), (0, .ref g0), (1, .int (nI 1)), (3, .int bay), (4, .int bby), (5, .int (nI (N - 1))), (6, .int (nI (N / 2))), (7, .int (nI a)), (9, .int (nI (N / 2))), (10, .int (nI b))]) hx hb dX3_takeStep_117 rfl hl (by decide) rfl (fun ls hl => ?_)
                  refine lv_iload hx hb dX3_takeStep_118 (lv_at hl 8 rfl) ?_
                  refine lv_istore_n (lv' := [(3, .int (nI a)), (2, .float (zm_cost R B X Y N (zm_tuG G a b) (zm_tuP P a b))), (11, .float (zm_cost R B X Y N (zm_tuG G a b) (zm_tuP P a b))), (0, .ref g0), (1, .int (nI 1)), (4, .int bby), (5, .int (nI (N - 1))), (6, .int (nI (N / 2))), (7, .int (nI a)), (9, .int (nI (N / 2))), (10, .int (nI b))]) hx hb dX3_takeStep_120 rfl hl (by decide) rfl (fun ls hl => ?_)
                  refine lv_iload hx hb dX3_takeStep_121 (lv_at hl 10 rfl) ?_
                  refine lv_istore (lv' := [(4, .int (nI b)), (3, .int (nI a)), (2, .float (zm_cost R B X Y N (zm_tuG G a b) (zm_tuP P a b))), (11, .float (zm_cost R B X Y N (zm_tuG G a b) (zm_tuP P a b))), (0, .ref g0), (1, .int (nI 1)), (5, .int (nI (N - 1))), (6, .int (nI (N / 2))), (7, .int (nI a)), (9, .int (nI (N / 2))), (10, .int (nI b))]) hx hb dX3_takeStep_123 hl (by decide) rfl (fun ls hl => ?_)
                  refine lv_iinc (v := nI (b + 1)) (lv' := [(10, .int (nI (b + 1))), (4, .int (nI b)), (3, .int (nI a)), (2, .float (zm_cost R B X Y N (zm_tuG G a b) (zm_tuP P a b))), (11, .float (zm_cost R B X Y N (zm_tuG G a b) (zm_tuP P a b))), (0, .ref g0), (1, .int (nI 1)), (5, .int (nI (N - 1))), (6, .int (nI (N / 2))), (7, .int (nI a)), (9, .int (nI (N / 2)))]) hx hb dX3_takeStep_125 hl (k := 10) rfl (nI_add _ _) (by decide) rfl (fun ls hl => ?_)
                  refine lv_goto (tgt := 90) hx hb dX3_takeStep_128 (by decide) ?_
                  have hl : lv_has ls 12 [(0, .ref g0), (1, .int (nI 1)), (2, .float (zm_cost R B X Y N (zm_tuG G a b) (zm_tuP P a b))), (3, .int (nI a)), (4, .int (nI b)), (5, .int (nI (N - 1))), (6, .int (nI (N / 2))), (7, .int (nI a)), (9, .int (nI (N / 2))), (10, .int (nI (b + 1)))] := lv_sub hl [5, 6, 3, 2, 1, 7, 8, 9, 10, 0] rfl
                  exact ih90 (b + 1) (zm_cost R B X Y N (zm_tuG G a b) (zm_tuP P a b)) (nI a) (nI b) hm_22 aw_23 rv_24 sd_25 gm_26 ca_27 H locs ls (by omega) (by first | exact (hI.trans (zb_in_s hbL)).trans (congrArg (zb_in ((fun a b => zm_cost R B X Y N (zm_opG 1 G a b) (zm_opP 1 P a b)) a) a ((N / 2) - (b + 1)) (b + 1)) (zb_one_t (s := (ly, bay, bby)) hbr)) | exact (hI.trans (zb_in_s hbL)).trans (congrArg (zb_in ((fun a b => zm_cost R B X Y N (zm_opG 1 G a b) (zm_opP 1 P a b)) a) a ((N / 2) - (b + 1)) (b + 1)) (zb_one_f (s := (ly, bay, bby)) hbr))) (by first | exact hV2 | exact Or.inr ⟨a, b, rfl, rfl, haL, hbL⟩) (hpz) (by omega) hP hD hS hl
  · skip
    exact absurd cn_5 (by decide)

set_option maxHeartbeats 4000000 in
set_option maxRecDepth 100000 in
theorem c_X3_takeStep_2 (l : Launch) (D : va_G) (E : Nat → ClassId) (g0 : Nat) (g1 : Nat) (g2 : Nat) (g3 : Nat) (g4 : Nat) (g5 : Nat) (g6 : Nat) (g7 : Nat) (sk : Nat) (h0 : Nat) (h1 : Nat) (h2 : Nat) (h3 : Nat) (h4 : Nat) (h5 : Nat) (h6 : Nat) (N : Nat) (hm : Nat → Int32) (aw : Nat → Int32) (rv : Nat → Int32) (sd : Nat → Int32) (gm : Nat → Int32) (ca : Nat → Int32) (G : Nat → Nat → Nat) (P : Nat → Nat → Nat) (xs : Nat → Int32) (ys : Nat → Int32) (X : Nat → Nat) (Y : Nat → Nat) (bz : Nat → Int32) (B : Nat → Nat → Nat) (rt : Nat → Int32) (R : Nat → Nat) (hpl : zm_pl N G P hm aw rv sd gm) (hgr : zm_gr X Y xs ys) (hbz : zm_bz B bz) (hrt : zm_rt R rt) : Met l yX3_takeStep wsX3_takeStep ({ frames := 6, cells := 0, slots := 0, locals := 137 }) (zw_P D E [.ref g0, .int (nI 2)] [(g0, .inr (2, [.ref h0, .ref g1, .ref g2, .ref g3, .ref g4, .int (nI sk), .ref g5, .ref g6, .ref g7])), (h0, .inr (0, [.int (nI N), .ref h1, .ref h2, .ref h3, .ref h4, .ref h5, .ref h6])), (h1, .inl (E 0, 15, .inl hm)), (h2, .inl (E 0, 15, .inl aw)), (h3, .inl (E 0, 30, .inl rv)), (h4, .inl (E 0, 30, .inl sd)), (h5, .inl (E 0, 30, .inl gm)), (h6, .inl (E 0, 36, .inl ca)), (g1, .inl (E 0, 6, .inl xs)), (g2, .inl (E 0, 6, .inl ys)), (g3, .inl (E 1, 30, .inl bz)), (g4, .inl (E 0, 4, .inl rt))]) (zw_Qi D [(g0, .inr (2, [.ref h0, .ref g1, .ref g2, .ref g3, .ref g4, .int (nI sk), .ref g5, .ref g6, .ref g7])), (h0, .inr (0, [.int (nI N), .ref h1, .ref h2, .ref h3, .ref h4, .ref h5, .ref h6])), (h1, .inl (E 0, 15, .inl hm)), (h2, .inl (E 0, 15, .inl aw)), (h3, .inl (E 0, 30, .inl rv)), (h4, .inl (E 0, 30, .inl sd)), (h5, .inl (E 0, 30, .inl gm)), (h6, .inl (E 0, 36, .inl ca)), (g1, .inl (E 0, 6, .inl xs)), (g2, .inl (E 0, 6, .inl ys)), (g3, .inl (E 1, 30, .inl bz)), (g4, .inl (E 0, 4, .inl rt))] (fun zv (u : (Nat → Int32) × (Nat → Int32) × (Nat → Int32) × (Nat → Int32) × (Nat → Int32) × (Nat → Int32)) => zm_stepR 2 R B X Y N G P zv (fun G P => zm_pl N G P u.1 u.2.1 u.2.2.1 u.2.2.2.1 u.2.2.2.2.1)) (fun (u : (Nat → Int32) × (Nat → Int32) × (Nat → Int32) × (Nat → Int32) × (Nat → Int32) × (Nat → Int32)) => [(g0, .inr (2, [.ref h0, .ref g1, .ref g2, .ref g3, .ref g4, .int (nI sk), .ref g5, .ref g6, .ref g7])), (h0, .inr (0, [.int (nI N), .ref h1, .ref h2, .ref h3, .ref h4, .ref h5, .ref h6])), (h1, .inl (E 0, 15, .inl u.1)), (h2, .inl (E 0, 15, .inl u.2.1)), (h3, .inl (E 0, 30, .inl u.2.2.1)), (h4, .inl (E 0, 30, .inl u.2.2.2.1)), (h5, .inl (E 0, 30, .inl u.2.2.2.2.1)), (h6, .inl (E 0, 36, .inl u.2.2.2.2.2)), (g1, .inl (E 0, 6, .inl xs)), (g2, .inl (E 0, 6, .inl ys)), (g3, .inl (E 1, 30, .inl bz)), (g4, .inl (E 0, 4, .inl rt))])) 0 0 (zw_A [(g0, .inr (2, [.ref h0, .ref g1, .ref g2, .ref g3, .ref g4, .int (nI sk), .ref g5, .ref g6, .ref g7])), (h0, .inr (0, [.int (nI N), .ref h1, .ref h2, .ref h3, .ref h4, .ref h5, .ref h6])), (h1, .inl (E 0, 15, .inl hm)), (h2, .inl (E 0, 15, .inl aw)), (h3, .inl (E 0, 30, .inl rv)), (h4, .inl (E 0, 30, .inl sd)), (h5, .inl (E 0, 30, .inl gm)), (h6, .inl (E 0, 36, .inl ca)), (g1, .inl (E 0, 6, .inl xs)), (g2, .inl (E 0, 6, .inl ys)), (g3, .inl (E 1, 30, .inl bz)), (g4, .inl (E 0, 4, .inl rt))]) := by
  refine Met.ofW (cc := cX3_takeStep) (maxL := 12) (ret := (some .boolean)) (by decide) rfl ?_
  intro p e s m args below meth c s₁ Bz hml hv
  obtain ⟨rfl, hP, hK, hD0⟩ := hv
  have hx := Bz.exec
  have hb := Bz.bytes
  have hr := Bz.returns
  have hts := atoms_spec (ws := wsX3_takeStep) Bz.pre
  have hown : s.vm.findClass RX3 = some m.cls := findClass_of_methodNamed Bz.named
  have hlocks := Bz.notSynchronized
  have hP : va_P D vwCl [(g0, .inr (2, [.ref h0, .ref g1, .ref g2, .ref g3, .ref g4, .int (nI sk), .ref g5, .ref g6, .ref g7])), (h0, .inr (0, [.int (nI N), .ref h1, .ref h2, .ref h3, .ref h4, .ref h5, .ref h6])), (h1, .inl (E 0, 15, .inl hm)), (h2, .inl (E 0, 15, .inl aw)), (h3, .inl (E 0, 30, .inl rv)), (h4, .inl (E 0, 30, .inl sd)), (h5, .inl (E 0, 30, .inl gm)), (h6, .inl (E 0, 36, .inl ca)), (g1, .inl (E 0, 6, .inl xs)), (g2, .inl (E 0, 6, .inl ys)), (g3, .inl (E 1, 30, .inl bz)), (g4, .inl (E 0, 4, .inl rt))] s.heap := hP
  obtain ⟨A, hAe⟩ : ∃ A : Nat → Prop, A = zw_A [(g0, .inr (2, [.ref h0, .ref g1, .ref g2, .ref g3, .ref g4, .int (nI sk), .ref g5, .ref g6, .ref g7])), (h0, .inr (0, [.int (nI N), .ref h1, .ref h2, .ref h3, .ref h4, .ref h5, .ref h6])), (h1, .inl (E 0, 15, .inl hm)), (h2, .inl (E 0, 15, .inl aw)), (h3, .inl (E 0, 30, .inl rv)), (h4, .inl (E 0, 30, .inl sd)), (h5, .inl (E 0, 30, .inl gm)), (h6, .inl (E 0, 36, .inl ca)), (g1, .inl (E 0, 6, .inl xs)), (g2, .inl (E 0, 6, .inl ys)), (g3, .inl (E 1, 30, .inl bz)), (g4, .inl (E 0, 4, .inl rt))] := ⟨_, rfl⟩
  have hD : va_D A [(g0, .inr (2, [.ref h0, .ref g1, .ref g2, .ref g3, .ref g4, .int (nI sk), .ref g5, .ref g6, .ref g7])), (h0, .inr (0, [.int (nI N), .ref h1, .ref h2, .ref h3, .ref h4, .ref h5, .ref h6])), (h1, .inl (E 0, 15, .inl hm)), (h2, .inl (E 0, 15, .inl aw)), (h3, .inl (E 0, 30, .inl rv)), (h4, .inl (E 0, 30, .inl sd)), (h5, .inl (E 0, 30, .inl gm)), (h6, .inl (E 0, 36, .inl ca)), (g1, .inl (E 0, 6, .inl xs)), (g2, .inl (E 0, 6, .inl ys)), (g3, .inl (E 1, 30, .inl bz)), (g4, .inl (E 0, 4, .inl rt))] := hAe ▸ zw_own hD0
  have hS : va_S A s.heap s.heap [] := va_S.rf
  have hl := lv_entry ([.ref g0, .int (nI 2)]) (n := 12) (Nat.le_of_ble_eq_true rfl)
  rw [lg_entry_eq]
  generalize (lg_sl ([.ref g0, .int (nI 2)]) ++ List.replicate (12 - (lg_sl ([.ref g0, .int (nI 2)])).length) Slot.unset).toArray = ls at hl ⊢
  have hl : lv_has ls 12 [(0, .ref g0), (1, .int (nI 2))] := hl
  refine zr_nQ (fun Q hQ => ?_)
  have hN := hpl.1.1
  have hok := hpl.1
  have hRR : ∀ k, k < 4 → R k ≤ 99 := fun k hk => (hrt k hk).1
  refine lv_aload_n hx hb dX3_takeStep_0 rfl (lv_at hl 0 rfl) ?_
  have hPc := hP.sub (ws' := [(g0, .inr (2, [.ref h0, .ref g1, .ref g2, .ref g3, .ref g4, .int (nI sk), .ref g5, .ref g6, .ref g7])), (h0, .inr (0, [.int (nI N), .ref h1, .ref h2, .ref h3, .ref h4, .ref h5, .ref h6])), (h1, .inl (E 0, 15, .inl hm)), (h2, .inl (E 0, 15, .inl aw)), (h3, .inl (E 0, 30, .inl rv)), (h4, .inl (E 0, 30, .inl sd)), (h5, .inl (E 0, 30, .inl gm)), (h6, .inl (E 0, 36, .inl ca)), (g1, .inl (E 0, 6, .inl xs)), (g2, .inl (E 0, 6, .inl ys)), (g3, .inl (E 1, 30, .inl bz)), (g4, .inl (E 0, 4, .inl rt))]) [0, 1, 2, 3, 4, 5, 6, 7, 8, 9, 10, 11] rfl
  have hDc := hD.sub (ws' := [(g0, .inr (2, [.ref h0, .ref g1, .ref g2, .ref g3, .ref g4, .int (nI sk), .ref g5, .ref g6, .ref g7])), (h0, .inr (0, [.int (nI N), .ref h1, .ref h2, .ref h3, .ref h4, .ref h5, .ref h6])), (h1, .inl (E 0, 15, .inl hm)), (h2, .inl (E 0, 15, .inl aw)), (h3, .inl (E 0, 30, .inl rv)), (h4, .inl (E 0, 30, .inl sd)), (h5, .inl (E 0, 30, .inl gm)), (h6, .inl (E 0, 36, .inl ca)), (g1, .inl (E 0, 6, .inl xs)), (g2, .inl (E 0, 6, .inl ys)), (g3, .inl (E 1, 30, .inl bz)), (g4, .inl (E 0, 4, .inl rt))]) [0, 1, 2, 3, 4, 5, 6, 7, 8, 9, 10, 11] (by decide +kernel) rfl
  have hAc := zw_AA (wc := [(g0, .inr (2, [.ref h0, .ref g1, .ref g2, .ref g3, .ref g4, .int (nI sk), .ref g5, .ref g6, .ref g7])), (h0, .inr (0, [.int (nI N), .ref h1, .ref h2, .ref h3, .ref h4, .ref h5, .ref h6])), (h1, .inl (E 0, 15, .inl hm)), (h2, .inl (E 0, 15, .inl aw)), (h3, .inl (E 0, 30, .inl rv)), (h4, .inl (E 0, 30, .inl sd)), (h5, .inl (E 0, 30, .inl gm)), (h6, .inl (E 0, 36, .inl ca)), (g1, .inl (E 0, 6, .inl xs)), (g2, .inl (E 0, 6, .inl ys)), (g3, .inl (E 1, 30, .inl bz)), (g4, .inl (E 0, 4, .inl rt))]) hD [0, 1, 2, 3, 4, 5, 6, 7, 8, 9, 10, 11] rfl
  refine zw_cf hAc hS (va_runV (As := []) (rest := []) ⟨hx, hb, hml, hown, hts⟩ (c_X3_fullCost l D E g0 g1 g2 g3 g4 g5 g6 g7 sk h0 h1 h2 h3 h4 h5 h6 N hm aw rv sd gm ca G P xs ys X Y bz B rt R (hpl) (hgr) (hbz) (hrt)) (cwV 0 hts gX3_takeStep_X3_fullCost rfl rfl rfl (by decide +kernel) ⟨Nat.le_of_ble_eq_true rfl, Nat.le_of_ble_eq_true rfl⟩) (zw_V hK hPc hDc (ci := 2) (q0 := 0) rfl rfl) rfl rfl hl.1 rfl (lv_room (Nat.le_of_ble_eq_true rfl)) dX3_takeStep_1 ⟨Nat.zero_le _, Nat.zero_le _⟩) (fun r_1 u_3 H locs hw_2 hP1 hD1 hk1 hS => ?_)
  obtain ⟨ca_4, rfl⟩ : ∃ z, z = u_3 := ⟨_, rfl⟩
  try dsimp only at hw_2 hP1 hD1
  obtain ⟨hP, hD⟩ := zw_join (wr := []) (w1 := [(g0, .inr (2, [.ref h0, .ref g1, .ref g2, .ref g3, .ref g4, .int (nI sk), .ref g5, .ref g6, .ref g7])), (h0, .inr (0, [.int (nI N), .ref h1, .ref h2, .ref h3, .ref h4, .ref h5, .ref h6])), (h1, .inl (E 0, 15, .inl hm)), (h2, .inl (E 0, 15, .inl aw)), (h3, .inl (E 0, 30, .inl rv)), (h4, .inl (E 0, 30, .inl sd)), (h5, .inl (E 0, 30, .inl gm)), (h6, .inl (E 0, 36, .inl ca_4)), (g1, .inl (E 0, 6, .inl xs)), (g2, .inl (E 0, 6, .inl ys)), (g3, .inl (E 1, 30, .inl bz)), (g4, .inl (E 0, 4, .inl rt))]) (ws' := [(g0, .inr (2, [.ref h0, .ref g1, .ref g2, .ref g3, .ref g4, .int (nI sk), .ref g5, .ref g6, .ref g7])), (h0, .inr (0, [.int (nI N), .ref h1, .ref h2, .ref h3, .ref h4, .ref h5, .ref h6])), (h1, .inl (E 0, 15, .inl hm)), (h2, .inl (E 0, 15, .inl aw)), (h3, .inl (E 0, 30, .inl rv)), (h4, .inl (E 0, 30, .inl sd)), (h5, .inl (E 0, 30, .inl gm)), (h6, .inl (E 0, 36, .inl ca_4)), (g1, .inl (E 0, 6, .inl xs)), (g2, .inl (E 0, 6, .inl ys)), (g3, .inl (E 1, 30, .inl bz)), (g4, .inl (E 0, 4, .inl rt))]) hP hD [0, 1, 2, 3, 4, 5, 6, 7, 8, 9, 10, 11] [] [0, 1, 2, 3, 4, 5, 6, 7, 8, 9, 10, 11] rfl rfl (by decide +kernel) (by decide +kernel) hAc hk1 hP1 hD1 (by decide +kernel) rfl
  clear hP1 hD1 hk1 hPc hDc hAc
  obtain ⟨rfl, hw_2⟩ := hw_2
  refine lv_fstore_n (lv' := [(2, .float (zf_cost R (zm_brs N P) (zm_vio N G B) (zm_car N G P) (zm_amiles N G P X Y))), (0, .ref g0), (1, .int (nI 2))]) hx hb dX3_takeStep_4 rfl hl (by decide) rfl (fun ls hl => ?_)
  refine lv_iconst (v := (-1)) hx hb dX3_takeStep_5 (by rfl) ?_
  refine lv_istore_n (lv' := [(3, .int (-1)), (2, .float (zf_cost R (zm_brs N P) (zm_vio N G B) (zm_car N G P) (zm_amiles N G P X Y))), (0, .ref g0), (1, .int (nI 2))]) hx hb dX3_takeStep_6 rfl hl (by decide) rfl (fun ls hl => ?_)
  refine lv_iconst (v := (-1)) hx hb dX3_takeStep_7 (by rfl) ?_
  refine lv_istore (lv' := [(4, .int (-1)), (3, .int (-1)), (2, .float (zf_cost R (zm_brs N P) (zm_vio N G B) (zm_car N G P) (zm_amiles N G P X Y))), (0, .ref g0), (1, .int (nI 2))]) hx hb dX3_takeStep_8 hl (by decide) rfl (fun ls hl => ?_)
  refine lv_iload_n hx hb dX3_takeStep_10 rfl (lv_at hl 4 rfl) ?_
  refine lv_iconst (v := nI 2) hx hb dX3_takeStep_11 (by rfl) ?_
  refine lv_icmp_ne (tgt := 25) hx hb dX3_takeStep_12 (by decide) (fun cn_5 => ?_) (fun cn_5 => ?_)
  · skip
    exact absurd cn_5 (by decide)
  · skip
    refine lv_aload_n hx hb dX3_takeStep_15 rfl (lv_at hl 3 rfl) ?_
    refine va_get (D := D) (ci := 2) (v := .ref h0) (C := RX3) (T := TX3) (N := 9) hx hb hts (by decide +kernel) hown hK.1 hP 0 rfl rfl 0 (by decide) (hts (.fieldLink RX3 12 "HomeRounds$Setting" "plan" "LHomeRounds$Plan;") (by decide +kernel)) (fun _ h9 => h9) rfl dX3_takeStep_16 ?_
    refine va_get (D := D) (ci := 0) (v := .int (nI N)) (C := RX1) (T := TX1) (N := 7) hx hb hts (by decide +kernel) hown hK.1 hP 1 rfl rfl 0 (by decide) (hts (.fieldLink RX3 105 "HomeRounds$Plan" "n" "I") (by decide +kernel)) (fun _ h9 => h9) rfl dX3_takeStep_19 ?_
    refine lv_goto (tgt := 34) hx hb dX3_takeStep_22 (by decide) ?_
    refine lv_istore (lv' := [(5, .int (nI N)), (4, .int (-1)), (3, .int (-1)), (2, .float (zf_cost R (zm_brs N P) (zm_vio N G B) (zm_car N G P) (zm_amiles N G P X Y))), (0, .ref g0), (1, .int (nI 2))]) hx hb dX3_takeStep_34 hl (by decide) rfl (fun ls hl => ?_)
    refine lv_aload_n hx hb dX3_takeStep_36 rfl (lv_at hl 4 rfl) ?_
    refine va_get (D := D) (ci := 2) (v := .ref h0) (C := RX3) (T := TX3) (N := 9) hx hb hts (by decide +kernel) hown hK.1 hP 0 rfl rfl 0 (by decide) (hts (.fieldLink RX3 12 "HomeRounds$Setting" "plan" "LHomeRounds$Plan;") (by decide +kernel)) (fun _ h9 => h9) rfl dX3_takeStep_37 ?_
    refine va_get (D := D) (ci := 0) (v := .int (nI N)) (C := RX1) (T := TX1) (N := 7) hx hb hts (by decide +kernel) hown hK.1 hP 1 rfl rfl 0 (by decide) (hts (.fieldLink RX3 105 "HomeRounds$Plan" "n" "I") (by decide +kernel)) (fun _ h9 => h9) rfl dX3_takeStep_40 ?_
    refine lv_iconst (v := nI 2) hx hb dX3_takeStep_43 (by rfl) ?_
    refine lv_idiv hx hb dX3_takeStep_44 (by decide) ?_
    refine zr_ti (y := nI (N / 2)) (pk_div (by omega) (by omega) (by omega)) ?_
    refine lv_istore (lv' := [(6, .int (nI (N / 2))), (5, .int (nI N)), (4, .int (-1)), (3, .int (-1)), (2, .float (zf_cost R (zm_brs N P) (zm_vio N G B) (zm_car N G P) (zm_amiles N G P X Y))), (0, .ref g0), (1, .int (nI 2))]) hx hb dX3_takeStep_45 hl (by decide) rfl (fun ls hl => ?_)
    refine lv_iconst (v := nI 0) hx hb dX3_takeStep_47 (by rfl) ?_
    refine lv_istore (lv' := [(7, .int (nI 0)), (6, .int (nI (N / 2))), (5, .int (nI N)), (4, .int (-1)), (3, .int (-1)), (2, .float (zf_cost R (zm_brs N P) (zm_vio N G B) (zm_car N G P) (zm_amiles N G P X Y))), (0, .ref g0), (1, .int (nI 2))]) hx hb dX3_takeStep_48 hl (by decide) rfl (fun ls hl => ?_)
    suffices KL50 : ∀ (kz : Nat) (a : Nat) (lz : UInt32) (ba : Int32) (bb : Int32) (hmv : Nat → Int32) (awv : Nat → Int32) (rvv : Nat → Int32) (sdv : Nat → Int32) (gmv : Nat → Int32) (cav : Nat → Int32) (H : Heap) (locs : List Loc) (ls : Array Slot), (N - a) < kz → (zm_best 2 R B X Y N G P = zb_out (fun a b => zm_cost R B X Y N (zm_opG 2 G a b) (zm_opP 2 P a b)) (zm_first 2) (fun _ => zm_last 2 N) (N - a) a (lz, ba, bb)) → (zm_val 2 N ba bb) → (zm_pl N G P hmv awv rvv sdv gmv) → (a ≤ N) → va_P D vwCl [(g0, .inr (2, [.ref h0, .ref g1, .ref g2, .ref g3, .ref g4, .int (nI sk), .ref g5, .ref g6, .ref g7])), (h0, .inr (0, [.int (nI N), .ref h1, .ref h2, .ref h3, .ref h4, .ref h5, .ref h6])), (h1, .inl (E 0, 15, .inl hmv)), (h2, .inl (E 0, 15, .inl awv)), (h3, .inl (E 0, 30, .inl rvv)), (h4, .inl (E 0, 30, .inl sdv)), (h5, .inl (E 0, 30, .inl gmv)), (h6, .inl (E 0, 36, .inl cav)), (g1, .inl (E 0, 6, .inl xs)), (g2, .inl (E 0, 6, .inl ys)), (g3, .inl (E 1, 30, .inl bz)), (g4, .inl (E 0, 4, .inl rt))] H → va_D A [(g0, .inr (2, [.ref h0, .ref g1, .ref g2, .ref g3, .ref g4, .int (nI sk), .ref g5, .ref g6, .ref g7])), (h0, .inr (0, [.int (nI N), .ref h1, .ref h2, .ref h3, .ref h4, .ref h5, .ref h6])), (h1, .inl (E 0, 15, .inl hmv)), (h2, .inl (E 0, 15, .inl awv)), (h3, .inl (E 0, 30, .inl rvv)), (h4, .inl (E 0, 30, .inl sdv)), (h5, .inl (E 0, 30, .inl gmv)), (h6, .inl (E 0, 36, .inl cav)), (g1, .inl (E 0, 6, .inl xs)), (g2, .inl (E 0, 6, .inl ys)), (g3, .inl (E 1, 30, .inl bz)), (g4, .inl (E 0, 4, .inl rt))] → va_S A s.heap H locs → lv_has ls 12 [(0, .ref g0), (1, .int (nI 2)), (2, .float lz), (3, .int ba), (4, .int bb), (5, .int (nI N)), (6, .int (nI (N / 2))), (7, .int (nI a))] → W p l e (headSpec wsX3_takeStep ({ frames := 6, cells := 0, slots := 0, locals := 137 })).room s m ([.ref g0, .int (nI 2)] : List Value).toArray below meth c H locs 0 0 Q (F0 m 50 ls []) from
      KL50 _ 0 (zf_cost R (zm_brs N P) (zm_vio N G B) (zm_car N G P) (zm_amiles N G P X Y)) (-1) (-1) hm aw rv sd gm ca_4 _ _ ls (Nat.lt_succ_self _) (rfl) (Or.inl rfl) (hpl) (by omega) hP hD hS (lv_sub hl [6, 7, 5, 4, 3, 2, 1, 0] rfl)
    clear hP hS hl hD
    intro kz
    induction kz with
    | zero => intro a lz ba bb hmv awv rvv sdv gmv cav H locs ls hkz; exact absurd hkz (Nat.not_lt_zero _)
    | succ kz ih50 =>
      intro a lz ba bb hmv awv rvv sdv gmv cav H locs ls hkz hO hV hplv haE hP hD hS hl
      refine lv_iload hx hb dX3_takeStep_50 (lv_at hl 7 rfl) ?_
      refine lv_iload hx hb dX3_takeStep_52 (lv_at hl 5 rfl) ?_
      refine lv_icmp_ge (tgt := 137) hx hb dX3_takeStep_54 (by decide) (fun cn_6 => ?_) (fun cn_6 => ?_)
      · skip
        have cn_6 : N ≤ a := (nI_leI (a := N) (b := a) (by omega) (by omega)).mp cn_6
        have haE2 : N ≤ a := by omega
        have hbest := hO.trans (zb_out_e haE2)
        refine lv_iload_n hx hb dX3_takeStep_137 rfl (lv_at hl 3 rfl) ?_
        refine lv_iconst (v := (-1)) hx hb dX3_takeStep_138 (by rfl) ?_
        refine lv_icmp_ne (tgt := 144) hx hb dX3_takeStep_139 (by decide) (fun cn_7 => ?_) (fun cn_7 => ?_)
        · skip
          have hsome := cn_7
          obtain ⟨a9, b9, rfl, rfl, ha9, hb9⟩ := Or.resolve_left hV hsome
          have ha9 : a9 < N := ha9
          have hb9 : b9 < N := hb9
          refine lv_aload_n hx hb dX3_takeStep_144 rfl (lv_at hl 0 rfl) ?_
          refine lv_iload_n hx hb dX3_takeStep_145 rfl (lv_at hl 1 rfl) ?_
          refine lv_iload_n hx hb dX3_takeStep_146 rfl (lv_at hl 3 rfl) ?_
          refine lv_iload hx hb dX3_takeStep_147 (lv_at hl 4 rfl) ?_
          have hPc := hP.sub (ws' := [(g0, .inr (2, [.ref h0, .ref g1, .ref g2, .ref g3, .ref g4, .int (nI sk), .ref g5, .ref g6, .ref g7])), (h0, .inr (0, [.int (nI N), .ref h1, .ref h2, .ref h3, .ref h4, .ref h5, .ref h6])), (h1, .inl (E 0, 15, .inl hmv)), (h2, .inl (E 0, 15, .inl awv)), (h3, .inl (E 0, 30, .inl rvv)), (h4, .inl (E 0, 30, .inl sdv)), (h5, .inl (E 0, 30, .inl gmv)), (h6, .inl (E 0, 36, .inl cav))]) [0, 1, 2, 3, 4, 5, 6, 7] rfl
          have hDc := hD.sub (ws' := [(g0, .inr (2, [.ref h0, .ref g1, .ref g2, .ref g3, .ref g4, .int (nI sk), .ref g5, .ref g6, .ref g7])), (h0, .inr (0, [.int (nI N), .ref h1, .ref h2, .ref h3, .ref h4, .ref h5, .ref h6])), (h1, .inl (E 0, 15, .inl hmv)), (h2, .inl (E 0, 15, .inl awv)), (h3, .inl (E 0, 30, .inl rvv)), (h4, .inl (E 0, 30, .inl sdv)), (h5, .inl (E 0, 30, .inl gmv)), (h6, .inl (E 0, 36, .inl cav))]) [0, 1, 2, 3, 4, 5, 6, 7] (by decide +kernel) rfl
          have hAc := zw_AA (wc := [(g0, .inr (2, [.ref h0, .ref g1, .ref g2, .ref g3, .ref g4, .int (nI sk), .ref g5, .ref g6, .ref g7])), (h0, .inr (0, [.int (nI N), .ref h1, .ref h2, .ref h3, .ref h4, .ref h5, .ref h6])), (h1, .inl (E 0, 15, .inl hmv)), (h2, .inl (E 0, 15, .inl awv)), (h3, .inl (E 0, 30, .inl rvv)), (h4, .inl (E 0, 30, .inl sdv)), (h5, .inl (E 0, 30, .inl gmv)), (h6, .inl (E 0, 36, .inl cav))]) hD [0, 1, 2, 3, 4, 5, 6, 7] rfl
          refine zw_cv hAc hS (va_runV (As := [.int (nI 2), .int (nI a9), .int (nI b9)]) (rest := []) ⟨hx, hb, hml, hown, hts⟩ (c_X3_change_2 l D E g0 g1 g2 g3 g4 g5 g6 g7 sk h0 h1 h2 h3 h4 h5 h6 N hmv awv rvv sdv gmv cav G P a9 b9 (hplv) (ha9) (hb9)) (cwV 3 hts gX3_takeStep_X3_change rfl rfl rfl (by decide +kernel) ⟨Nat.le_of_ble_eq_true rfl, Nat.le_of_ble_eq_true rfl⟩) (zw_V hK hPc hDc (ci := 2) (q0 := 0) rfl rfl) rfl rfl hl.1 rfl (lv_room (Nat.le_of_ble_eq_true rfl)) dX3_takeStep_149 ⟨Nat.zero_le _, Nat.zero_le _⟩) (fun u_10 H locs hw_9 hP1 hD1 hk1 hS => ?_)
          obtain ⟨hm_11, aw_12, rv_13, sd_14, gm_15⟩ := u_10
          try dsimp only at hw_9 hP1 hD1
          obtain ⟨hP, hD⟩ := zw_join (wr := [(g1, .inl (E 0, 6, .inl xs)), (g2, .inl (E 0, 6, .inl ys)), (g3, .inl (E 1, 30, .inl bz)), (g4, .inl (E 0, 4, .inl rt))]) (w1 := [(g0, .inr (2, [.ref h0, .ref g1, .ref g2, .ref g3, .ref g4, .int (nI sk), .ref g5, .ref g6, .ref g7])), (h0, .inr (0, [.int (nI N), .ref h1, .ref h2, .ref h3, .ref h4, .ref h5, .ref h6])), (h1, .inl (E 0, 15, .inl hm_11)), (h2, .inl (E 0, 15, .inl aw_12)), (h3, .inl (E 0, 30, .inl rv_13)), (h4, .inl (E 0, 30, .inl sd_14)), (h5, .inl (E 0, 30, .inl gm_15)), (h6, .inl (E 0, 36, .inl cav))]) (ws' := [(g0, .inr (2, [.ref h0, .ref g1, .ref g2, .ref g3, .ref g4, .int (nI sk), .ref g5, .ref g6, .ref g7])), (h0, .inr (0, [.int (nI N), .ref h1, .ref h2, .ref h3, .ref h4, .ref h5, .ref h6])), (h1, .inl (E 0, 15, .inl hm_11)), (h2, .inl (E 0, 15, .inl aw_12)), (h3, .inl (E 0, 30, .inl rv_13)), (h4, .inl (E 0, 30, .inl sd_14)), (h5, .inl (E 0, 30, .inl gm_15)), (h6, .inl (E 0, 36, .inl cav)), (g1, .inl (E 0, 6, .inl xs)), (g2, .inl (E 0, 6, .inl ys)), (g3, .inl (E 1, 30, .inl bz)), (g4, .inl (E 0, 4, .inl rt))]) hP hD [0, 1, 2, 3, 4, 5, 6, 7] [8, 9, 10, 11] [4, 5, 6, 7, 8, 9, 10, 11, 0, 1, 2, 3] rfl rfl (by decide +kernel) (by decide +kernel) hAc hk1 hP1 hD1 (by decide +kernel) rfl
          clear hP1 hD1 hk1 hPc hDc hAc
          have hpe := hw_9
          refine lv_iconst (v := nI 1) hx hb dX3_takeStep_152 (by rfl) ?_
          subst hQ; subst hAe
          exact W.zret (v := nI 1) hx hb hr (by decide) (fun tz htz hWz => ⟨⟨nI 1, (hm_11, aw_12, rv_13, sd_14, gm_15, cav), rfl, Or.inr ⟨a9, b9, zm_step_s (by omega) (by omega) hbest, rfl, hpe⟩, by rw [htz]; exact hP, hD⟩, hS.F htz⟩) hS.2.2 dX3_takeStep_153
        · skip
          have hnone := cn_7
          refine lv_iconst (v := nI 0) hx hb dX3_takeStep_142 (by rfl) ?_
          subst hQ; subst hAe
          exact W.zret (v := nI 0) hx hb hr (by decide) (fun tz htz hWz => ⟨⟨nI 0, (hmv, awv, rvv, sdv, gmv, cav), rfl, Or.inl ⟨zm_step_n (by rw [hbest, hnone]), rfl, hplv⟩, by rw [htz]; exact hP, hD⟩, hS.F htz⟩) hS.2.2 dX3_takeStep_143
      · skip
        have cn_6 : ¬ (N ≤ a) := fun hz => cn_6 ((nI_leI (a := N) (b := a) (by omega) (by omega)).mpr hz)
        have haL : a < N := by omega
        refine lv_iload_n hx hb dX3_takeStep_57 rfl (lv_at hl 1 rfl) ?_
        refine lv_iconst (v := nI 1) hx hb dX3_takeStep_58 (by rfl) ?_
        refine lv_icmp_ne (tgt := 66) hx hb dX3_takeStep_59 (by decide) (fun cn_16 => ?_) (fun cn_16 => ?_)
        · skip
          refine lv_iload hx hb dX3_takeStep_66 (lv_at hl 7 rfl) ?_
          refine lv_iconst (v := nI 1) hx hb dX3_takeStep_68 (by rfl) ?_
          refine lv_iadd hx hb dX3_takeStep_69 ?_
          refine zr_ti (y := nI (a + 1)) (nI_add _ _) ?_
          refine lv_istore (lv' := [(8, .int (nI (a + 1))), (0, .ref g0), (1, .int (nI 2)), (2, .float lz), (3, .int ba), (4, .int bb), (5, .int (nI N)), (6, .int (nI (N / 2))), (7, .int (nI a))]) hx hb dX3_takeStep_70 hl (by decide) rfl (fun ls hl => ?_)
          refine lv_iload_n hx hb dX3_takeStep_72 rfl (lv_at hl 2 rfl) ?_
          refine lv_iconst (v := nI 1) hx hb dX3_takeStep_73 (by rfl) ?_
          refine lv_icmp_ne (tgt := 82) hx hb dX3_takeStep_74 (by decide) (fun cn_17 => ?_) (fun cn_17 => ?_)
          · skip
            refine lv_iload hx hb dX3_takeStep_82 (lv_at hl 6 rfl) ?_
            refine lv_istore (lv' := [(9, .int (nI N)), (8, .int (nI (a + 1))), (0, .ref g0), (1, .int (nI 2)), (2, .float lz), (3, .int ba), (4, .int bb), (5, .int (nI N)), (6, .int (nI (N / 2))), (7, .int (nI a))]) hx hb dX3_takeStep_84 hl (by decide) rfl (fun ls hl => ?_)
            refine lv_iload hx hb dX3_takeStep_86 (lv_at hl 1 rfl) ?_
            refine lv_istore (lv' := [(10, .int (nI (a + 1))), (9, .int (nI N)), (8, .int (nI (a + 1))), (0, .ref g0), (1, .int (nI 2)), (2, .float lz), (3, .int ba), (4, .int bb), (5, .int (nI N)), (6, .int (nI (N / 2))), (7, .int (nI a))]) hx hb dX3_takeStep_88 hl (by decide) rfl (fun ls hl => ?_)
            suffices KL90 : ∀ (kz : Nat) (b : Nat) (ly : UInt32) (bay : Int32) (bby : Int32) (hmy : Nat → Int32) (awy : Nat → Int32) (rvy : Nat → Int32) (sdy : Nat → Int32) (gmy : Nat → Int32) (cay : Nat → Int32) (H : Heap) (locs : List Loc) (ls : Array Slot), (10 - b) < kz → (zb_in ((fun a b => zm_cost R B X Y N (zm_opG 2 G a b) (zm_opP 2 P a b)) a) a ((fun _ => zm_last 2 N) a - zm_first 2 a) (zm_first 2 a) (lz, ba, bb) = zb_in ((fun a b => zm_cost R B X Y N (zm_opG 2 G a b) (zm_opP 2 P a b)) a) a (N - b) b (ly, bay, bby)) → (zm_val 2 N bay bby) → (zm_pl N G P hmy awy rvy sdy gmy) → (b ≤ 6) → va_P D vwCl [(g0, .inr (2, [.ref h0, .ref g1, .ref g2, .ref g3, .ref g4, .int (nI sk), .ref g5, .ref g6, .ref g7])), (h0, .inr (0, [.int (nI N), .ref h1, .ref h2, .ref h3, .ref h4, .ref h5, .ref h6])), (h1, .inl (E 0, 15, .inl hmy)), (h2, .inl (E 0, 15, .inl awy)), (h3, .inl (E 0, 30, .inl rvy)), (h4, .inl (E 0, 30, .inl sdy)), (h5, .inl (E 0, 30, .inl gmy)), (h6, .inl (E 0, 36, .inl cay)), (g1, .inl (E 0, 6, .inl xs)), (g2, .inl (E 0, 6, .inl ys)), (g3, .inl (E 1, 30, .inl bz)), (g4, .inl (E 0, 4, .inl rt))] H → va_D A [(g0, .inr (2, [.ref h0, .ref g1, .ref g2, .ref g3, .ref g4, .int (nI sk), .ref g5, .ref g6, .ref g7])), (h0, .inr (0, [.int (nI N), .ref h1, .ref h2, .ref h3, .ref h4, .ref h5, .ref h6])), (h1, .inl (E 0, 15, .inl hmy)), (h2, .inl (E 0, 15, .inl awy)), (h3, .inl (E 0, 30, .inl rvy)), (h4, .inl (E 0, 30, .inl sdy)), (h5, .inl (E 0, 30, .inl gmy)), (h6, .inl (E 0, 36, .inl cay)), (g1, .inl (E 0, 6, .inl xs)), (g2, .inl (E 0, 6, .inl ys)), (g3, .inl (E 1, 30, .inl bz)), (g4, .inl (E 0, 4, .inl rt))] → va_S A s.heap H locs → lv_has ls 12 [(0, .ref g0), (1, .int (nI 2)), (2, .float ly), (3, .int bay), (4, .int bby), (5, .int (nI N)), (6, .int (nI (N / 2))), (7, .int (nI a)), (9, .int (nI N)), (10, .int (nI b))] → W p l e (headSpec wsX3_takeStep ({ frames := 6, cells := 0, slots := 0, locals := 137 })).room s m ([.ref g0, .int (nI 2)] : List Value).toArray below meth c H locs 0 0 Q (F0 m 90 ls []) from
              KL90 _ (a + 1) lz ba bb hmv awv rvv sdv gmv cav _ _ ls (Nat.lt_succ_self _) (rfl) (hV) (hplv) (by omega) hP hD hS (lv_sub hl [3, 4, 5, 6, 7, 8, 9, 10, 1, 0] rfl)
            clear hP hS hl hD
            intro kz
            induction kz with
            | zero => intro b ly bay bby hmy awy rvy sdy gmy cay H locs ls hkz; exact absurd hkz (Nat.not_lt_zero _)
            | succ kz ih90 =>
              intro b ly bay bby hmy awy rvy sdy gmy cay H locs ls hkz hI hV2 hply hb6 hP hD hS hl
              refine lv_iload hx hb dX3_takeStep_90 (lv_at hl 9 rfl) ?_
              refine lv_iload hx hb dX3_takeStep_92 (lv_at hl 8 rfl) ?_
              refine lv_icmp_ge (tgt := 131) hx hb dX3_takeStep_94 (by decide) (fun cn_18 => ?_) (fun cn_18 => ?_)
              · skip
                have cn_18 : N ≤ b := (nI_leI (a := N) (b := b) (by omega) (by omega)).mp cn_18
                have hbE : N ≤ b := by omega
                refine lv_iinc (v := nI (a + 1)) (lv' := [(7, .int (nI (a + 1))), (0, .ref g0), (1, .int (nI 2)), (2, .float ly), (3, .int bay), (4, .int bby), (5, .int (nI N)), (6, .int (nI (N / 2))), (9, .int (nI N)), (10, .int (nI b))]) hx hb dX3_takeStep_131 hl (k := 7) rfl (nI_add _ _) (by decide) rfl (fun ls hl => ?_)
                refine lv_goto (tgt := 50) hx hb dX3_takeStep_134 (by decide) ?_
                have hl : lv_has ls 12 [(0, .ref g0), (1, .int (nI 2)), (2, .float ly), (3, .int bay), (4, .int bby), (5, .int (nI N)), (6, .int (nI (N / 2))), (7, .int (nI (a + 1)))] := lv_sub hl [1, 2, 3, 4, 5, 6, 7, 0] rfl
                exact ih50 (a + 1) ly bay bby hmy awy rvy sdy gmy cay H locs ls (by omega) (by rw [hO, zb_out_s haL]; exact congrArg (fun s => zb_out (fun a b => zm_cost R B X Y N (zm_opG 2 G a b) (zm_opP 2 P a b)) (zm_first 2) (fun _ => zm_last 2 N) (N - (a + 1)) (a + 1) s) (hI.trans (zb_in_e hbE))) (hV2) (hply) (by omega) hP hD hS hl
              · skip
                have cn_18 : ¬ (N ≤ b) := fun hz => cn_18 ((nI_leI (a := N) (b := b) (by omega) (by omega)).mpr hz)
                have hbL : b < N := by omega
                refine lv_aload_n hx hb dX3_takeStep_97 rfl (lv_at hl 0 rfl) ?_
                refine lv_iload_n hx hb dX3_takeStep_98 rfl (lv_at hl 1 rfl) ?_
                refine lv_iload hx hb dX3_takeStep_99 (lv_at hl 7 rfl) ?_
                refine lv_iload hx hb dX3_takeStep_101 (lv_at hl 9 rfl) ?_
                have hPc := hP.sub (ws' := [(g0, .inr (2, [.ref h0, .ref g1, .ref g2, .ref g3, .ref g4, .int (nI sk), .ref g5, .ref g6, .ref g7])), (h0, .inr (0, [.int (nI N), .ref h1, .ref h2, .ref h3, .ref h4, .ref h5, .ref h6])), (h1, .inl (E 0, 15, .inl hmy)), (h2, .inl (E 0, 15, .inl awy)), (h3, .inl (E 0, 30, .inl rvy)), (h4, .inl (E 0, 30, .inl sdy)), (h5, .inl (E 0, 30, .inl gmy)), (h6, .inl (E 0, 36, .inl cay)), (g1, .inl (E 0, 6, .inl xs)), (g2, .inl (E 0, 6, .inl ys)), (g3, .inl (E 1, 30, .inl bz)), (g4, .inl (E 0, 4, .inl rt))]) [0, 1, 2, 3, 4, 5, 6, 7, 8, 9, 10, 11] rfl
                have hDc := hD.sub (ws' := [(g0, .inr (2, [.ref h0, .ref g1, .ref g2, .ref g3, .ref g4, .int (nI sk), .ref g5, .ref g6, .ref g7])), (h0, .inr (0, [.int (nI N), .ref h1, .ref h2, .ref h3, .ref h4, .ref h5, .ref h6])), (h1, .inl (E 0, 15, .inl hmy)), (h2, .inl (E 0, 15, .inl awy)), (h3, .inl (E 0, 30, .inl rvy)), (h4, .inl (E 0, 30, .inl sdy)), (h5, .inl (E 0, 30, .inl gmy)), (h6, .inl (E 0, 36, .inl cay)), (g1, .inl (E 0, 6, .inl xs)), (g2, .inl (E 0, 6, .inl ys)), (g3, .inl (E 1, 30, .inl bz)), (g4, .inl (E 0, 4, .inl rt))]) [0, 1, 2, 3, 4, 5, 6, 7, 8, 9, 10, 11] (by decide +kernel) rfl
                have hAc := zw_AA (wc := [(g0, .inr (2, [.ref h0, .ref g1, .ref g2, .ref g3, .ref g4, .int (nI sk), .ref g5, .ref g6, .ref g7])), (h0, .inr (0, [.int (nI N), .ref h1, .ref h2, .ref h3, .ref h4, .ref h5, .ref h6])), (h1, .inl (E 0, 15, .inl hmy)), (h2, .inl (E 0, 15, .inl awy)), (h3, .inl (E 0, 30, .inl rvy)), (h4, .inl (E 0, 30, .inl sdy)), (h5, .inl (E 0, 30, .inl gmy)), (h6, .inl (E 0, 36, .inl cay)), (g1, .inl (E 0, 6, .inl xs)), (g2, .inl (E 0, 6, .inl ys)), (g3, .inl (E 1, 30, .inl bz)), (g4, .inl (E 0, 4, .inl rt))]) hD [0, 1, 2, 3, 4, 5, 6, 7, 8, 9, 10, 11] rfl
                refine zw_cf hAc hS (va_runV (As := [.int (nI 2), .int (nI a), .int (nI b)]) (rest := []) ⟨hx, hb, hml, hown, hts⟩ (c_X3_costIf_2 l D E g0 g1 g2 g3 g4 g5 g6 g7 sk h0 h1 h2 h3 h4 h5 h6 N hmy awy rvy sdy gmy cay G P xs ys X Y bz B rt R a b (hply) (hgr) (hbz) (hrt) (haL) (hbL)) (cwV 3 hts gX3_takeStep_X3_costIf rfl rfl rfl (by decide +kernel) ⟨Nat.le_of_ble_eq_true rfl, Nat.le_of_ble_eq_true rfl⟩) (zw_V hK hPc hDc (ci := 2) (q0 := 0) rfl rfl) rfl rfl hl.1 rfl (lv_room (Nat.le_of_ble_eq_true rfl)) dX3_takeStep_103 ⟨Nat.zero_le _, Nat.zero_le _⟩) (fun r_19 u_21 H locs hw_20 hP1 hD1 hk1 hS => ?_)
                obtain ⟨hm_22, aw_23, rv_24, sd_25, gm_26, ca_27⟩ := u_21
                try dsimp only at hw_20 hP1 hD1
                obtain ⟨hP, hD⟩ := zw_join (wr := []) (w1 := [(g0, .inr (2, [.ref h0, .ref g1, .ref g2, .ref g3, .ref g4, .int (nI sk), .ref g5, .ref g6, .ref g7])), (h0, .inr (0, [.int (nI N), .ref h1, .ref h2, .ref h3, .ref h4, .ref h5, .ref h6])), (h1, .inl (E 0, 15, .inl hm_22)), (h2, .inl (E 0, 15, .inl aw_23)), (h3, .inl (E 0, 30, .inl rv_24)), (h4, .inl (E 0, 30, .inl sd_25)), (h5, .inl (E 0, 30, .inl gm_26)), (h6, .inl (E 0, 36, .inl ca_27)), (g1, .inl (E 0, 6, .inl xs)), (g2, .inl (E 0, 6, .inl ys)), (g3, .inl (E 1, 30, .inl bz)), (g4, .inl (E 0, 4, .inl rt))]) (ws' := [(g0, .inr (2, [.ref h0, .ref g1, .ref g2, .ref g3, .ref g4, .int (nI sk), .ref g5, .ref g6, .ref g7])), (h0, .inr (0, [.int (nI N), .ref h1, .ref h2, .ref h3, .ref h4, .ref h5, .ref h6])), (h1, .inl (E 0, 15, .inl hm_22)), (h2, .inl (E 0, 15, .inl aw_23)), (h3, .inl (E 0, 30, .inl rv_24)), (h4, .inl (E 0, 30, .inl sd_25)), (h5, .inl (E 0, 30, .inl gm_26)), (h6, .inl (E 0, 36, .inl ca_27)), (g1, .inl (E 0, 6, .inl xs)), (g2, .inl (E 0, 6, .inl ys)), (g3, .inl (E 1, 30, .inl bz)), (g4, .inl (E 0, 4, .inl rt))]) hP hD [0, 1, 2, 3, 4, 5, 6, 7, 8, 9, 10, 11] [] [0, 1, 2, 3, 4, 5, 6, 7, 8, 9, 10, 11] rfl rfl (by decide +kernel) (by decide +kernel) hAc hk1 hP1 hD1 (by decide +kernel) rfl
                clear hP1 hD1 hk1 hPc hDc hAc
                obtain ⟨rfl, hw_20⟩ := hw_20
                have hpz := hw_20
                refine lv_fstore (lv' := [(11, .float (zm_cost R B X Y N (zm_exG G a b) (zm_exP P a b))), (0, .ref g0), (1, .int (nI 2)), (2, .float ly), (3, .int bay), (4, .int bby), (5, .int (nI N)), (6, .int (nI (N / 2))), (7, .int (nI a)), (9, .int (nI N)), (10, .int (nI b))]) hx hb dX3_takeStep_106 hl (by decide) rfl (fun ls hl => ?_)
                refine lv_fload hx hb dX3_takeStep_108 (lv_at hl 0 rfl) ?_
                refine lv_fload_n hx hb dX3_takeStep_110 rfl (lv_at hl 3 rfl) ?_
                refine lv_fcmp hx hb dX3_takeStep_111 ?_
                refine lv_if_ge (tgt := 125) hx hb dX3_takeStep_112 (by decide) (fun cn_28 => ?_) (fun cn_28 => ?_)
                · skip
                  have hbr := cn_28
                  refine lv_iinc (v := nI (b + 1)) (lv' := [(10, .int (nI (b + 1))), (11, .float (zm_cost R B X Y N (zm_exG G a b) (zm_exP P a b))), (0, .ref g0), (1, .int (nI 2)), (2, .float ly), (3, .int bay), (4, .int bby), (5, .int (nI N)), (6, .int (nI (N / 2))), (7, .int (nI a)), (9, .int (nI N))]) hx hb dX3_takeStep_125 hl (k := 10) rfl (nI_add _ _) (by decide) rfl (fun ls hl => ?_)
                  refine lv_goto (tgt := 90) hx hb dX3_takeStep_128 (by decide) ?_
                  have hl : lv_has ls 12 [(0, .ref g0), (1, .int (nI 2)), (2, .float ly), (3, .int bay), (4, .int bby), (5, .int (nI N)), (6, .int (nI (N / 2))), (7, .int (nI a)), (9, .int (nI N)), (10, .int (nI (b + 1)))] := lv_sub hl [2, 3, 4, 5, 6, 7, 8, 9, 10, 0] rfl
                  exact ih90 (b + 1) ly bay bby hm_22 aw_23 rv_24 sd_25 gm_26 ca_27 H locs ls (by omega) (by first | exact (hI.trans (zb_in_s hbL)).trans (congrArg (zb_in ((fun a b => zm_cost R B X Y N (zm_opG 2 G a b) (zm_opP 2 P a b)) a) a (N - (b + 1)) (b + 1)) (zb_one_t (s := (ly, bay, bby)) hbr)) | exact (hI.trans (zb_in_s hbL)).trans (congrArg (zb_in ((fun a b => zm_cost R B X Y N (zm_opG 2 G a b) (zm_opP 2 P a b)) a) a (N - (b + 1)) (b + 1)) (zb_one_f (s := (ly, bay, bby)) hbr))) (by first | exact hV2 | exact Or.inr ⟨a, b, rfl, rfl, haL, hbL⟩) (hpz) (by omega) hP hD hS hl
                · skip
                  have hbr := cn_28
                  refine lv_fload hx hb dX3_takeStep_115 (lv_at hl 0 rfl) ?_
                  refine lv_fstore_n (lv' := [(2, .float (zm_cost R B X Y N (zm_exG G a b) (zm_exP P a b))), (11, .float (zm_cost R B X Y N (zm_exG G a b) (zm_exP P a b))), (0, .ref g0), (1, .int (nI 2)), (3, .int bay), (4, .int bby), (5, .int (nI N)), (6, .int (nI (N / 2))), (7, .int (nI a)), (9, .int (nI N)), (10, .int (nI b))]) hx hb dX3_takeStep_117 rfl hl (by decide) rfl (fun ls hl => ?_)
                  refine lv_iload hx hb dX3_takeStep_118 (lv_at hl 8 rfl) ?_
                  refine lv_istore_n (lv' := [(3, .int (nI a)), (2, .float (zm_cost R B X Y N (zm_exG G a b) (zm_exP P a b))), (11, .float (zm_cost R B X Y N (zm_exG G a b) (zm_exP P a b))), (0, .ref g0), (1, .int (nI 2)), (4, .int bby), (5, .int (nI N)), (6, .int (nI (N / 2))), (7, .int (nI a)), (9, .int (nI N)), (10, .int (nI b))]) hx hb dX3_takeStep_120 rfl hl (by decide) rfl (fun ls hl => ?_)
                  refine lv_iload hx hb dX3_takeStep_121 (lv_at hl 10 rfl) ?_
                  refine lv_istore (lv' := [(4, .int (nI b)), (3, .int (nI a)), (2, .float (zm_cost R B X Y N (zm_exG G a b) (zm_exP P a b))), (11, .float (zm_cost R B X Y N (zm_exG G a b) (zm_exP P a b))), (0, .ref g0), (1, .int (nI 2)), (5, .int (nI N)), (6, .int (nI (N / 2))), (7, .int (nI a)), (9, .int (nI N)), (10, .int (nI b))]) hx hb dX3_takeStep_123 hl (by decide) rfl (fun ls hl => ?_)
                  refine lv_iinc (v := nI (b + 1)) (lv' := [(10, .int (nI (b + 1))), (4, .int (nI b)), (3, .int (nI a)), (2, .float (zm_cost R B X Y N (zm_exG G a b) (zm_exP P a b))), (11, .float (zm_cost R B X Y N (zm_exG G a b) (zm_exP P a b))), (0, .ref g0), (1, .int (nI 2)), (5, .int (nI N)), (6, .int (nI (N / 2))), (7, .int (nI a)), (9, .int (nI N))]) hx hb dX3_takeStep_125 hl (k := 10) rfl (nI_add _ _) (by decide) rfl (fun ls hl => ?_)
                  refine lv_goto (tgt := 90) hx hb dX3_takeStep_128 (by decide) ?_
                  have hl : lv_has ls 12 [(0, .ref g0), (1, .int (nI 2)), (2, .float (zm_cost R B X Y N (zm_exG G a b) (zm_exP P a b))), (3, .int (nI a)), (4, .int (nI b)), (5, .int (nI N)), (6, .int (nI (N / 2))), (7, .int (nI a)), (9, .int (nI N)), (10, .int (nI (b + 1)))] := lv_sub hl [5, 6, 3, 2, 1, 7, 8, 9, 10, 0] rfl
                  exact ih90 (b + 1) (zm_cost R B X Y N (zm_exG G a b) (zm_exP P a b)) (nI a) (nI b) hm_22 aw_23 rv_24 sd_25 gm_26 ca_27 H locs ls (by omega) (by first | exact (hI.trans (zb_in_s hbL)).trans (congrArg (zb_in ((fun a b => zm_cost R B X Y N (zm_opG 2 G a b) (zm_opP 2 P a b)) a) a (N - (b + 1)) (b + 1)) (zb_one_t (s := (ly, bay, bby)) hbr)) | exact (hI.trans (zb_in_s hbL)).trans (congrArg (zb_in ((fun a b => zm_cost R B X Y N (zm_opG 2 G a b) (zm_opP 2 P a b)) a) a (N - (b + 1)) (b + 1)) (zb_one_f (s := (ly, bay, bby)) hbr))) (by first | exact hV2 | exact Or.inr ⟨a, b, rfl, rfl, haL, hbL⟩) (hpz) (by omega) hP hD hS hl
          · skip
            exact absurd cn_17 (by decide)
        · skip
          exact absurd cn_16 (by decide)

set_option maxHeartbeats 4000000 in
set_option maxRecDepth 100000 in
theorem c_X8_does_0 (l : Launch) (D : va_G) (E : Nat → ClassId) (m0 : Nat) (w0 : Nat) (w1 : Nat) (w2 : Nat) (w3 : Nat) (w4 : Nat) (w5 : Nat) (w6 : Nat) (w7 : Nat) (w8 : Nat) (w9 : Nat) (ik : Int32) (tx : Nat) (he : Int32) (fa : Int32) (cl : Nat) (wv : Nat → Int32) (N : Nat) (G : Nat → Nat → Nat) (P : Nat → Nat → Nat) (a : Nat) (b : Nat) (hvg : zv_g N G P wv) (ha0 : a < N - 1) (hb0 : b < N / 2) : Met l yX8_does wsX8_does ({ frames := 2, cells := 0, slots := 0, locals := 46 }) (zw_P D E [.ref m0, .int (nI 0), .int (nI a), .int (nI b)] [(m0, .inr (6, [.ref w0, .ref w1, .ref w2, .int ik, .ref w3, .int (nI tx), .int he, .int fa, .ref w4, .ref w5, .int (nI cl), .ref w6, .ref w7, .ref w8, .ref w9])), (w0, .inl (E 0, 137, .inl wv))]) (zw_Qv D [(m0, .inr (6, [.ref w0, .ref w1, .ref w2, .int ik, .ref w3, .int (nI tx), .int he, .int fa, .ref w4, .ref w5, .int (nI cl), .ref w6, .ref w7, .ref w8, .ref w9])), (w0, .inl (E 0, 137, .inl wv))] (fun (u : (Nat → Int32)) => zv_g N (zm_tuG G a b) (zm_tuP P a b) u ∧ zv_off wv u) (fun (u : (Nat → Int32)) => [(m0, .inr (6, [.ref w0, .ref w1, .ref w2, .int ik, .ref w3, .int (nI tx), .int he, .int fa, .ref w4, .ref w5, .int (nI cl), .ref w6, .ref w7, .ref w8, .ref w9])), (w0, .inl (E 0, 137, .inl u))])) 0 0 (zw_A [(m0, .inr (6, [.ref w0, .ref w1, .ref w2, .int ik, .ref w3, .int (nI tx), .int he, .int fa, .ref w4, .ref w5, .int (nI cl), .ref w6, .ref w7, .ref w8, .ref w9])), (w0, .inl (E 0, 137, .inl wv))]) := by
  refine Met.ofW (cc := cX8_does) (maxL := 4) (ret := none) (by decide) rfl ?_
  intro p e s m args below meth c s₁ Bz hml hv
  obtain ⟨rfl, hP, hK, hD0⟩ := hv
  have hx := Bz.exec
  have hb := Bz.bytes
  have hr := Bz.returns
  have hts := atoms_spec (ws := wsX8_does) Bz.pre
  have hown : s.vm.findClass RX8 = some m.cls := findClass_of_methodNamed Bz.named
  have hlocks := Bz.notSynchronized
  have hP : va_P D vwCl [(m0, .inr (6, [.ref w0, .ref w1, .ref w2, .int ik, .ref w3, .int (nI tx), .int he, .int fa, .ref w4, .ref w5, .int (nI cl), .ref w6, .ref w7, .ref w8, .ref w9])), (w0, .inl (E 0, 137, .inl wv))] s.heap := hP
  obtain ⟨A, hAe⟩ : ∃ A : Nat → Prop, A = zw_A [(m0, .inr (6, [.ref w0, .ref w1, .ref w2, .int ik, .ref w3, .int (nI tx), .int he, .int fa, .ref w4, .ref w5, .int (nI cl), .ref w6, .ref w7, .ref w8, .ref w9])), (w0, .inl (E 0, 137, .inl wv))] := ⟨_, rfl⟩
  have hD : va_D A [(m0, .inr (6, [.ref w0, .ref w1, .ref w2, .int ik, .ref w3, .int (nI tx), .int he, .int fa, .ref w4, .ref w5, .int (nI cl), .ref w6, .ref w7, .ref w8, .ref w9])), (w0, .inl (E 0, 137, .inl wv))] := hAe ▸ zw_own hD0
  have hS : va_S A s.heap s.heap [] := va_S.rf
  have hl := lv_entry ([.ref m0, .int (nI 0), .int (nI a), .int (nI b)]) (n := 4) (Nat.le_of_ble_eq_true rfl)
  rw [lg_entry_eq]
  generalize (lg_sl ([.ref m0, .int (nI 0), .int (nI a), .int (nI b)]) ++ List.replicate (4 - (lg_sl ([.ref m0, .int (nI 0), .int (nI a), .int (nI b)])).length) Slot.unset).toArray = ls at hl ⊢
  have hl : lv_has ls 4 [(0, .ref m0), (1, .int (nI 0)), (2, .int (nI a)), (3, .int (nI b))] := hl
  refine zr_nQ (fun Q hQ => ?_)
  have hok := hvg.1
  have hN := hok.1
  have hvn := hvg.2.1
  refine lv_iload_n hx hb dX8_does_0 rfl (lv_at hl 1 rfl) ?_
  refine lv_if_ne (tgt := 13) hx hb dX8_does_1 (by decide) (fun cn_1 => ?_) (fun cn_1 => ?_)
  · skip
    exact absurd cn_1 (by decide)
  · skip
    refine lv_aload_n hx hb dX8_does_4 rfl (lv_at hl 0 rfl) ?_
    refine lv_iload_n hx hb dX8_does_5 rfl (lv_at hl 2 rfl) ?_
    refine lv_iload_n hx hb dX8_does_6 rfl (lv_at hl 3 rfl) ?_
    have hPc := hP.sub (ws' := [(m0, .inr (6, [.ref w0, .ref w1, .ref w2, .int ik, .ref w3, .int (nI tx), .int he, .int fa, .ref w4, .ref w5, .int (nI cl), .ref w6, .ref w7, .ref w8, .ref w9])), (w0, .inl (E 0, 137, .inl wv))]) [0, 1] rfl
    have hDc := hD.sub (ws' := [(m0, .inr (6, [.ref w0, .ref w1, .ref w2, .int ik, .ref w3, .int (nI tx), .int he, .int fa, .ref w4, .ref w5, .int (nI cl), .ref w6, .ref w7, .ref w8, .ref w9])), (w0, .inl (E 0, 137, .inl wv))]) [0, 1] (by decide +kernel) rfl
    have hAc := zw_AA (wc := [(m0, .inr (6, [.ref w0, .ref w1, .ref w2, .int ik, .ref w3, .int (nI tx), .int he, .int fa, .ref w4, .ref w5, .int (nI cl), .ref w6, .ref w7, .ref w8, .ref w9])), (w0, .inl (E 0, 137, .inl wv))]) hD [0, 1] rfl
    refine zw_cv hAc hS (va_runV (As := [.int (nI a), .int (nI b)]) (rest := []) ⟨hx, hb, hml, hown, hts⟩ (c_X8_turns l D E m0 w0 w1 w2 w3 w4 w5 w6 w7 w8 w9 ik tx he fa cl wv N G P a b (hvg) (ha0) (hb0)) (cwV 2 hts gX8_does_X8_turns rfl rfl rfl (by decide +kernel) ⟨Nat.le_of_ble_eq_true rfl, Nat.le_of_ble_eq_true rfl⟩) (zw_V hK hPc hDc (ci := 6) (q0 := 0) rfl rfl) rfl rfl hl.1 rfl (lv_room (Nat.le_of_ble_eq_true rfl)) dX8_does_7 ⟨Nat.zero_le _, Nat.zero_le _⟩) (fun u_4 H locs hw_3 hP1 hD1 hk1 hS => ?_)
    obtain ⟨wvn_5, rfl⟩ : ∃ z, z = u_4 := ⟨_, rfl⟩
    try dsimp only at hw_3 hP1 hD1
    obtain ⟨hP, hD⟩ := zw_join (wr := []) (w1 := [(m0, .inr (6, [.ref w0, .ref w1, .ref w2, .int ik, .ref w3, .int (nI tx), .int he, .int fa, .ref w4, .ref w5, .int (nI cl), .ref w6, .ref w7, .ref w8, .ref w9])), (w0, .inl (E 0, 137, .inl wvn_5))]) (ws' := [(m0, .inr (6, [.ref w0, .ref w1, .ref w2, .int ik, .ref w3, .int (nI tx), .int he, .int fa, .ref w4, .ref w5, .int (nI cl), .ref w6, .ref w7, .ref w8, .ref w9])), (w0, .inl (E 0, 137, .inl wvn_5))]) hP hD [0, 1] [] [0, 1] rfl rfl (by decide +kernel) (by decide +kernel) hAc hk1 hP1 hD1 (by decide +kernel) rfl
    clear hP1 hD1 hk1 hPc hDc hAc
    have hnew := hw_3
    refine lv_goto (tgt := 33) hx hb dX8_does_10 (by decide) ?_
    subst hQ; subst hAe
    exact W.vret hx hb hr (fun tz htz hWz => ⟨⟨wvn_5, rfl, hnew, by rw [htz]; exact hP, hD⟩, hS.F htz⟩) hS.2.2 dX8_does_33

set_option maxHeartbeats 4000000 in
set_option maxRecDepth 100000 in
theorem c_X8_does_1 (l : Launch) (D : va_G) (E : Nat → ClassId) (m0 : Nat) (w0 : Nat) (w1 : Nat) (w2 : Nat) (w3 : Nat) (w4 : Nat) (w5 : Nat) (w6 : Nat) (w7 : Nat) (w8 : Nat) (w9 : Nat) (ik : Int32) (tx : Nat) (he : Int32) (fa : Int32) (cl : Nat) (wv : Nat → Int32) (N : Nat) (G : Nat → Nat → Nat) (P : Nat → Nat → Nat) (a : Nat) (b : Nat) (hvg : zv_g N G P wv) (ha0 : a < N - 1) (hb0 : b < N - 1) : Met l yX8_does wsX8_does ({ frames := 2, cells := 0, slots := 0, locals := 46 }) (zw_P D E [.ref m0, .int (nI 1), .int (nI a), .int (nI b)] [(m0, .inr (6, [.ref w0, .ref w1, .ref w2, .int ik, .ref w3, .int (nI tx), .int he, .int fa, .ref w4, .ref w5, .int (nI cl), .ref w6, .ref w7, .ref w8, .ref w9])), (w0, .inl (E 0, 137, .inl wv))]) (zw_Qv D [(m0, .inr (6, [.ref w0, .ref w1, .ref w2, .int ik, .ref w3, .int (nI tx), .int he, .int fa, .ref w4, .ref w5, .int (nI cl), .ref w6, .ref w7, .ref w8, .ref w9])), (w0, .inl (E 0, 137, .inl wv))] (fun (u : (Nat → Int32)) => zv_g N (zm_sw G a b) (zm_sw P a b) u ∧ zv_off wv u) (fun (u : (Nat → Int32)) => [(m0, .inr (6, [.ref w0, .ref w1, .ref w2, .int ik, .ref w3, .int (nI tx), .int he, .int fa, .ref w4, .ref w5, .int (nI cl), .ref w6, .ref w7, .ref w8, .ref w9])), (w0, .inl (E 0, 137, .inl u))])) 0 0 (zw_A [(m0, .inr (6, [.ref w0, .ref w1, .ref w2, .int ik, .ref w3, .int (nI tx), .int he, .int fa, .ref w4, .ref w5, .int (nI cl), .ref w6, .ref w7, .ref w8, .ref w9])), (w0, .inl (E 0, 137, .inl wv))]) := by
  refine Met.ofW (cc := cX8_does) (maxL := 4) (ret := none) (by decide) rfl ?_
  intro p e s m args below meth c s₁ Bz hml hv
  obtain ⟨rfl, hP, hK, hD0⟩ := hv
  have hx := Bz.exec
  have hb := Bz.bytes
  have hr := Bz.returns
  have hts := atoms_spec (ws := wsX8_does) Bz.pre
  have hown : s.vm.findClass RX8 = some m.cls := findClass_of_methodNamed Bz.named
  have hlocks := Bz.notSynchronized
  have hP : va_P D vwCl [(m0, .inr (6, [.ref w0, .ref w1, .ref w2, .int ik, .ref w3, .int (nI tx), .int he, .int fa, .ref w4, .ref w5, .int (nI cl), .ref w6, .ref w7, .ref w8, .ref w9])), (w0, .inl (E 0, 137, .inl wv))] s.heap := hP
  obtain ⟨A, hAe⟩ : ∃ A : Nat → Prop, A = zw_A [(m0, .inr (6, [.ref w0, .ref w1, .ref w2, .int ik, .ref w3, .int (nI tx), .int he, .int fa, .ref w4, .ref w5, .int (nI cl), .ref w6, .ref w7, .ref w8, .ref w9])), (w0, .inl (E 0, 137, .inl wv))] := ⟨_, rfl⟩
  have hD : va_D A [(m0, .inr (6, [.ref w0, .ref w1, .ref w2, .int ik, .ref w3, .int (nI tx), .int he, .int fa, .ref w4, .ref w5, .int (nI cl), .ref w6, .ref w7, .ref w8, .ref w9])), (w0, .inl (E 0, 137, .inl wv))] := hAe ▸ zw_own hD0
  have hS : va_S A s.heap s.heap [] := va_S.rf
  have hl := lv_entry ([.ref m0, .int (nI 1), .int (nI a), .int (nI b)]) (n := 4) (Nat.le_of_ble_eq_true rfl)
  rw [lg_entry_eq]
  generalize (lg_sl ([.ref m0, .int (nI 1), .int (nI a), .int (nI b)]) ++ List.replicate (4 - (lg_sl ([.ref m0, .int (nI 1), .int (nI a), .int (nI b)])).length) Slot.unset).toArray = ls at hl ⊢
  have hl : lv_has ls 4 [(0, .ref m0), (1, .int (nI 1)), (2, .int (nI a)), (3, .int (nI b))] := hl
  refine zr_nQ (fun Q hQ => ?_)
  have hok := hvg.1
  have hN := hok.1
  have hvn := hvg.2.1
  refine lv_iload_n hx hb dX8_does_0 rfl (lv_at hl 1 rfl) ?_
  refine lv_if_ne (tgt := 13) hx hb dX8_does_1 (by decide) (fun cn_1 => ?_) (fun cn_1 => ?_)
  · skip
    refine lv_iload_n hx hb dX8_does_13 rfl (lv_at hl 1 rfl) ?_
    refine lv_iconst (v := nI 1) hx hb dX8_does_14 (by rfl) ?_
    refine lv_icmp_ne (tgt := 27) hx hb dX8_does_15 (by decide) (fun cn_2 => ?_) (fun cn_2 => ?_)
    · skip
      exact absurd cn_2 (by decide)
    · skip
      refine lv_aload_n hx hb dX8_does_18 rfl (lv_at hl 0 rfl) ?_
      refine lv_iload_n hx hb dX8_does_19 rfl (lv_at hl 2 rfl) ?_
      refine lv_iload_n hx hb dX8_does_20 rfl (lv_at hl 3 rfl) ?_
      have hPc := hP.sub (ws' := [(m0, .inr (6, [.ref w0, .ref w1, .ref w2, .int ik, .ref w3, .int (nI tx), .int he, .int fa, .ref w4, .ref w5, .int (nI cl), .ref w6, .ref w7, .ref w8, .ref w9])), (w0, .inl (E 0, 137, .inl wv))]) [0, 1] rfl
      have hDc := hD.sub (ws' := [(m0, .inr (6, [.ref w0, .ref w1, .ref w2, .int ik, .ref w3, .int (nI tx), .int he, .int fa, .ref w4, .ref w5, .int (nI cl), .ref w6, .ref w7, .ref w8, .ref w9])), (w0, .inl (E 0, 137, .inl wv))]) [0, 1] (by decide +kernel) rfl
      have hAc := zw_AA (wc := [(m0, .inr (6, [.ref w0, .ref w1, .ref w2, .int ik, .ref w3, .int (nI tx), .int he, .int fa, .ref w4, .ref w5, .int (nI cl), .ref w6, .ref w7, .ref w8, .ref w9])), (w0, .inl (E 0, 137, .inl wv))]) hD [0, 1] rfl
      refine zw_cv hAc hS (va_runV (As := [.int (nI a), .int (nI b)]) (rest := []) ⟨hx, hb, hml, hown, hts⟩ (c_X8_swaps l D E m0 w0 w1 w2 w3 w4 w5 w6 w7 w8 w9 ik tx he fa cl wv N G P a b (hvg) (ha0) (hb0)) (cwV 2 hts gX8_does_X8_swaps rfl rfl rfl (by decide +kernel) ⟨Nat.le_of_ble_eq_true rfl, Nat.le_of_ble_eq_true rfl⟩) (zw_V hK hPc hDc (ci := 6) (q0 := 0) rfl rfl) rfl rfl hl.1 rfl (lv_room (Nat.le_of_ble_eq_true rfl)) dX8_does_21 ⟨Nat.zero_le _, Nat.zero_le _⟩) (fun u_5 H locs hw_4 hP1 hD1 hk1 hS => ?_)
      obtain ⟨wvn_6, rfl⟩ : ∃ z, z = u_5 := ⟨_, rfl⟩
      try dsimp only at hw_4 hP1 hD1
      obtain ⟨hP, hD⟩ := zw_join (wr := []) (w1 := [(m0, .inr (6, [.ref w0, .ref w1, .ref w2, .int ik, .ref w3, .int (nI tx), .int he, .int fa, .ref w4, .ref w5, .int (nI cl), .ref w6, .ref w7, .ref w8, .ref w9])), (w0, .inl (E 0, 137, .inl wvn_6))]) (ws' := [(m0, .inr (6, [.ref w0, .ref w1, .ref w2, .int ik, .ref w3, .int (nI tx), .int he, .int fa, .ref w4, .ref w5, .int (nI cl), .ref w6, .ref w7, .ref w8, .ref w9])), (w0, .inl (E 0, 137, .inl wvn_6))]) hP hD [0, 1] [] [0, 1] rfl rfl (by decide +kernel) (by decide +kernel) hAc hk1 hP1 hD1 (by decide +kernel) rfl
      clear hP1 hD1 hk1 hPc hDc hAc
      have hnew := hw_4
      refine lv_goto (tgt := 33) hx hb dX8_does_24 (by decide) ?_
      subst hQ; subst hAe
      exact W.vret hx hb hr (fun tz htz hWz => ⟨⟨wvn_6, rfl, hnew, by rw [htz]; exact hP, hD⟩, hS.F htz⟩) hS.2.2 dX8_does_33
  · skip
    exact absurd cn_1 (by decide)

set_option maxHeartbeats 4000000 in
set_option maxRecDepth 100000 in
theorem c_X8_does_2 (l : Launch) (D : va_G) (E : Nat → ClassId) (m0 : Nat) (w0 : Nat) (w1 : Nat) (w2 : Nat) (w3 : Nat) (w4 : Nat) (w5 : Nat) (w6 : Nat) (w7 : Nat) (w8 : Nat) (w9 : Nat) (ik : Int32) (tx : Nat) (he : Int32) (fa : Int32) (cl : Nat) (wv : Nat → Int32) (N : Nat) (G : Nat → Nat → Nat) (P : Nat → Nat → Nat) (a : Nat) (b : Nat) (hvg : zv_g N G P wv) (ha0 : a < N) (hb0 : b < N) : Met l yX8_does wsX8_does ({ frames := 2, cells := 0, slots := 0, locals := 46 }) (zw_P D E [.ref m0, .int (nI 2), .int (nI a), .int (nI b)] [(m0, .inr (6, [.ref w0, .ref w1, .ref w2, .int ik, .ref w3, .int (nI tx), .int he, .int fa, .ref w4, .ref w5, .int (nI cl), .ref w6, .ref w7, .ref w8, .ref w9])), (w0, .inl (E 0, 137, .inl wv))]) (zw_Qv D [(m0, .inr (6, [.ref w0, .ref w1, .ref w2, .int ik, .ref w3, .int (nI tx), .int he, .int fa, .ref w4, .ref w5, .int (nI cl), .ref w6, .ref w7, .ref w8, .ref w9])), (w0, .inl (E 0, 137, .inl wv))] (fun (u : (Nat → Int32)) => zv_g N (zm_exG G a b) (zm_exP P a b) u ∧ zv_off wv u) (fun (u : (Nat → Int32)) => [(m0, .inr (6, [.ref w0, .ref w1, .ref w2, .int ik, .ref w3, .int (nI tx), .int he, .int fa, .ref w4, .ref w5, .int (nI cl), .ref w6, .ref w7, .ref w8, .ref w9])), (w0, .inl (E 0, 137, .inl u))])) 0 0 (zw_A [(m0, .inr (6, [.ref w0, .ref w1, .ref w2, .int ik, .ref w3, .int (nI tx), .int he, .int fa, .ref w4, .ref w5, .int (nI cl), .ref w6, .ref w7, .ref w8, .ref w9])), (w0, .inl (E 0, 137, .inl wv))]) := by
  refine Met.ofW (cc := cX8_does) (maxL := 4) (ret := none) (by decide) rfl ?_
  intro p e s m args below meth c s₁ Bz hml hv
  obtain ⟨rfl, hP, hK, hD0⟩ := hv
  have hx := Bz.exec
  have hb := Bz.bytes
  have hr := Bz.returns
  have hts := atoms_spec (ws := wsX8_does) Bz.pre
  have hown : s.vm.findClass RX8 = some m.cls := findClass_of_methodNamed Bz.named
  have hlocks := Bz.notSynchronized
  have hP : va_P D vwCl [(m0, .inr (6, [.ref w0, .ref w1, .ref w2, .int ik, .ref w3, .int (nI tx), .int he, .int fa, .ref w4, .ref w5, .int (nI cl), .ref w6, .ref w7, .ref w8, .ref w9])), (w0, .inl (E 0, 137, .inl wv))] s.heap := hP
  obtain ⟨A, hAe⟩ : ∃ A : Nat → Prop, A = zw_A [(m0, .inr (6, [.ref w0, .ref w1, .ref w2, .int ik, .ref w3, .int (nI tx), .int he, .int fa, .ref w4, .ref w5, .int (nI cl), .ref w6, .ref w7, .ref w8, .ref w9])), (w0, .inl (E 0, 137, .inl wv))] := ⟨_, rfl⟩
  have hD : va_D A [(m0, .inr (6, [.ref w0, .ref w1, .ref w2, .int ik, .ref w3, .int (nI tx), .int he, .int fa, .ref w4, .ref w5, .int (nI cl), .ref w6, .ref w7, .ref w8, .ref w9])), (w0, .inl (E 0, 137, .inl wv))] := hAe ▸ zw_own hD0
  have hS : va_S A s.heap s.heap [] := va_S.rf
  have hl := lv_entry ([.ref m0, .int (nI 2), .int (nI a), .int (nI b)]) (n := 4) (Nat.le_of_ble_eq_true rfl)
  rw [lg_entry_eq]
  generalize (lg_sl ([.ref m0, .int (nI 2), .int (nI a), .int (nI b)]) ++ List.replicate (4 - (lg_sl ([.ref m0, .int (nI 2), .int (nI a), .int (nI b)])).length) Slot.unset).toArray = ls at hl ⊢
  have hl : lv_has ls 4 [(0, .ref m0), (1, .int (nI 2)), (2, .int (nI a)), (3, .int (nI b))] := hl
  refine zr_nQ (fun Q hQ => ?_)
  have hok := hvg.1
  have hN := hok.1
  have hvn := hvg.2.1
  refine lv_iload_n hx hb dX8_does_0 rfl (lv_at hl 1 rfl) ?_
  refine lv_if_ne (tgt := 13) hx hb dX8_does_1 (by decide) (fun cn_1 => ?_) (fun cn_1 => ?_)
  · skip
    refine lv_iload_n hx hb dX8_does_13 rfl (lv_at hl 1 rfl) ?_
    refine lv_iconst (v := nI 1) hx hb dX8_does_14 (by rfl) ?_
    refine lv_icmp_ne (tgt := 27) hx hb dX8_does_15 (by decide) (fun cn_2 => ?_) (fun cn_2 => ?_)
    · skip
      refine lv_aload_n hx hb dX8_does_27 rfl (lv_at hl 0 rfl) ?_
      refine lv_iload_n hx hb dX8_does_28 rfl (lv_at hl 2 rfl) ?_
      refine lv_iload_n hx hb dX8_does_29 rfl (lv_at hl 3 rfl) ?_
      have hPc := hP.sub (ws' := [(m0, .inr (6, [.ref w0, .ref w1, .ref w2, .int ik, .ref w3, .int (nI tx), .int he, .int fa, .ref w4, .ref w5, .int (nI cl), .ref w6, .ref w7, .ref w8, .ref w9])), (w0, .inl (E 0, 137, .inl wv))]) [0, 1] rfl
      have hDc := hD.sub (ws' := [(m0, .inr (6, [.ref w0, .ref w1, .ref w2, .int ik, .ref w3, .int (nI tx), .int he, .int fa, .ref w4, .ref w5, .int (nI cl), .ref w6, .ref w7, .ref w8, .ref w9])), (w0, .inl (E 0, 137, .inl wv))]) [0, 1] (by decide +kernel) rfl
      have hAc := zw_AA (wc := [(m0, .inr (6, [.ref w0, .ref w1, .ref w2, .int ik, .ref w3, .int (nI tx), .int he, .int fa, .ref w4, .ref w5, .int (nI cl), .ref w6, .ref w7, .ref w8, .ref w9])), (w0, .inl (E 0, 137, .inl wv))]) hD [0, 1] rfl
      refine zw_cv hAc hS (va_runV (As := [.int (nI a), .int (nI b)]) (rest := []) ⟨hx, hb, hml, hown, hts⟩ (c_X8_stands l D E m0 w0 w1 w2 w3 w4 w5 w6 w7 w8 w9 ik tx he fa cl wv N G P a b (hvg) (ha0) (hb0)) (cwV 2 hts gX8_does_X8_stands rfl rfl rfl (by decide +kernel) ⟨Nat.le_of_ble_eq_true rfl, Nat.le_of_ble_eq_true rfl⟩) (zw_V hK hPc hDc (ci := 6) (q0 := 0) rfl rfl) rfl rfl hl.1 rfl (lv_room (Nat.le_of_ble_eq_true rfl)) dX8_does_30 ⟨Nat.zero_le _, Nat.zero_le _⟩) (fun u_5 H locs hw_4 hP1 hD1 hk1 hS => ?_)
      obtain ⟨wvn_6, rfl⟩ : ∃ z, z = u_5 := ⟨_, rfl⟩
      try dsimp only at hw_4 hP1 hD1
      obtain ⟨hP, hD⟩ := zw_join (wr := []) (w1 := [(m0, .inr (6, [.ref w0, .ref w1, .ref w2, .int ik, .ref w3, .int (nI tx), .int he, .int fa, .ref w4, .ref w5, .int (nI cl), .ref w6, .ref w7, .ref w8, .ref w9])), (w0, .inl (E 0, 137, .inl wvn_6))]) (ws' := [(m0, .inr (6, [.ref w0, .ref w1, .ref w2, .int ik, .ref w3, .int (nI tx), .int he, .int fa, .ref w4, .ref w5, .int (nI cl), .ref w6, .ref w7, .ref w8, .ref w9])), (w0, .inl (E 0, 137, .inl wvn_6))]) hP hD [0, 1] [] [0, 1] rfl rfl (by decide +kernel) (by decide +kernel) hAc hk1 hP1 hD1 (by decide +kernel) rfl
      clear hP1 hD1 hk1 hPc hDc hAc
      have hnew := hw_4
      subst hQ; subst hAe
      exact W.vret hx hb hr (fun tz htz hWz => ⟨⟨wvn_6, rfl, hnew, by rw [htz]; exact hP, hD⟩, hS.F htz⟩) hS.2.2 dX8_does_33
    · skip
      exact absurd cn_2 (by decide)
  · skip
    exact absurd cn_1 (by decide)

set_option maxHeartbeats 4000000 in
set_option maxRecDepth 100000 in
theorem c_X8_isStepped_0 (l : Launch) (D : va_G) (E : Nat → ClassId) (m0 : Nat) (w0 : Nat) (w1 : Nat) (w2 : Nat) (w3 : Nat) (w4 : Nat) (w5 : Nat) (w6 : Nat) (w7 : Nat) (w8 : Nat) (w9 : Nat) (ik : Int32) (tx : Nat) (he : Int32) (fa : Int32) (cl : Nat) (wv : Nat → Int32) (N : Nat) (G : Nat → Nat → Nat) (P : Nat → Nat → Nat) (X : Nat → Nat) (Y : Nat → Nat) (B : Nat → Nat → Nat) (R : Nat → Nat) (hvg : zv_g N G P wv) (hxy : zv_xy X Y wv) (hvb : zv_b B wv) (hvr : zv_r R wv) : Met l yX8_isStepped wsX8_isStepped ({ frames := 7, cells := 0, slots := 0, locals := 156 }) (zw_P D E [.ref m0, .int (nI 0)] [(m0, .inr (6, [.ref w0, .ref w1, .ref w2, .int ik, .ref w3, .int (nI tx), .int he, .int fa, .ref w4, .ref w5, .int (nI cl), .ref w6, .ref w7, .ref w8, .ref w9])), (w0, .inl (E 0, 137, .inl wv))]) (zw_Qi D [(m0, .inr (6, [.ref w0, .ref w1, .ref w2, .int ik, .ref w3, .int (nI tx), .int he, .int fa, .ref w4, .ref w5, .int (nI cl), .ref w6, .ref w7, .ref w8, .ref w9])), (w0, .inl (E 0, 137, .inl wv))] (fun zv (u : (Nat → Int32)) => zm_stepR 1 R B X Y N G P zv (fun G P => zv_g N G P u ∧ zv_off wv u)) (fun (u : (Nat → Int32)) => [(m0, .inr (6, [.ref w0, .ref w1, .ref w2, .int ik, .ref w3, .int (nI tx), .int he, .int fa, .ref w4, .ref w5, .int (nI cl), .ref w6, .ref w7, .ref w8, .ref w9])), (w0, .inl (E 0, 137, .inl u))])) 0 0 (zw_A [(m0, .inr (6, [.ref w0, .ref w1, .ref w2, .int ik, .ref w3, .int (nI tx), .int he, .int fa, .ref w4, .ref w5, .int (nI cl), .ref w6, .ref w7, .ref w8, .ref w9])), (w0, .inl (E 0, 137, .inl wv))]) := by
  refine Met.ofW (cc := cX8_isStepped) (maxL := 10) (ret := (some .boolean)) (by decide) rfl ?_
  intro p e s m args below meth c s₁ Bz hml hv
  obtain ⟨rfl, hP, hK, hD0⟩ := hv
  have hx := Bz.exec
  have hb := Bz.bytes
  have hr := Bz.returns
  have hts := atoms_spec (ws := wsX8_isStepped) Bz.pre
  have hown : s.vm.findClass RX8 = some m.cls := findClass_of_methodNamed Bz.named
  have hlocks := Bz.notSynchronized
  have hP : va_P D vwCl [(m0, .inr (6, [.ref w0, .ref w1, .ref w2, .int ik, .ref w3, .int (nI tx), .int he, .int fa, .ref w4, .ref w5, .int (nI cl), .ref w6, .ref w7, .ref w8, .ref w9])), (w0, .inl (E 0, 137, .inl wv))] s.heap := hP
  obtain ⟨A, hAe⟩ : ∃ A : Nat → Prop, A = zw_A [(m0, .inr (6, [.ref w0, .ref w1, .ref w2, .int ik, .ref w3, .int (nI tx), .int he, .int fa, .ref w4, .ref w5, .int (nI cl), .ref w6, .ref w7, .ref w8, .ref w9])), (w0, .inl (E 0, 137, .inl wv))] := ⟨_, rfl⟩
  have hD : va_D A [(m0, .inr (6, [.ref w0, .ref w1, .ref w2, .int ik, .ref w3, .int (nI tx), .int he, .int fa, .ref w4, .ref w5, .int (nI cl), .ref w6, .ref w7, .ref w8, .ref w9])), (w0, .inl (E 0, 137, .inl wv))] := hAe ▸ zw_own hD0
  have hS : va_S A s.heap s.heap [] := va_S.rf
  have hl := lv_entry ([.ref m0, .int (nI 0)]) (n := 10) (Nat.le_of_ble_eq_true rfl)
  rw [lg_entry_eq]
  generalize (lg_sl ([.ref m0, .int (nI 0)]) ++ List.replicate (10 - (lg_sl ([.ref m0, .int (nI 0)])).length) Slot.unset).toArray = ls at hl ⊢
  have hl : lv_has ls 10 [(0, .ref m0), (1, .int (nI 0))] := hl
  refine zr_nQ (fun Q hQ => ?_)
  have hok := hvg.1
  have hN := hok.1
  have hvn := hvg.2.1
  have hgr := zm_gr_of hxy
  refine lv_aload_n hx hb dX8_isStepped_0 rfl (lv_at hl 0 rfl) ?_
  refine zr_cf hP hS (va_runV (As := []) (rest := []) ⟨hx, hb, hml, hown, hts⟩ (c_X8_costs l D E m0 w0 w1 w2 w3 w4 w5 w6 w7 w8 w9 ik tx he fa cl wv N G P X Y B R (hvg) (hxy) (hvb) (hvr)) (cwV 0 hts gX8_isStepped_X8_costs rfl rfl rfl (by decide +kernel) ⟨Nat.le_of_ble_eq_true rfl, Nat.le_of_ble_eq_true rfl⟩) (zr_V hK (hP.sub (ws' := [(m0, .inr (6, [.ref w0, .ref w1, .ref w2, .int ik, .ref w3, .int (nI tx), .int he, .int fa, .ref w4, .ref w5, .int (nI cl), .ref w6, .ref w7, .ref w8, .ref w9])), (w0, .inl (E 0, 137, .inl wv))]) [0, 1] rfl) (ci := 6) (q0 := 0) rfl rfl) rfl rfl hl.1 rfl (lv_room (Nat.le_of_ble_eq_true rfl)) dX8_isStepped_1 ⟨Nat.zero_le _, Nat.zero_le _⟩) (fun r_1 H locs hw_2 hP hS => ?_)
  subst hw_2
  refine lv_fstore_n (lv' := [(2, .float (zf_cost R (zm_brs N P) (zm_vio N G B) (zm_car N G P) (zm_amiles N G P X Y))), (0, .ref m0), (1, .int (nI 0))]) hx hb dX8_isStepped_4 rfl hl (by decide) rfl (fun ls hl => ?_)
  refine lv_iconst (v := (-1)) hx hb dX8_isStepped_5 (by rfl) ?_
  refine lv_istore_n (lv' := [(3, .int (-1)), (2, .float (zf_cost R (zm_brs N P) (zm_vio N G B) (zm_car N G P) (zm_amiles N G P X Y))), (0, .ref m0), (1, .int (nI 0))]) hx hb dX8_isStepped_6 rfl hl (by decide) rfl (fun ls hl => ?_)
  refine lv_iconst (v := (-1)) hx hb dX8_isStepped_7 (by rfl) ?_
  refine lv_istore (lv' := [(4, .int (-1)), (3, .int (-1)), (2, .float (zf_cost R (zm_brs N P) (zm_vio N G B) (zm_car N G P) (zm_amiles N G P X Y))), (0, .ref m0), (1, .int (nI 0))]) hx hb dX8_isStepped_8 hl (by decide) rfl (fun ls hl => ?_)
  refine lv_iload_n hx hb dX8_isStepped_10 rfl (lv_at hl 4 rfl) ?_
  refine lv_iconst (v := nI 2) hx hb dX8_isStepped_11 (by rfl) ?_
  refine lv_icmp_ne (tgt := 24) hx hb dX8_isStepped_12 (by decide) (fun cn_3 => ?_) (fun cn_3 => ?_)
  · skip
    refine lv_aload_n hx hb dX8_isStepped_24 rfl (lv_at hl 3 rfl) ?_
    refine zr_ci hP hS (va_runV (As := []) (rest := []) ⟨hx, hb, hml, hown, hts⟩ (c_X8_rounds l D E m0 w0 w1 w2 w3 w4 w5 w6 w7 w8 w9 ik tx he fa cl wv N (hvn) (hN)) (cwV 0 hts gX8_isStepped_X8_rounds rfl rfl rfl (by decide +kernel) ⟨Nat.le_of_ble_eq_true rfl, Nat.le_of_ble_eq_true rfl⟩) (zr_V hK (hP.sub (ws' := [(m0, .inr (6, [.ref w0, .ref w1, .ref w2, .int ik, .ref w3, .int (nI tx), .int he, .int fa, .ref w4, .ref w5, .int (nI cl), .ref w6, .ref w7, .ref w8, .ref w9])), (w0, .inl (E 0, 137, .inl wv))]) [0, 1] rfl) (ci := 6) (q0 := 0) rfl rfl) rfl rfl hl.1 rfl (lv_room (Nat.le_of_ble_eq_true rfl)) dX8_isStepped_25 ⟨Nat.zero_le _, Nat.zero_le _⟩) (fun r_4 H locs hw_5 hP hS => ?_)
    subst hw_5
    refine lv_istore (lv' := [(5, .int (nI (N - 1))), (4, .int (-1)), (3, .int (-1)), (2, .float (zf_cost R (zm_brs N P) (zm_vio N G B) (zm_car N G P) (zm_amiles N G P X Y))), (0, .ref m0), (1, .int (nI 0))]) hx hb dX8_isStepped_28 hl (by decide) rfl (fun ls hl => ?_)
    refine lv_iload_n hx hb dX8_isStepped_30 rfl (lv_at hl 5 rfl) ?_
    refine lv_if_ne (tgt := 45) hx hb dX8_isStepped_31 (by decide) (fun cn_6 => ?_) (fun cn_6 => ?_)
    · skip
      exact absurd cn_6 (by decide)
    · skip
      refine lv_aload_n hx hb dX8_isStepped_34 rfl (lv_at hl 4 rfl) ?_
      refine va_get (D := D) (ci := 6) (v := .ref w0) (C := RX8) (T := TX8) (N := 15) hx hb hts (by decide +kernel) hown hK.1 hP 0 rfl rfl 0 (by decide) (hts (.fieldLink RX8 11 "HomeRoundsModel" "w" "[I") (by decide +kernel)) (fun _ h9 => h9) rfl dX8_isStepped_35 ?_
      refine lv_iconst (v := nI 0) hx hb dX8_isStepped_38 (by rfl) ?_
      refine va_iald hx hb hK.1 hP 1 0 rfl rfl (vp_in_nI (by omega) (by omega)) dX8_isStepped_39 ?_
      refine zr_ti (y := nI N) ((congrArg wv (nI_clamp (by omega))).trans (hvn)) ?_
      refine lv_iconst (v := nI 2) hx hb dX8_isStepped_40 (by rfl) ?_
      refine lv_idiv hx hb dX8_isStepped_41 (by decide) ?_
      refine zr_ti (y := nI (N / 2)) (pk_div (by omega) (by omega) (by omega)) ?_
      refine lv_goto (tgt := 47) hx hb dX8_isStepped_42 (by decide) ?_
      refine lv_istore (lv' := [(6, .int (nI (N / 2))), (5, .int (nI (N - 1))), (4, .int (-1)), (3, .int (-1)), (2, .float (zf_cost R (zm_brs N P) (zm_vio N G B) (zm_car N G P) (zm_amiles N G P X Y))), (0, .ref m0), (1, .int (nI 0))]) hx hb dX8_isStepped_47 hl (by decide) rfl (fun ls hl => ?_)
      refine lv_iconst (v := nI 0) hx hb dX8_isStepped_49 (by rfl) ?_
      refine lv_istore (lv' := [(7, .int (nI 0)), (6, .int (nI (N / 2))), (5, .int (nI (N - 1))), (4, .int (-1)), (3, .int (-1)), (2, .float (zf_cost R (zm_brs N P) (zm_vio N G B) (zm_car N G P) (zm_amiles N G P X Y))), (0, .ref m0), (1, .int (nI 0))]) hx hb dX8_isStepped_50 hl (by decide) rfl (fun ls hl => ?_)
      suffices KL52 : ∀ (kz : Nat) (a : Nat) (lz : UInt32) (ba : Int32) (bb : Int32) (wva : Nat → Int32) (H : Heap) (locs : List Loc) (ls : Array Slot), (N - 1 - a) < kz → (zm_best 1 R B X Y N G P = zb_out (fun a b => zm_cost R B X Y N (zm_opG 1 G a b) (zm_opP 1 P a b)) (zm_first 1) (fun _ => zm_last 1 N) (N - 1 - a) a (lz, ba, bb)) → (zm_val 1 N ba bb) → (zv_g N G P wva ∧ zv_off wv wva) → (a ≤ N - 1) → va_P D vwCl [(m0, .inr (6, [.ref w0, .ref w1, .ref w2, .int ik, .ref w3, .int (nI tx), .int he, .int fa, .ref w4, .ref w5, .int (nI cl), .ref w6, .ref w7, .ref w8, .ref w9])), (w0, .inl (E 0, 137, .inl wva))] H → va_D A [(m0, .inr (6, [.ref w0, .ref w1, .ref w2, .int ik, .ref w3, .int (nI tx), .int he, .int fa, .ref w4, .ref w5, .int (nI cl), .ref w6, .ref w7, .ref w8, .ref w9])), (w0, .inl (E 0, 137, .inl wva))] → va_S A s.heap H locs → lv_has ls 10 [(0, .ref m0), (1, .int (nI 0)), (2, .float lz), (3, .int ba), (4, .int bb), (5, .int (nI (N - 1))), (6, .int (nI (N / 2))), (7, .int (nI a))] → W p l e (headSpec wsX8_isStepped ({ frames := 7, cells := 0, slots := 0, locals := 156 })).room s m ([.ref m0, .int (nI 0)] : List Value).toArray below meth c H locs 0 0 Q (F0 m 52 ls []) from
        KL52 _ 0 (zf_cost R (zm_brs N P) (zm_vio N G B) (zm_car N G P) (zm_amiles N G P X Y)) (-1) (-1) wv _ _ ls (Nat.lt_succ_self _) (rfl) (Or.inl rfl) (⟨hvg, zv_off_r⟩) (by omega) hP hD hS (lv_sub hl [6, 7, 5, 4, 3, 2, 1, 0] rfl)
      clear hP hS hl hD
      intro kz
      induction kz with
      | zero => intro a lz ba bb wva H locs ls hkz; exact absurd hkz (Nat.not_lt_zero _)
      | succ kz ih52 =>
        intro a lz ba bb wva H locs ls hkz hO hV hga haE hP hD hS hl
        refine lv_iload hx hb dX8_isStepped_52 (lv_at hl 7 rfl) ?_
        refine lv_iload hx hb dX8_isStepped_54 (lv_at hl 5 rfl) ?_
        refine lv_icmp_ge (tgt := 133) hx hb dX8_isStepped_56 (by decide) (fun cn_7 => ?_) (fun cn_7 => ?_)
        · skip
          have cn_7 : N - 1 ≤ a := (nI_leI (a := N - 1) (b := a) (by omega) (by omega)).mp cn_7
          have haE2 : N - 1 ≤ a := by omega
          have hbest := hO.trans (zb_out_e haE2)
          refine lv_iload_n hx hb dX8_isStepped_133 rfl (lv_at hl 3 rfl) ?_
          refine lv_if_ge (tgt := 139) hx hb dX8_isStepped_134 (by decide) (fun cn_8 => ?_) (fun cn_8 => ?_)
          · skip
            have hsome := cn_8
            have hne : ba ≠ -1 := fun e => absurd (e ▸ hsome) (by decide)
            obtain ⟨a9, b9, rfl, rfl, ha9, hb9⟩ := Or.resolve_left hV hne
            have ha9 : a9 < N - 1 := ha9
            have hb9 : b9 < N / 2 := hb9
            refine lv_aload_n hx hb dX8_isStepped_139 rfl (lv_at hl 0 rfl) ?_
            refine lv_iload_n hx hb dX8_isStepped_140 rfl (lv_at hl 1 rfl) ?_
            refine lv_iload_n hx hb dX8_isStepped_141 rfl (lv_at hl 3 rfl) ?_
            refine lv_iload hx hb dX8_isStepped_142 (lv_at hl 4 rfl) ?_
            have hPc := hP.sub (ws' := [(m0, .inr (6, [.ref w0, .ref w1, .ref w2, .int ik, .ref w3, .int (nI tx), .int he, .int fa, .ref w4, .ref w5, .int (nI cl), .ref w6, .ref w7, .ref w8, .ref w9])), (w0, .inl (E 0, 137, .inl wva))]) [0, 1] rfl
            have hDc := hD.sub (ws' := [(m0, .inr (6, [.ref w0, .ref w1, .ref w2, .int ik, .ref w3, .int (nI tx), .int he, .int fa, .ref w4, .ref w5, .int (nI cl), .ref w6, .ref w7, .ref w8, .ref w9])), (w0, .inl (E 0, 137, .inl wva))]) [0, 1] (by decide +kernel) rfl
            have hAc := zw_AA (wc := [(m0, .inr (6, [.ref w0, .ref w1, .ref w2, .int ik, .ref w3, .int (nI tx), .int he, .int fa, .ref w4, .ref w5, .int (nI cl), .ref w6, .ref w7, .ref w8, .ref w9])), (w0, .inl (E 0, 137, .inl wva))]) hD [0, 1] rfl
            refine zw_cv hAc hS (va_runV (As := [.int (nI 0), .int (nI a9), .int (nI b9)]) (rest := []) ⟨hx, hb, hml, hown, hts⟩ (c_X8_does_0 l D E m0 w0 w1 w2 w3 w4 w5 w6 w7 w8 w9 ik tx he fa cl wva N G P a9 b9 (hga.1) (ha9) (hb9)) (cwV 3 hts gX8_isStepped_X8_does rfl rfl rfl (by decide +kernel) ⟨Nat.le_of_ble_eq_true rfl, Nat.le_of_ble_eq_true rfl⟩) (zw_V hK hPc hDc (ci := 6) (q0 := 0) rfl rfl) rfl rfl hl.1 rfl (lv_room (Nat.le_of_ble_eq_true rfl)) dX8_isStepped_144 ⟨Nat.zero_le _, Nat.zero_le _⟩) (fun u_11 H locs hw_10 hP1 hD1 hk1 hS => ?_)
            obtain ⟨wvn_12, rfl⟩ : ∃ z, z = u_11 := ⟨_, rfl⟩
            try dsimp only at hw_10 hP1 hD1
            obtain ⟨hP, hD⟩ := zw_join (wr := []) (w1 := [(m0, .inr (6, [.ref w0, .ref w1, .ref w2, .int ik, .ref w3, .int (nI tx), .int he, .int fa, .ref w4, .ref w5, .int (nI cl), .ref w6, .ref w7, .ref w8, .ref w9])), (w0, .inl (E 0, 137, .inl wvn_12))]) (ws' := [(m0, .inr (6, [.ref w0, .ref w1, .ref w2, .int ik, .ref w3, .int (nI tx), .int he, .int fa, .ref w4, .ref w5, .int (nI cl), .ref w6, .ref w7, .ref w8, .ref w9])), (w0, .inl (E 0, 137, .inl wvn_12))]) hP hD [0, 1] [] [0, 1] rfl rfl (by decide +kernel) (by decide +kernel) hAc hk1 hP1 hD1 (by decide +kernel) rfl
            clear hP1 hD1 hk1 hPc hDc hAc
            have hze := hw_10
            refine lv_iconst (v := nI 1) hx hb dX8_isStepped_147 (by rfl) ?_
            subst hQ; subst hAe
            exact W.zret (v := nI 1) hx hb hr (by decide) (fun tz htz hWz => ⟨⟨nI 1, wvn_12, rfl, Or.inr ⟨a9, b9, zm_step_s (by omega) (by omega) hbest, rfl, hze.1, zv_off_t hga.2 hze.2⟩, by rw [htz]; exact hP, hD⟩, hS.F htz⟩) hS.2.2 dX8_isStepped_148
          · skip
            have hnone : ba = -1 := hV.elim id (fun ⟨a8, b8, e8, _, h8, _⟩ => absurd (e8 ▸ nI_pos' (by have h8 : a8 < N - 1 := h8; omega)) cn_8)
            refine lv_iconst (v := nI 0) hx hb dX8_isStepped_137 (by rfl) ?_
            subst hQ; subst hAe
            exact W.zret (v := nI 0) hx hb hr (by decide) (fun tz htz hWz => ⟨⟨nI 0, wva, rfl, Or.inl ⟨zm_step_n (by rw [hbest, hnone]), rfl, hga⟩, by rw [htz]; exact hP, hD⟩, hS.F htz⟩) hS.2.2 dX8_isStepped_138
        · skip
          have cn_7 : ¬ (N - 1 ≤ a) := fun hz => cn_7 ((nI_leI (a := N - 1) (b := a) (by omega) (by omega)).mpr hz)
          have haL : a < N - 1 := by omega
          refine lv_iload_n hx hb dX8_isStepped_59 rfl (lv_at hl 1 rfl) ?_
          refine lv_if_ne (tgt := 67) hx hb dX8_isStepped_60 (by decide) (fun cn_13 => ?_) (fun cn_13 => ?_)
          · skip
            exact absurd cn_13 (by decide)
          · skip
            refine lv_iconst (v := nI 0) hx hb dX8_isStepped_63 (by rfl) ?_
            refine lv_goto (tgt := 71) hx hb dX8_isStepped_64 (by decide) ?_
            refine lv_istore (lv' := [(8, .int (nI 0)), (0, .ref m0), (1, .int (nI 0)), (2, .float lz), (3, .int ba), (4, .int bb), (5, .int (nI (N - 1))), (6, .int (nI (N / 2))), (7, .int (nI a))]) hx hb dX8_isStepped_71 hl (by decide) rfl (fun ls hl => ?_)
            suffices KL73 : ∀ (kz : Nat) (b : Nat) (ly : UInt32) (bay : Int32) (bby : Int32) (wvb : Nat → Int32) (H : Heap) (locs : List Loc) (ls : Array Slot), (10 - b) < kz → (zb_in ((fun a b => zm_cost R B X Y N (zm_opG 1 G a b) (zm_opP 1 P a b)) a) a ((fun _ => zm_last 1 N) a - zm_first 1 a) (zm_first 1 a) (lz, ba, bb) = zb_in ((fun a b => zm_cost R B X Y N (zm_opG 1 G a b) (zm_opP 1 P a b)) a) a ((N / 2) - b) b (ly, bay, bby)) → (zm_val 1 N bay bby) → (zv_g N G P wvb ∧ zv_off wv wvb) → (b ≤ 6) → va_P D vwCl [(m0, .inr (6, [.ref w0, .ref w1, .ref w2, .int ik, .ref w3, .int (nI tx), .int he, .int fa, .ref w4, .ref w5, .int (nI cl), .ref w6, .ref w7, .ref w8, .ref w9])), (w0, .inl (E 0, 137, .inl wvb))] H → va_D A [(m0, .inr (6, [.ref w0, .ref w1, .ref w2, .int ik, .ref w3, .int (nI tx), .int he, .int fa, .ref w4, .ref w5, .int (nI cl), .ref w6, .ref w7, .ref w8, .ref w9])), (w0, .inl (E 0, 137, .inl wvb))] → va_S A s.heap H locs → lv_has ls 10 [(0, .ref m0), (1, .int (nI 0)), (2, .float ly), (3, .int bay), (4, .int bby), (5, .int (nI (N - 1))), (6, .int (nI (N / 2))), (7, .int (nI a)), (8, .int (nI b))] → W p l e (headSpec wsX8_isStepped ({ frames := 7, cells := 0, slots := 0, locals := 156 })).room s m ([.ref m0, .int (nI 0)] : List Value).toArray below meth c H locs 0 0 Q (F0 m 73 ls []) from
              KL73 _ 0 lz ba bb wva _ _ ls (Nat.lt_succ_self _) (rfl) (hV) (hga) (by omega) hP hD hS (lv_sub hl [1, 2, 3, 4, 5, 6, 7, 8, 0] rfl)
            clear hP hS hl hD
            intro kz
            induction kz with
            | zero => intro b ly bay bby wvb H locs ls hkz; exact absurd hkz (Nat.not_lt_zero _)
            | succ kz ih73 =>
              intro b ly bay bby wvb H locs ls hkz hI hV2 hgb hb6 hP hD hS hl
              refine lv_iload hx hb dX8_isStepped_73 (lv_at hl 8 rfl) ?_
              refine lv_iload hx hb dX8_isStepped_75 (lv_at hl 6 rfl) ?_
              refine lv_icmp_ge (tgt := 127) hx hb dX8_isStepped_77 (by decide) (fun cn_14 => ?_) (fun cn_14 => ?_)
              · skip
                have cn_14 : N / 2 ≤ b := (nI_leI (a := N / 2) (b := b) (by omega) (by omega)).mp cn_14
                have hbE : N / 2 ≤ b := by omega
                refine lv_iinc (v := nI (a + 1)) (lv' := [(7, .int (nI (a + 1))), (0, .ref m0), (1, .int (nI 0)), (2, .float ly), (3, .int bay), (4, .int bby), (5, .int (nI (N - 1))), (6, .int (nI (N / 2))), (8, .int (nI b))]) hx hb dX8_isStepped_127 hl (k := 7) rfl (nI_add _ _) (by decide) rfl (fun ls hl => ?_)
                refine lv_goto (tgt := 52) hx hb dX8_isStepped_130 (by decide) ?_
                have hl : lv_has ls 10 [(0, .ref m0), (1, .int (nI 0)), (2, .float ly), (3, .int bay), (4, .int bby), (5, .int (nI (N - 1))), (6, .int (nI (N / 2))), (7, .int (nI (a + 1)))] := lv_sub hl [1, 2, 3, 4, 5, 6, 7, 0] rfl
                exact ih52 (a + 1) ly bay bby wvb H locs ls (by omega) (by rw [hO, zb_out_s haL]; exact congrArg (fun s => zb_out (fun a b => zm_cost R B X Y N (zm_opG 1 G a b) (zm_opP 1 P a b)) (zm_first 1) (fun _ => zm_last 1 N) (N - 1 - (a + 1)) (a + 1) s) (hI.trans (zb_in_e hbE))) (hV2) (hgb) (by omega) hP hD hS hl
              · skip
                have cn_14 : ¬ (N / 2 ≤ b) := fun hz => cn_14 ((nI_leI (a := N / 2) (b := b) (by omega) (by omega)).mpr hz)
                have hbL : b < N / 2 := by omega
                refine lv_aload_n hx hb dX8_isStepped_80 rfl (lv_at hl 0 rfl) ?_
                refine lv_iload_n hx hb dX8_isStepped_81 rfl (lv_at hl 1 rfl) ?_
                refine lv_iload hx hb dX8_isStepped_82 (lv_at hl 7 rfl) ?_
                refine lv_iload hx hb dX8_isStepped_84 (lv_at hl 8 rfl) ?_
                have hPc := hP.sub (ws' := [(m0, .inr (6, [.ref w0, .ref w1, .ref w2, .int ik, .ref w3, .int (nI tx), .int he, .int fa, .ref w4, .ref w5, .int (nI cl), .ref w6, .ref w7, .ref w8, .ref w9])), (w0, .inl (E 0, 137, .inl wvb))]) [0, 1] rfl
                have hDc := hD.sub (ws' := [(m0, .inr (6, [.ref w0, .ref w1, .ref w2, .int ik, .ref w3, .int (nI tx), .int he, .int fa, .ref w4, .ref w5, .int (nI cl), .ref w6, .ref w7, .ref w8, .ref w9])), (w0, .inl (E 0, 137, .inl wvb))]) [0, 1] (by decide +kernel) rfl
                have hAc := zw_AA (wc := [(m0, .inr (6, [.ref w0, .ref w1, .ref w2, .int ik, .ref w3, .int (nI tx), .int he, .int fa, .ref w4, .ref w5, .int (nI cl), .ref w6, .ref w7, .ref w8, .ref w9])), (w0, .inl (E 0, 137, .inl wvb))]) hD [0, 1] rfl
                refine zw_cv hAc hS (va_runV (As := [.int (nI 0), .int (nI a), .int (nI b)]) (rest := []) ⟨hx, hb, hml, hown, hts⟩ (c_X8_does_0 l D E m0 w0 w1 w2 w3 w4 w5 w6 w7 w8 w9 ik tx he fa cl wvb N G P a b (hgb.1) (haL) (hbL)) (cwV 3 hts gX8_isStepped_X8_does rfl rfl rfl (by decide +kernel) ⟨Nat.le_of_ble_eq_true rfl, Nat.le_of_ble_eq_true rfl⟩) (zw_V hK hPc hDc (ci := 6) (q0 := 0) rfl rfl) rfl rfl hl.1 rfl (lv_room (Nat.le_of_ble_eq_true rfl)) dX8_isStepped_86 ⟨Nat.zero_le _, Nat.zero_le _⟩) (fun u_17 H locs hw_16 hP1 hD1 hk1 hS => ?_)
                obtain ⟨wvn_18, rfl⟩ : ∃ z, z = u_17 := ⟨_, rfl⟩
                try dsimp only at hw_16 hP1 hD1
                obtain ⟨hP, hD⟩ := zw_join (wr := []) (w1 := [(m0, .inr (6, [.ref w0, .ref w1, .ref w2, .int ik, .ref w3, .int (nI tx), .int he, .int fa, .ref w4, .ref w5, .int (nI cl), .ref w6, .ref w7, .ref w8, .ref w9])), (w0, .inl (E 0, 137, .inl wvn_18))]) (ws' := [(m0, .inr (6, [.ref w0, .ref w1, .ref w2, .int ik, .ref w3, .int (nI tx), .int he, .int fa, .ref w4, .ref w5, .int (nI cl), .ref w6, .ref w7, .ref w8, .ref w9])), (w0, .inl (E 0, 137, .inl wvn_18))]) hP hD [0, 1] [] [0, 1] rfl rfl (by decide +kernel) (by decide +kernel) hAc hk1 hP1 hD1 (by decide +kernel) rfl
                clear hP1 hD1 hk1 hPc hDc hAc
                have hz1 := hw_16
                have hoz := zv_off_t hgb.2 hz1.2
                refine lv_aload_n hx hb dX8_isStepped_89 rfl (lv_at hl 0 rfl) ?_
                refine zr_cf hP hS (va_runV (As := []) (rest := []) ⟨hx, hb, hml, hown, hts⟩ (c_X8_costs l D E m0 w0 w1 w2 w3 w4 w5 w6 w7 w8 w9 ik tx he fa cl wvn_18 N (zm_tuG G a b) (zm_tuP P a b) X Y B R (hz1.1) (zv_xy_off hxy hoz) (zv_b_off hvb hoz) (zv_r_off hvr hoz)) (cwV 0 hts gX8_isStepped_X8_costs rfl rfl rfl (by decide +kernel) ⟨Nat.le_of_ble_eq_true rfl, Nat.le_of_ble_eq_true rfl⟩) (zr_V hK (hP.sub (ws' := [(m0, .inr (6, [.ref w0, .ref w1, .ref w2, .int ik, .ref w3, .int (nI tx), .int he, .int fa, .ref w4, .ref w5, .int (nI cl), .ref w6, .ref w7, .ref w8, .ref w9])), (w0, .inl (E 0, 137, .inl wvn_18))]) [0, 1] rfl) (ci := 6) (q0 := 0) rfl rfl) rfl rfl hl.1 rfl (lv_room (Nat.le_of_ble_eq_true rfl)) dX8_isStepped_90 ⟨Nat.zero_le _, Nat.zero_le _⟩) (fun r_19 H locs hw_20 hP hS => ?_)
                subst hw_20
                refine lv_fstore (lv' := [(9, .float (zf_cost R (zm_brs N (zm_tuP P a b)) (zm_vio N (zm_tuG G a b) B) (zm_car N (zm_tuG G a b) (zm_tuP P a b)) (zm_amiles N (zm_tuG G a b) (zm_tuP P a b) X Y))), (0, .ref m0), (1, .int (nI 0)), (2, .float ly), (3, .int bay), (4, .int bby), (5, .int (nI (N - 1))), (6, .int (nI (N / 2))), (7, .int (nI a)), (8, .int (nI b))]) hx hb dX8_isStepped_93 hl (by decide) rfl (fun ls hl => ?_)
                refine lv_aload_n hx hb dX8_isStepped_95 rfl (lv_at hl 1 rfl) ?_
                refine lv_iload_n hx hb dX8_isStepped_96 rfl (lv_at hl 2 rfl) ?_
                refine lv_iload hx hb dX8_isStepped_97 (lv_at hl 8 rfl) ?_
                refine lv_iload hx hb dX8_isStepped_99 (lv_at hl 9 rfl) ?_
                have hPc := hP.sub (ws' := [(m0, .inr (6, [.ref w0, .ref w1, .ref w2, .int ik, .ref w3, .int (nI tx), .int he, .int fa, .ref w4, .ref w5, .int (nI cl), .ref w6, .ref w7, .ref w8, .ref w9])), (w0, .inl (E 0, 137, .inl wvn_18))]) [0, 1] rfl
                have hDc := hD.sub (ws' := [(m0, .inr (6, [.ref w0, .ref w1, .ref w2, .int ik, .ref w3, .int (nI tx), .int he, .int fa, .ref w4, .ref w5, .int (nI cl), .ref w6, .ref w7, .ref w8, .ref w9])), (w0, .inl (E 0, 137, .inl wvn_18))]) [0, 1] (by decide +kernel) rfl
                have hAc := zw_AA (wc := [(m0, .inr (6, [.ref w0, .ref w1, .ref w2, .int ik, .ref w3, .int (nI tx), .int he, .int fa, .ref w4, .ref w5, .int (nI cl), .ref w6, .ref w7, .ref w8, .ref w9])), (w0, .inl (E 0, 137, .inl wvn_18))]) hD [0, 1] rfl
                refine zw_cv hAc hS (va_runV (As := [.int (nI 0), .int (nI a), .int (nI b)]) (rest := []) ⟨hx, hb, hml, hown, hts⟩ (c_X8_does_0 l D E m0 w0 w1 w2 w3 w4 w5 w6 w7 w8 w9 ik tx he fa cl wvn_18 N (zm_tuG G a b) (zm_tuP P a b) a b (hz1.1) (haL) (hbL)) (cwV 3 hts gX8_isStepped_X8_does rfl rfl rfl (by decide +kernel) ⟨Nat.le_of_ble_eq_true rfl, Nat.le_of_ble_eq_true rfl⟩) (zw_V hK hPc hDc (ci := 6) (q0 := 0) rfl rfl) rfl rfl hl.1 rfl (lv_room (Nat.le_of_ble_eq_true rfl)) dX8_isStepped_101 ⟨Nat.zero_le _, Nat.zero_le _⟩) (fun u_23 H locs hw_22 hP1 hD1 hk1 hS => ?_)
                obtain ⟨wvn_24, rfl⟩ : ∃ z, z = u_23 := ⟨_, rfl⟩
                try dsimp only at hw_22 hP1 hD1
                obtain ⟨hP, hD⟩ := zw_join (wr := []) (w1 := [(m0, .inr (6, [.ref w0, .ref w1, .ref w2, .int ik, .ref w3, .int (nI tx), .int he, .int fa, .ref w4, .ref w5, .int (nI cl), .ref w6, .ref w7, .ref w8, .ref w9])), (w0, .inl (E 0, 137, .inl wvn_24))]) (ws' := [(m0, .inr (6, [.ref w0, .ref w1, .ref w2, .int ik, .ref w3, .int (nI tx), .int he, .int fa, .ref w4, .ref w5, .int (nI cl), .ref w6, .ref w7, .ref w8, .ref w9])), (w0, .inl (E 0, 137, .inl wvn_24))]) hP hD [0, 1] [] [0, 1] rfl rfl (by decide +kernel) (by decide +kernel) hAc hk1 hP1 hD1 (by decide +kernel) rfl
                clear hP1 hD1 hk1 hPc hDc hAc
                have hz2 := hw_22
                refine lv_fload hx hb dX8_isStepped_104 (lv_at hl 0 rfl) ?_
                refine lv_fload_n hx hb dX8_isStepped_106 rfl (lv_at hl 3 rfl) ?_
                refine lv_fcmp hx hb dX8_isStepped_107 ?_
                refine lv_if_ge (tgt := 121) hx hb dX8_isStepped_108 (by decide) (fun cn_25 => ?_) (fun cn_25 => ?_)
                · skip
                  have hbr := cn_25
                  refine lv_iinc (v := nI (b + 1)) (lv' := [(8, .int (nI (b + 1))), (9, .float (zf_cost R (zm_brs N (zm_tuP P a b)) (zm_vio N (zm_tuG G a b) B) (zm_car N (zm_tuG G a b) (zm_tuP P a b)) (zm_amiles N (zm_tuG G a b) (zm_tuP P a b) X Y))), (0, .ref m0), (1, .int (nI 0)), (2, .float ly), (3, .int bay), (4, .int bby), (5, .int (nI (N - 1))), (6, .int (nI (N / 2))), (7, .int (nI a))]) hx hb dX8_isStepped_121 hl (k := 9) rfl (nI_add _ _) (by decide) rfl (fun ls hl => ?_)
                  refine lv_goto (tgt := 73) hx hb dX8_isStepped_124 (by decide) ?_
                  have hl : lv_has ls 10 [(0, .ref m0), (1, .int (nI 0)), (2, .float ly), (3, .int bay), (4, .int bby), (5, .int (nI (N - 1))), (6, .int (nI (N / 2))), (7, .int (nI a)), (8, .int (nI (b + 1)))] := lv_sub hl [2, 3, 4, 5, 6, 7, 8, 9, 0] rfl
                  exact ih73 (b + 1) ly bay bby wvn_24 H locs ls (by omega) (by first | exact (hI.trans (zb_in_s hbL)).trans (congrArg (zb_in ((fun a b => zm_cost R B X Y N (zm_opG 1 G a b) (zm_opP 1 P a b)) a) a ((N / 2) - (b + 1)) (b + 1)) (zb_one_t (s := (ly, bay, bby)) hbr)) | exact (hI.trans (zb_in_s hbL)).trans (congrArg (zb_in ((fun a b => zm_cost R B X Y N (zm_opG 1 G a b) (zm_opP 1 P a b)) a) a ((N / 2) - (b + 1)) (b + 1)) (zb_one_f (s := (ly, bay, bby)) hbr))) (by first | exact hV2 | exact Or.inr ⟨a, b, rfl, rfl, haL, hbL⟩) (⟨zv_g_eq hz2.1 (zm_tu_tuG _ _ _) (zm_tu_tuP _ _ _), zv_off_t hgb.2 (zv_off_t hz1.2 hz2.2)⟩) (by omega) hP hD hS hl
                · skip
                  have hbr := cn_25
                  refine lv_fload hx hb dX8_isStepped_111 (lv_at hl 0 rfl) ?_
                  refine lv_fstore_n (lv' := [(2, .float (zf_cost R (zm_brs N (zm_tuP P a b)) (zm_vio N (zm_tuG G a b) B) (zm_car N (zm_tuG G a b) (zm_tuP P a b)) (zm_amiles N (zm_tuG G a b) (zm_tuP P a b) X Y))), (9, .float (zf_cost R (zm_brs N (zm_tuP P a b)) (zm_vio N (zm_tuG G a b) B) (zm_car N (zm_tuG G a b) (zm_tuP P a b)) (zm_amiles N (zm_tuG G a b) (zm_tuP P a b) X Y))), (0, .ref m0), (1, .int (nI 0)), (3, .int bay), (4, .int bby), (5, .int (nI (N - 1))), (6, .int (nI (N / 2))), (7, .int (nI a)), (8, .int (nI b))]) hx hb dX8_isStepped_113 rfl hl (by decide) rfl (fun ls hl => ?_)
                  refine lv_iload hx hb dX8_isStepped_114 (lv_at hl 8 rfl) ?_
                  refine lv_istore_n (lv' := [(3, .int (nI a)), (2, .float (zf_cost R (zm_brs N (zm_tuP P a b)) (zm_vio N (zm_tuG G a b) B) (zm_car N (zm_tuG G a b) (zm_tuP P a b)) (zm_amiles N (zm_tuG G a b) (zm_tuP P a b) X Y))), (9, .float (zf_cost R (zm_brs N (zm_tuP P a b)) (zm_vio N (zm_tuG G a b) B) (zm_car N (zm_tuG G a b) (zm_tuP P a b)) (zm_amiles N (zm_tuG G a b) (zm_tuP P a b) X Y))), (0, .ref m0), (1, .int (nI 0)), (4, .int bby), (5, .int (nI (N - 1))), (6, .int (nI (N / 2))), (7, .int (nI a)), (8, .int (nI b))]) hx hb dX8_isStepped_116 rfl hl (by decide) rfl (fun ls hl => ?_)
                  refine lv_iload hx hb dX8_isStepped_117 (lv_at hl 9 rfl) ?_
                  refine lv_istore (lv' := [(4, .int (nI b)), (3, .int (nI a)), (2, .float (zf_cost R (zm_brs N (zm_tuP P a b)) (zm_vio N (zm_tuG G a b) B) (zm_car N (zm_tuG G a b) (zm_tuP P a b)) (zm_amiles N (zm_tuG G a b) (zm_tuP P a b) X Y))), (9, .float (zf_cost R (zm_brs N (zm_tuP P a b)) (zm_vio N (zm_tuG G a b) B) (zm_car N (zm_tuG G a b) (zm_tuP P a b)) (zm_amiles N (zm_tuG G a b) (zm_tuP P a b) X Y))), (0, .ref m0), (1, .int (nI 0)), (5, .int (nI (N - 1))), (6, .int (nI (N / 2))), (7, .int (nI a)), (8, .int (nI b))]) hx hb dX8_isStepped_119 hl (by decide) rfl (fun ls hl => ?_)
                  refine lv_iinc (v := nI (b + 1)) (lv' := [(8, .int (nI (b + 1))), (4, .int (nI b)), (3, .int (nI a)), (2, .float (zf_cost R (zm_brs N (zm_tuP P a b)) (zm_vio N (zm_tuG G a b) B) (zm_car N (zm_tuG G a b) (zm_tuP P a b)) (zm_amiles N (zm_tuG G a b) (zm_tuP P a b) X Y))), (9, .float (zf_cost R (zm_brs N (zm_tuP P a b)) (zm_vio N (zm_tuG G a b) B) (zm_car N (zm_tuG G a b) (zm_tuP P a b)) (zm_amiles N (zm_tuG G a b) (zm_tuP P a b) X Y))), (0, .ref m0), (1, .int (nI 0)), (5, .int (nI (N - 1))), (6, .int (nI (N / 2))), (7, .int (nI a))]) hx hb dX8_isStepped_121 hl (k := 9) rfl (nI_add _ _) (by decide) rfl (fun ls hl => ?_)
                  refine lv_goto (tgt := 73) hx hb dX8_isStepped_124 (by decide) ?_
                  have hl : lv_has ls 10 [(0, .ref m0), (1, .int (nI 0)), (2, .float (zf_cost R (zm_brs N (zm_tuP P a b)) (zm_vio N (zm_tuG G a b) B) (zm_car N (zm_tuG G a b) (zm_tuP P a b)) (zm_amiles N (zm_tuG G a b) (zm_tuP P a b) X Y))), (3, .int (nI a)), (4, .int (nI b)), (5, .int (nI (N - 1))), (6, .int (nI (N / 2))), (7, .int (nI a)), (8, .int (nI (b + 1)))] := lv_sub hl [5, 6, 3, 2, 1, 7, 8, 9, 0] rfl
                  exact ih73 (b + 1) (zf_cost R (zm_brs N (zm_tuP P a b)) (zm_vio N (zm_tuG G a b) B) (zm_car N (zm_tuG G a b) (zm_tuP P a b)) (zm_amiles N (zm_tuG G a b) (zm_tuP P a b) X Y)) (nI a) (nI b) wvn_24 H locs ls (by omega) (by first | exact (hI.trans (zb_in_s hbL)).trans (congrArg (zb_in ((fun a b => zm_cost R B X Y N (zm_opG 1 G a b) (zm_opP 1 P a b)) a) a ((N / 2) - (b + 1)) (b + 1)) (zb_one_t (s := (ly, bay, bby)) hbr)) | exact (hI.trans (zb_in_s hbL)).trans (congrArg (zb_in ((fun a b => zm_cost R B X Y N (zm_opG 1 G a b) (zm_opP 1 P a b)) a) a ((N / 2) - (b + 1)) (b + 1)) (zb_one_f (s := (ly, bay, bby)) hbr))) (by first | exact hV2 | exact Or.inr ⟨a, b, rfl, rfl, haL, hbL⟩) (⟨zv_g_eq hz2.1 (zm_tu_tuG _ _ _) (zm_tu_tuP _ _ _), zv_off_t hgb.2 (zv_off_t hz1.2 hz2.2)⟩) (by omega) hP hD hS hl
  · skip
    exact absurd cn_3 (by decide)

set_option maxHeartbeats 4000000 in
set_option maxRecDepth 100000 in
theorem c_X8_isStepped_1 (l : Launch) (D : va_G) (E : Nat → ClassId) (m0 : Nat) (w0 : Nat) (w1 : Nat) (w2 : Nat) (w3 : Nat) (w4 : Nat) (w5 : Nat) (w6 : Nat) (w7 : Nat) (w8 : Nat) (w9 : Nat) (ik : Int32) (tx : Nat) (he : Int32) (fa : Int32) (cl : Nat) (wv : Nat → Int32) (N : Nat) (G : Nat → Nat → Nat) (P : Nat → Nat → Nat) (X : Nat → Nat) (Y : Nat → Nat) (B : Nat → Nat → Nat) (R : Nat → Nat) (hvg : zv_g N G P wv) (hxy : zv_xy X Y wv) (hvb : zv_b B wv) (hvr : zv_r R wv) : Met l yX8_isStepped wsX8_isStepped ({ frames := 7, cells := 0, slots := 0, locals := 156 }) (zw_P D E [.ref m0, .int (nI 1)] [(m0, .inr (6, [.ref w0, .ref w1, .ref w2, .int ik, .ref w3, .int (nI tx), .int he, .int fa, .ref w4, .ref w5, .int (nI cl), .ref w6, .ref w7, .ref w8, .ref w9])), (w0, .inl (E 0, 137, .inl wv))]) (zw_Qi D [(m0, .inr (6, [.ref w0, .ref w1, .ref w2, .int ik, .ref w3, .int (nI tx), .int he, .int fa, .ref w4, .ref w5, .int (nI cl), .ref w6, .ref w7, .ref w8, .ref w9])), (w0, .inl (E 0, 137, .inl wv))] (fun zv (u : (Nat → Int32)) => zm_stepR 0 R B X Y N G P zv (fun G P => zv_g N G P u ∧ zv_off wv u)) (fun (u : (Nat → Int32)) => [(m0, .inr (6, [.ref w0, .ref w1, .ref w2, .int ik, .ref w3, .int (nI tx), .int he, .int fa, .ref w4, .ref w5, .int (nI cl), .ref w6, .ref w7, .ref w8, .ref w9])), (w0, .inl (E 0, 137, .inl u))])) 0 0 (zw_A [(m0, .inr (6, [.ref w0, .ref w1, .ref w2, .int ik, .ref w3, .int (nI tx), .int he, .int fa, .ref w4, .ref w5, .int (nI cl), .ref w6, .ref w7, .ref w8, .ref w9])), (w0, .inl (E 0, 137, .inl wv))]) := by
  refine Met.ofW (cc := cX8_isStepped) (maxL := 10) (ret := (some .boolean)) (by decide) rfl ?_
  intro p e s m args below meth c s₁ Bz hml hv
  obtain ⟨rfl, hP, hK, hD0⟩ := hv
  have hx := Bz.exec
  have hb := Bz.bytes
  have hr := Bz.returns
  have hts := atoms_spec (ws := wsX8_isStepped) Bz.pre
  have hown : s.vm.findClass RX8 = some m.cls := findClass_of_methodNamed Bz.named
  have hlocks := Bz.notSynchronized
  have hP : va_P D vwCl [(m0, .inr (6, [.ref w0, .ref w1, .ref w2, .int ik, .ref w3, .int (nI tx), .int he, .int fa, .ref w4, .ref w5, .int (nI cl), .ref w6, .ref w7, .ref w8, .ref w9])), (w0, .inl (E 0, 137, .inl wv))] s.heap := hP
  obtain ⟨A, hAe⟩ : ∃ A : Nat → Prop, A = zw_A [(m0, .inr (6, [.ref w0, .ref w1, .ref w2, .int ik, .ref w3, .int (nI tx), .int he, .int fa, .ref w4, .ref w5, .int (nI cl), .ref w6, .ref w7, .ref w8, .ref w9])), (w0, .inl (E 0, 137, .inl wv))] := ⟨_, rfl⟩
  have hD : va_D A [(m0, .inr (6, [.ref w0, .ref w1, .ref w2, .int ik, .ref w3, .int (nI tx), .int he, .int fa, .ref w4, .ref w5, .int (nI cl), .ref w6, .ref w7, .ref w8, .ref w9])), (w0, .inl (E 0, 137, .inl wv))] := hAe ▸ zw_own hD0
  have hS : va_S A s.heap s.heap [] := va_S.rf
  have hl := lv_entry ([.ref m0, .int (nI 1)]) (n := 10) (Nat.le_of_ble_eq_true rfl)
  rw [lg_entry_eq]
  generalize (lg_sl ([.ref m0, .int (nI 1)]) ++ List.replicate (10 - (lg_sl ([.ref m0, .int (nI 1)])).length) Slot.unset).toArray = ls at hl ⊢
  have hl : lv_has ls 10 [(0, .ref m0), (1, .int (nI 1))] := hl
  refine zr_nQ (fun Q hQ => ?_)
  have hok := hvg.1
  have hN := hok.1
  have hvn := hvg.2.1
  have hgr := zm_gr_of hxy
  refine lv_aload_n hx hb dX8_isStepped_0 rfl (lv_at hl 0 rfl) ?_
  refine zr_cf hP hS (va_runV (As := []) (rest := []) ⟨hx, hb, hml, hown, hts⟩ (c_X8_costs l D E m0 w0 w1 w2 w3 w4 w5 w6 w7 w8 w9 ik tx he fa cl wv N G P X Y B R (hvg) (hxy) (hvb) (hvr)) (cwV 0 hts gX8_isStepped_X8_costs rfl rfl rfl (by decide +kernel) ⟨Nat.le_of_ble_eq_true rfl, Nat.le_of_ble_eq_true rfl⟩) (zr_V hK (hP.sub (ws' := [(m0, .inr (6, [.ref w0, .ref w1, .ref w2, .int ik, .ref w3, .int (nI tx), .int he, .int fa, .ref w4, .ref w5, .int (nI cl), .ref w6, .ref w7, .ref w8, .ref w9])), (w0, .inl (E 0, 137, .inl wv))]) [0, 1] rfl) (ci := 6) (q0 := 0) rfl rfl) rfl rfl hl.1 rfl (lv_room (Nat.le_of_ble_eq_true rfl)) dX8_isStepped_1 ⟨Nat.zero_le _, Nat.zero_le _⟩) (fun r_1 H locs hw_2 hP hS => ?_)
  subst hw_2
  refine lv_fstore_n (lv' := [(2, .float (zf_cost R (zm_brs N P) (zm_vio N G B) (zm_car N G P) (zm_amiles N G P X Y))), (0, .ref m0), (1, .int (nI 1))]) hx hb dX8_isStepped_4 rfl hl (by decide) rfl (fun ls hl => ?_)
  refine lv_iconst (v := (-1)) hx hb dX8_isStepped_5 (by rfl) ?_
  refine lv_istore_n (lv' := [(3, .int (-1)), (2, .float (zf_cost R (zm_brs N P) (zm_vio N G B) (zm_car N G P) (zm_amiles N G P X Y))), (0, .ref m0), (1, .int (nI 1))]) hx hb dX8_isStepped_6 rfl hl (by decide) rfl (fun ls hl => ?_)
  refine lv_iconst (v := (-1)) hx hb dX8_isStepped_7 (by rfl) ?_
  refine lv_istore (lv' := [(4, .int (-1)), (3, .int (-1)), (2, .float (zf_cost R (zm_brs N P) (zm_vio N G B) (zm_car N G P) (zm_amiles N G P X Y))), (0, .ref m0), (1, .int (nI 1))]) hx hb dX8_isStepped_8 hl (by decide) rfl (fun ls hl => ?_)
  refine lv_iload_n hx hb dX8_isStepped_10 rfl (lv_at hl 4 rfl) ?_
  refine lv_iconst (v := nI 2) hx hb dX8_isStepped_11 (by rfl) ?_
  refine lv_icmp_ne (tgt := 24) hx hb dX8_isStepped_12 (by decide) (fun cn_3 => ?_) (fun cn_3 => ?_)
  · skip
    refine lv_aload_n hx hb dX8_isStepped_24 rfl (lv_at hl 3 rfl) ?_
    refine zr_ci hP hS (va_runV (As := []) (rest := []) ⟨hx, hb, hml, hown, hts⟩ (c_X8_rounds l D E m0 w0 w1 w2 w3 w4 w5 w6 w7 w8 w9 ik tx he fa cl wv N (hvn) (hN)) (cwV 0 hts gX8_isStepped_X8_rounds rfl rfl rfl (by decide +kernel) ⟨Nat.le_of_ble_eq_true rfl, Nat.le_of_ble_eq_true rfl⟩) (zr_V hK (hP.sub (ws' := [(m0, .inr (6, [.ref w0, .ref w1, .ref w2, .int ik, .ref w3, .int (nI tx), .int he, .int fa, .ref w4, .ref w5, .int (nI cl), .ref w6, .ref w7, .ref w8, .ref w9])), (w0, .inl (E 0, 137, .inl wv))]) [0, 1] rfl) (ci := 6) (q0 := 0) rfl rfl) rfl rfl hl.1 rfl (lv_room (Nat.le_of_ble_eq_true rfl)) dX8_isStepped_25 ⟨Nat.zero_le _, Nat.zero_le _⟩) (fun r_4 H locs hw_5 hP hS => ?_)
    subst hw_5
    refine lv_istore (lv' := [(5, .int (nI (N - 1))), (4, .int (-1)), (3, .int (-1)), (2, .float (zf_cost R (zm_brs N P) (zm_vio N G B) (zm_car N G P) (zm_amiles N G P X Y))), (0, .ref m0), (1, .int (nI 1))]) hx hb dX8_isStepped_28 hl (by decide) rfl (fun ls hl => ?_)
    refine lv_iload_n hx hb dX8_isStepped_30 rfl (lv_at hl 5 rfl) ?_
    refine lv_if_ne (tgt := 45) hx hb dX8_isStepped_31 (by decide) (fun cn_6 => ?_) (fun cn_6 => ?_)
    · skip
      refine lv_iload hx hb dX8_isStepped_45 (lv_at hl 0 rfl) ?_
      refine lv_istore (lv' := [(6, .int (nI (N - 1))), (5, .int (nI (N - 1))), (4, .int (-1)), (3, .int (-1)), (2, .float (zf_cost R (zm_brs N P) (zm_vio N G B) (zm_car N G P) (zm_amiles N G P X Y))), (0, .ref m0), (1, .int (nI 1))]) hx hb dX8_isStepped_47 hl (by decide) rfl (fun ls hl => ?_)
      refine lv_iconst (v := nI 0) hx hb dX8_isStepped_49 (by rfl) ?_
      refine lv_istore (lv' := [(7, .int (nI 0)), (6, .int (nI (N - 1))), (5, .int (nI (N - 1))), (4, .int (-1)), (3, .int (-1)), (2, .float (zf_cost R (zm_brs N P) (zm_vio N G B) (zm_car N G P) (zm_amiles N G P X Y))), (0, .ref m0), (1, .int (nI 1))]) hx hb dX8_isStepped_50 hl (by decide) rfl (fun ls hl => ?_)
      suffices KL52 : ∀ (kz : Nat) (a : Nat) (lz : UInt32) (ba : Int32) (bb : Int32) (wva : Nat → Int32) (H : Heap) (locs : List Loc) (ls : Array Slot), (N - 1 - a) < kz → (zm_best 0 R B X Y N G P = zb_out (fun a b => zm_cost R B X Y N (zm_opG 0 G a b) (zm_opP 0 P a b)) (zm_first 0) (fun _ => zm_last 0 N) (N - 1 - a) a (lz, ba, bb)) → (zm_val 0 N ba bb) → (zv_g N G P wva ∧ zv_off wv wva) → (a ≤ N - 1) → va_P D vwCl [(m0, .inr (6, [.ref w0, .ref w1, .ref w2, .int ik, .ref w3, .int (nI tx), .int he, .int fa, .ref w4, .ref w5, .int (nI cl), .ref w6, .ref w7, .ref w8, .ref w9])), (w0, .inl (E 0, 137, .inl wva))] H → va_D A [(m0, .inr (6, [.ref w0, .ref w1, .ref w2, .int ik, .ref w3, .int (nI tx), .int he, .int fa, .ref w4, .ref w5, .int (nI cl), .ref w6, .ref w7, .ref w8, .ref w9])), (w0, .inl (E 0, 137, .inl wva))] → va_S A s.heap H locs → lv_has ls 10 [(0, .ref m0), (1, .int (nI 1)), (2, .float lz), (3, .int ba), (4, .int bb), (5, .int (nI (N - 1))), (6, .int (nI (N - 1))), (7, .int (nI a))] → W p l e (headSpec wsX8_isStepped ({ frames := 7, cells := 0, slots := 0, locals := 156 })).room s m ([.ref m0, .int (nI 1)] : List Value).toArray below meth c H locs 0 0 Q (F0 m 52 ls []) from
        KL52 _ 0 (zf_cost R (zm_brs N P) (zm_vio N G B) (zm_car N G P) (zm_amiles N G P X Y)) (-1) (-1) wv _ _ ls (Nat.lt_succ_self _) (rfl) (Or.inl rfl) (⟨hvg, zv_off_r⟩) (by omega) hP hD hS (lv_sub hl [6, 7, 5, 4, 3, 2, 1, 0] rfl)
      clear hP hS hl hD
      intro kz
      induction kz with
      | zero => intro a lz ba bb wva H locs ls hkz; exact absurd hkz (Nat.not_lt_zero _)
      | succ kz ih52 =>
        intro a lz ba bb wva H locs ls hkz hO hV hga haE hP hD hS hl
        refine lv_iload hx hb dX8_isStepped_52 (lv_at hl 7 rfl) ?_
        refine lv_iload hx hb dX8_isStepped_54 (lv_at hl 5 rfl) ?_
        refine lv_icmp_ge (tgt := 133) hx hb dX8_isStepped_56 (by decide) (fun cn_7 => ?_) (fun cn_7 => ?_)
        · skip
          have cn_7 : N - 1 ≤ a := (nI_leI (a := N - 1) (b := a) (by omega) (by omega)).mp cn_7
          have haE2 : N - 1 ≤ a := by omega
          have hbest := hO.trans (zb_out_e haE2)
          refine lv_iload_n hx hb dX8_isStepped_133 rfl (lv_at hl 3 rfl) ?_
          refine lv_if_ge (tgt := 139) hx hb dX8_isStepped_134 (by decide) (fun cn_8 => ?_) (fun cn_8 => ?_)
          · skip
            have hsome := cn_8
            have hne : ba ≠ -1 := fun e => absurd (e ▸ hsome) (by decide)
            obtain ⟨a9, b9, rfl, rfl, ha9, hb9⟩ := Or.resolve_left hV hne
            have ha9 : a9 < N - 1 := ha9
            have hb9 : b9 < N - 1 := hb9
            refine lv_aload_n hx hb dX8_isStepped_139 rfl (lv_at hl 0 rfl) ?_
            refine lv_iload_n hx hb dX8_isStepped_140 rfl (lv_at hl 1 rfl) ?_
            refine lv_iload_n hx hb dX8_isStepped_141 rfl (lv_at hl 3 rfl) ?_
            refine lv_iload hx hb dX8_isStepped_142 (lv_at hl 4 rfl) ?_
            have hPc := hP.sub (ws' := [(m0, .inr (6, [.ref w0, .ref w1, .ref w2, .int ik, .ref w3, .int (nI tx), .int he, .int fa, .ref w4, .ref w5, .int (nI cl), .ref w6, .ref w7, .ref w8, .ref w9])), (w0, .inl (E 0, 137, .inl wva))]) [0, 1] rfl
            have hDc := hD.sub (ws' := [(m0, .inr (6, [.ref w0, .ref w1, .ref w2, .int ik, .ref w3, .int (nI tx), .int he, .int fa, .ref w4, .ref w5, .int (nI cl), .ref w6, .ref w7, .ref w8, .ref w9])), (w0, .inl (E 0, 137, .inl wva))]) [0, 1] (by decide +kernel) rfl
            have hAc := zw_AA (wc := [(m0, .inr (6, [.ref w0, .ref w1, .ref w2, .int ik, .ref w3, .int (nI tx), .int he, .int fa, .ref w4, .ref w5, .int (nI cl), .ref w6, .ref w7, .ref w8, .ref w9])), (w0, .inl (E 0, 137, .inl wva))]) hD [0, 1] rfl
            refine zw_cv hAc hS (va_runV (As := [.int (nI 1), .int (nI a9), .int (nI b9)]) (rest := []) ⟨hx, hb, hml, hown, hts⟩ (c_X8_does_1 l D E m0 w0 w1 w2 w3 w4 w5 w6 w7 w8 w9 ik tx he fa cl wva N G P a9 b9 (hga.1) (ha9) (hb9)) (cwV 3 hts gX8_isStepped_X8_does rfl rfl rfl (by decide +kernel) ⟨Nat.le_of_ble_eq_true rfl, Nat.le_of_ble_eq_true rfl⟩) (zw_V hK hPc hDc (ci := 6) (q0 := 0) rfl rfl) rfl rfl hl.1 rfl (lv_room (Nat.le_of_ble_eq_true rfl)) dX8_isStepped_144 ⟨Nat.zero_le _, Nat.zero_le _⟩) (fun u_11 H locs hw_10 hP1 hD1 hk1 hS => ?_)
            obtain ⟨wvn_12, rfl⟩ : ∃ z, z = u_11 := ⟨_, rfl⟩
            try dsimp only at hw_10 hP1 hD1
            obtain ⟨hP, hD⟩ := zw_join (wr := []) (w1 := [(m0, .inr (6, [.ref w0, .ref w1, .ref w2, .int ik, .ref w3, .int (nI tx), .int he, .int fa, .ref w4, .ref w5, .int (nI cl), .ref w6, .ref w7, .ref w8, .ref w9])), (w0, .inl (E 0, 137, .inl wvn_12))]) (ws' := [(m0, .inr (6, [.ref w0, .ref w1, .ref w2, .int ik, .ref w3, .int (nI tx), .int he, .int fa, .ref w4, .ref w5, .int (nI cl), .ref w6, .ref w7, .ref w8, .ref w9])), (w0, .inl (E 0, 137, .inl wvn_12))]) hP hD [0, 1] [] [0, 1] rfl rfl (by decide +kernel) (by decide +kernel) hAc hk1 hP1 hD1 (by decide +kernel) rfl
            clear hP1 hD1 hk1 hPc hDc hAc
            have hze := hw_10
            refine lv_iconst (v := nI 1) hx hb dX8_isStepped_147 (by rfl) ?_
            subst hQ; subst hAe
            exact W.zret (v := nI 1) hx hb hr (by decide) (fun tz htz hWz => ⟨⟨nI 1, wvn_12, rfl, Or.inr ⟨a9, b9, zm_step_s (by omega) (by omega) hbest, rfl, hze.1, zv_off_t hga.2 hze.2⟩, by rw [htz]; exact hP, hD⟩, hS.F htz⟩) hS.2.2 dX8_isStepped_148
          · skip
            have hnone : ba = -1 := hV.elim id (fun ⟨a8, b8, e8, _, h8, _⟩ => absurd (e8 ▸ nI_pos' (by have h8 : a8 < N - 1 := h8; omega)) cn_8)
            refine lv_iconst (v := nI 0) hx hb dX8_isStepped_137 (by rfl) ?_
            subst hQ; subst hAe
            exact W.zret (v := nI 0) hx hb hr (by decide) (fun tz htz hWz => ⟨⟨nI 0, wva, rfl, Or.inl ⟨zm_step_n (by rw [hbest, hnone]), rfl, hga⟩, by rw [htz]; exact hP, hD⟩, hS.F htz⟩) hS.2.2 dX8_isStepped_138
        · skip
          have cn_7 : ¬ (N - 1 ≤ a) := fun hz => cn_7 ((nI_leI (a := N - 1) (b := a) (by omega) (by omega)).mpr hz)
          have haL : a < N - 1 := by omega
          refine lv_iload_n hx hb dX8_isStepped_59 rfl (lv_at hl 1 rfl) ?_
          refine lv_if_ne (tgt := 67) hx hb dX8_isStepped_60 (by decide) (fun cn_13 => ?_) (fun cn_13 => ?_)
          · skip
            refine lv_iload hx hb dX8_isStepped_67 (lv_at hl 7 rfl) ?_
            refine lv_iconst (v := nI 1) hx hb dX8_isStepped_69 (by rfl) ?_
            refine lv_iadd hx hb dX8_isStepped_70 ?_
            refine zr_ti (y := nI (a + 1)) (nI_add _ _) ?_
            refine lv_istore (lv' := [(8, .int (nI (a + 1))), (0, .ref m0), (1, .int (nI 1)), (2, .float lz), (3, .int ba), (4, .int bb), (5, .int (nI (N - 1))), (6, .int (nI (N - 1))), (7, .int (nI a))]) hx hb dX8_isStepped_71 hl (by decide) rfl (fun ls hl => ?_)
            suffices KL73 : ∀ (kz : Nat) (b : Nat) (ly : UInt32) (bay : Int32) (bby : Int32) (wvb : Nat → Int32) (H : Heap) (locs : List Loc) (ls : Array Slot), (10 - b) < kz → (zb_in ((fun a b => zm_cost R B X Y N (zm_opG 0 G a b) (zm_opP 0 P a b)) a) a ((fun _ => zm_last 0 N) a - zm_first 0 a) (zm_first 0 a) (lz, ba, bb) = zb_in ((fun a b => zm_cost R B X Y N (zm_opG 0 G a b) (zm_opP 0 P a b)) a) a ((N - 1) - b) b (ly, bay, bby)) → (zm_val 0 N bay bby) → (zv_g N G P wvb ∧ zv_off wv wvb) → (b ≤ 6) → va_P D vwCl [(m0, .inr (6, [.ref w0, .ref w1, .ref w2, .int ik, .ref w3, .int (nI tx), .int he, .int fa, .ref w4, .ref w5, .int (nI cl), .ref w6, .ref w7, .ref w8, .ref w9])), (w0, .inl (E 0, 137, .inl wvb))] H → va_D A [(m0, .inr (6, [.ref w0, .ref w1, .ref w2, .int ik, .ref w3, .int (nI tx), .int he, .int fa, .ref w4, .ref w5, .int (nI cl), .ref w6, .ref w7, .ref w8, .ref w9])), (w0, .inl (E 0, 137, .inl wvb))] → va_S A s.heap H locs → lv_has ls 10 [(0, .ref m0), (1, .int (nI 1)), (2, .float ly), (3, .int bay), (4, .int bby), (5, .int (nI (N - 1))), (6, .int (nI (N - 1))), (7, .int (nI a)), (8, .int (nI b))] → W p l e (headSpec wsX8_isStepped ({ frames := 7, cells := 0, slots := 0, locals := 156 })).room s m ([.ref m0, .int (nI 1)] : List Value).toArray below meth c H locs 0 0 Q (F0 m 73 ls []) from
              KL73 _ (a + 1) lz ba bb wva _ _ ls (Nat.lt_succ_self _) (rfl) (hV) (hga) (by omega) hP hD hS (lv_sub hl [1, 2, 3, 4, 5, 6, 7, 8, 0] rfl)
            clear hP hS hl hD
            intro kz
            induction kz with
            | zero => intro b ly bay bby wvb H locs ls hkz; exact absurd hkz (Nat.not_lt_zero _)
            | succ kz ih73 =>
              intro b ly bay bby wvb H locs ls hkz hI hV2 hgb hb6 hP hD hS hl
              refine lv_iload hx hb dX8_isStepped_73 (lv_at hl 8 rfl) ?_
              refine lv_iload hx hb dX8_isStepped_75 (lv_at hl 6 rfl) ?_
              refine lv_icmp_ge (tgt := 127) hx hb dX8_isStepped_77 (by decide) (fun cn_14 => ?_) (fun cn_14 => ?_)
              · skip
                have cn_14 : N - 1 ≤ b := (nI_leI (a := N - 1) (b := b) (by omega) (by omega)).mp cn_14
                have hbE : N - 1 ≤ b := by omega
                refine lv_iinc (v := nI (a + 1)) (lv' := [(7, .int (nI (a + 1))), (0, .ref m0), (1, .int (nI 1)), (2, .float ly), (3, .int bay), (4, .int bby), (5, .int (nI (N - 1))), (6, .int (nI (N - 1))), (8, .int (nI b))]) hx hb dX8_isStepped_127 hl (k := 7) rfl (nI_add _ _) (by decide) rfl (fun ls hl => ?_)
                refine lv_goto (tgt := 52) hx hb dX8_isStepped_130 (by decide) ?_
                have hl : lv_has ls 10 [(0, .ref m0), (1, .int (nI 1)), (2, .float ly), (3, .int bay), (4, .int bby), (5, .int (nI (N - 1))), (6, .int (nI (N - 1))), (7, .int (nI (a + 1)))] := lv_sub hl [1, 2, 3, 4, 5, 6, 7, 0] rfl
                exact ih52 (a + 1) ly bay bby wvb H locs ls (by omega) (by rw [hO, zb_out_s haL]; exact congrArg (fun s => zb_out (fun a b => zm_cost R B X Y N (zm_opG 0 G a b) (zm_opP 0 P a b)) (zm_first 0) (fun _ => zm_last 0 N) (N - 1 - (a + 1)) (a + 1) s) (hI.trans (zb_in_e hbE))) (hV2) (hgb) (by omega) hP hD hS hl
              · skip
                have cn_14 : ¬ (N - 1 ≤ b) := fun hz => cn_14 ((nI_leI (a := N - 1) (b := b) (by omega) (by omega)).mpr hz)
                have hbL : b < N - 1 := by omega
                refine lv_aload_n hx hb dX8_isStepped_80 rfl (lv_at hl 0 rfl) ?_
                refine lv_iload_n hx hb dX8_isStepped_81 rfl (lv_at hl 1 rfl) ?_
                refine lv_iload hx hb dX8_isStepped_82 (lv_at hl 7 rfl) ?_
                refine lv_iload hx hb dX8_isStepped_84 (lv_at hl 8 rfl) ?_
                have hPc := hP.sub (ws' := [(m0, .inr (6, [.ref w0, .ref w1, .ref w2, .int ik, .ref w3, .int (nI tx), .int he, .int fa, .ref w4, .ref w5, .int (nI cl), .ref w6, .ref w7, .ref w8, .ref w9])), (w0, .inl (E 0, 137, .inl wvb))]) [0, 1] rfl
                have hDc := hD.sub (ws' := [(m0, .inr (6, [.ref w0, .ref w1, .ref w2, .int ik, .ref w3, .int (nI tx), .int he, .int fa, .ref w4, .ref w5, .int (nI cl), .ref w6, .ref w7, .ref w8, .ref w9])), (w0, .inl (E 0, 137, .inl wvb))]) [0, 1] (by decide +kernel) rfl
                have hAc := zw_AA (wc := [(m0, .inr (6, [.ref w0, .ref w1, .ref w2, .int ik, .ref w3, .int (nI tx), .int he, .int fa, .ref w4, .ref w5, .int (nI cl), .ref w6, .ref w7, .ref w8, .ref w9])), (w0, .inl (E 0, 137, .inl wvb))]) hD [0, 1] rfl
                refine zw_cv hAc hS (va_runV (As := [.int (nI 1), .int (nI a), .int (nI b)]) (rest := []) ⟨hx, hb, hml, hown, hts⟩ (c_X8_does_1 l D E m0 w0 w1 w2 w3 w4 w5 w6 w7 w8 w9 ik tx he fa cl wvb N G P a b (hgb.1) (haL) (hbL)) (cwV 3 hts gX8_isStepped_X8_does rfl rfl rfl (by decide +kernel) ⟨Nat.le_of_ble_eq_true rfl, Nat.le_of_ble_eq_true rfl⟩) (zw_V hK hPc hDc (ci := 6) (q0 := 0) rfl rfl) rfl rfl hl.1 rfl (lv_room (Nat.le_of_ble_eq_true rfl)) dX8_isStepped_86 ⟨Nat.zero_le _, Nat.zero_le _⟩) (fun u_17 H locs hw_16 hP1 hD1 hk1 hS => ?_)
                obtain ⟨wvn_18, rfl⟩ : ∃ z, z = u_17 := ⟨_, rfl⟩
                try dsimp only at hw_16 hP1 hD1
                obtain ⟨hP, hD⟩ := zw_join (wr := []) (w1 := [(m0, .inr (6, [.ref w0, .ref w1, .ref w2, .int ik, .ref w3, .int (nI tx), .int he, .int fa, .ref w4, .ref w5, .int (nI cl), .ref w6, .ref w7, .ref w8, .ref w9])), (w0, .inl (E 0, 137, .inl wvn_18))]) (ws' := [(m0, .inr (6, [.ref w0, .ref w1, .ref w2, .int ik, .ref w3, .int (nI tx), .int he, .int fa, .ref w4, .ref w5, .int (nI cl), .ref w6, .ref w7, .ref w8, .ref w9])), (w0, .inl (E 0, 137, .inl wvn_18))]) hP hD [0, 1] [] [0, 1] rfl rfl (by decide +kernel) (by decide +kernel) hAc hk1 hP1 hD1 (by decide +kernel) rfl
                clear hP1 hD1 hk1 hPc hDc hAc
                have hz1 := hw_16
                have hoz := zv_off_t hgb.2 hz1.2
                refine lv_aload_n hx hb dX8_isStepped_89 rfl (lv_at hl 0 rfl) ?_
                refine zr_cf hP hS (va_runV (As := []) (rest := []) ⟨hx, hb, hml, hown, hts⟩ (c_X8_costs l D E m0 w0 w1 w2 w3 w4 w5 w6 w7 w8 w9 ik tx he fa cl wvn_18 N (zm_sw G a b) (zm_sw P a b) X Y B R (hz1.1) (zv_xy_off hxy hoz) (zv_b_off hvb hoz) (zv_r_off hvr hoz)) (cwV 0 hts gX8_isStepped_X8_costs rfl rfl rfl (by decide +kernel) ⟨Nat.le_of_ble_eq_true rfl, Nat.le_of_ble_eq_true rfl⟩) (zr_V hK (hP.sub (ws' := [(m0, .inr (6, [.ref w0, .ref w1, .ref w2, .int ik, .ref w3, .int (nI tx), .int he, .int fa, .ref w4, .ref w5, .int (nI cl), .ref w6, .ref w7, .ref w8, .ref w9])), (w0, .inl (E 0, 137, .inl wvn_18))]) [0, 1] rfl) (ci := 6) (q0 := 0) rfl rfl) rfl rfl hl.1 rfl (lv_room (Nat.le_of_ble_eq_true rfl)) dX8_isStepped_90 ⟨Nat.zero_le _, Nat.zero_le _⟩) (fun r_19 H locs hw_20 hP hS => ?_)
                subst hw_20
                refine lv_fstore (lv' := [(9, .float (zf_cost R (zm_brs N (zm_sw P a b)) (zm_vio N (zm_sw G a b) B) (zm_car N (zm_sw G a b) (zm_sw P a b)) (zm_amiles N (zm_sw G a b) (zm_sw P a b) X Y))), (0, .ref m0), (1, .int (nI 1)), (2, .float ly), (3, .int bay), (4, .int bby), (5, .int (nI (N - 1))), (6, .int (nI (N - 1))), (7, .int (nI a)), (8, .int (nI b))]) hx hb dX8_isStepped_93 hl (by decide) rfl (fun ls hl => ?_)
                refine lv_aload_n hx hb dX8_isStepped_95 rfl (lv_at hl 1 rfl) ?_
                refine lv_iload_n hx hb dX8_isStepped_96 rfl (lv_at hl 2 rfl) ?_
                refine lv_iload hx hb dX8_isStepped_97 (lv_at hl 8 rfl) ?_
                refine lv_iload hx hb dX8_isStepped_99 (lv_at hl 9 rfl) ?_
                have hPc := hP.sub (ws' := [(m0, .inr (6, [.ref w0, .ref w1, .ref w2, .int ik, .ref w3, .int (nI tx), .int he, .int fa, .ref w4, .ref w5, .int (nI cl), .ref w6, .ref w7, .ref w8, .ref w9])), (w0, .inl (E 0, 137, .inl wvn_18))]) [0, 1] rfl
                have hDc := hD.sub (ws' := [(m0, .inr (6, [.ref w0, .ref w1, .ref w2, .int ik, .ref w3, .int (nI tx), .int he, .int fa, .ref w4, .ref w5, .int (nI cl), .ref w6, .ref w7, .ref w8, .ref w9])), (w0, .inl (E 0, 137, .inl wvn_18))]) [0, 1] (by decide +kernel) rfl
                have hAc := zw_AA (wc := [(m0, .inr (6, [.ref w0, .ref w1, .ref w2, .int ik, .ref w3, .int (nI tx), .int he, .int fa, .ref w4, .ref w5, .int (nI cl), .ref w6, .ref w7, .ref w8, .ref w9])), (w0, .inl (E 0, 137, .inl wvn_18))]) hD [0, 1] rfl
                refine zw_cv hAc hS (va_runV (As := [.int (nI 1), .int (nI a), .int (nI b)]) (rest := []) ⟨hx, hb, hml, hown, hts⟩ (c_X8_does_1 l D E m0 w0 w1 w2 w3 w4 w5 w6 w7 w8 w9 ik tx he fa cl wvn_18 N (zm_sw G a b) (zm_sw P a b) a b (hz1.1) (haL) (hbL)) (cwV 3 hts gX8_isStepped_X8_does rfl rfl rfl (by decide +kernel) ⟨Nat.le_of_ble_eq_true rfl, Nat.le_of_ble_eq_true rfl⟩) (zw_V hK hPc hDc (ci := 6) (q0 := 0) rfl rfl) rfl rfl hl.1 rfl (lv_room (Nat.le_of_ble_eq_true rfl)) dX8_isStepped_101 ⟨Nat.zero_le _, Nat.zero_le _⟩) (fun u_23 H locs hw_22 hP1 hD1 hk1 hS => ?_)
                obtain ⟨wvn_24, rfl⟩ : ∃ z, z = u_23 := ⟨_, rfl⟩
                try dsimp only at hw_22 hP1 hD1
                obtain ⟨hP, hD⟩ := zw_join (wr := []) (w1 := [(m0, .inr (6, [.ref w0, .ref w1, .ref w2, .int ik, .ref w3, .int (nI tx), .int he, .int fa, .ref w4, .ref w5, .int (nI cl), .ref w6, .ref w7, .ref w8, .ref w9])), (w0, .inl (E 0, 137, .inl wvn_24))]) (ws' := [(m0, .inr (6, [.ref w0, .ref w1, .ref w2, .int ik, .ref w3, .int (nI tx), .int he, .int fa, .ref w4, .ref w5, .int (nI cl), .ref w6, .ref w7, .ref w8, .ref w9])), (w0, .inl (E 0, 137, .inl wvn_24))]) hP hD [0, 1] [] [0, 1] rfl rfl (by decide +kernel) (by decide +kernel) hAc hk1 hP1 hD1 (by decide +kernel) rfl
                clear hP1 hD1 hk1 hPc hDc hAc
                have hz2 := hw_22
                refine lv_fload hx hb dX8_isStepped_104 (lv_at hl 0 rfl) ?_
                refine lv_fload_n hx hb dX8_isStepped_106 rfl (lv_at hl 3 rfl) ?_
                refine lv_fcmp hx hb dX8_isStepped_107 ?_
                refine lv_if_ge (tgt := 121) hx hb dX8_isStepped_108 (by decide) (fun cn_25 => ?_) (fun cn_25 => ?_)
                · skip
                  have hbr := cn_25
                  refine lv_iinc (v := nI (b + 1)) (lv' := [(8, .int (nI (b + 1))), (9, .float (zf_cost R (zm_brs N (zm_sw P a b)) (zm_vio N (zm_sw G a b) B) (zm_car N (zm_sw G a b) (zm_sw P a b)) (zm_amiles N (zm_sw G a b) (zm_sw P a b) X Y))), (0, .ref m0), (1, .int (nI 1)), (2, .float ly), (3, .int bay), (4, .int bby), (5, .int (nI (N - 1))), (6, .int (nI (N - 1))), (7, .int (nI a))]) hx hb dX8_isStepped_121 hl (k := 9) rfl (nI_add _ _) (by decide) rfl (fun ls hl => ?_)
                  refine lv_goto (tgt := 73) hx hb dX8_isStepped_124 (by decide) ?_
                  have hl : lv_has ls 10 [(0, .ref m0), (1, .int (nI 1)), (2, .float ly), (3, .int bay), (4, .int bby), (5, .int (nI (N - 1))), (6, .int (nI (N - 1))), (7, .int (nI a)), (8, .int (nI (b + 1)))] := lv_sub hl [2, 3, 4, 5, 6, 7, 8, 9, 0] rfl
                  exact ih73 (b + 1) ly bay bby wvn_24 H locs ls (by omega) (by first | exact (hI.trans (zb_in_s hbL)).trans (congrArg (zb_in ((fun a b => zm_cost R B X Y N (zm_opG 0 G a b) (zm_opP 0 P a b)) a) a ((N - 1) - (b + 1)) (b + 1)) (zb_one_t (s := (ly, bay, bby)) hbr)) | exact (hI.trans (zb_in_s hbL)).trans (congrArg (zb_in ((fun a b => zm_cost R B X Y N (zm_opG 0 G a b) (zm_opP 0 P a b)) a) a ((N - 1) - (b + 1)) (b + 1)) (zb_one_f (s := (ly, bay, bby)) hbr))) (by first | exact hV2 | exact Or.inr ⟨a, b, rfl, rfl, haL, hbL⟩) (⟨zv_g_eq hz2.1 (zm_sw_sw _ _ _) (zm_sw_sw _ _ _), zv_off_t hgb.2 (zv_off_t hz1.2 hz2.2)⟩) (by omega) hP hD hS hl
                · skip
                  have hbr := cn_25
                  refine lv_fload hx hb dX8_isStepped_111 (lv_at hl 0 rfl) ?_
                  refine lv_fstore_n (lv' := [(2, .float (zf_cost R (zm_brs N (zm_sw P a b)) (zm_vio N (zm_sw G a b) B) (zm_car N (zm_sw G a b) (zm_sw P a b)) (zm_amiles N (zm_sw G a b) (zm_sw P a b) X Y))), (9, .float (zf_cost R (zm_brs N (zm_sw P a b)) (zm_vio N (zm_sw G a b) B) (zm_car N (zm_sw G a b) (zm_sw P a b)) (zm_amiles N (zm_sw G a b) (zm_sw P a b) X Y))), (0, .ref m0), (1, .int (nI 1)), (3, .int bay), (4, .int bby), (5, .int (nI (N - 1))), (6, .int (nI (N - 1))), (7, .int (nI a)), (8, .int (nI b))]) hx hb dX8_isStepped_113 rfl hl (by decide) rfl (fun ls hl => ?_)
                  refine lv_iload hx hb dX8_isStepped_114 (lv_at hl 8 rfl) ?_
                  refine lv_istore_n (lv' := [(3, .int (nI a)), (2, .float (zf_cost R (zm_brs N (zm_sw P a b)) (zm_vio N (zm_sw G a b) B) (zm_car N (zm_sw G a b) (zm_sw P a b)) (zm_amiles N (zm_sw G a b) (zm_sw P a b) X Y))), (9, .float (zf_cost R (zm_brs N (zm_sw P a b)) (zm_vio N (zm_sw G a b) B) (zm_car N (zm_sw G a b) (zm_sw P a b)) (zm_amiles N (zm_sw G a b) (zm_sw P a b) X Y))), (0, .ref m0), (1, .int (nI 1)), (4, .int bby), (5, .int (nI (N - 1))), (6, .int (nI (N - 1))), (7, .int (nI a)), (8, .int (nI b))]) hx hb dX8_isStepped_116 rfl hl (by decide) rfl (fun ls hl => ?_)
                  refine lv_iload hx hb dX8_isStepped_117 (lv_at hl 9 rfl) ?_
                  refine lv_istore (lv' := [(4, .int (nI b)), (3, .int (nI a)), (2, .float (zf_cost R (zm_brs N (zm_sw P a b)) (zm_vio N (zm_sw G a b) B) (zm_car N (zm_sw G a b) (zm_sw P a b)) (zm_amiles N (zm_sw G a b) (zm_sw P a b) X Y))), (9, .float (zf_cost R (zm_brs N (zm_sw P a b)) (zm_vio N (zm_sw G a b) B) (zm_car N (zm_sw G a b) (zm_sw P a b)) (zm_amiles N (zm_sw G a b) (zm_sw P a b) X Y))), (0, .ref m0), (1, .int (nI 1)), (5, .int (nI (N - 1))), (6, .int (nI (N - 1))), (7, .int (nI a)), (8, .int (nI b))]) hx hb dX8_isStepped_119 hl (by decide) rfl (fun ls hl => ?_)
                  refine lv_iinc (v := nI (b + 1)) (lv' := [(8, .int (nI (b + 1))), (4, .int (nI b)), (3, .int (nI a)), (2, .float (zf_cost R (zm_brs N (zm_sw P a b)) (zm_vio N (zm_sw G a b) B) (zm_car N (zm_sw G a b) (zm_sw P a b)) (zm_amiles N (zm_sw G a b) (zm_sw P a b) X Y))), (9, .float (zf_cost R (zm_brs N (zm_sw P a b)) (zm_vio N (zm_sw G a b) B) (zm_car N (zm_sw G a b) (zm_sw P a b)) (zm_amiles N (zm_sw G a b) (zm_sw P a b) X Y))), (0, .ref m0), (1, .int (nI 1)), (5, .int (nI (N - 1))), (6, .int (nI (N - 1))), (7, .int (nI a))]) hx hb dX8_isStepped_121 hl (k := 9) rfl (nI_add _ _) (by decide) rfl (fun ls hl => ?_)
                  refine lv_goto (tgt := 73) hx hb dX8_isStepped_124 (by decide) ?_
                  have hl : lv_has ls 10 [(0, .ref m0), (1, .int (nI 1)), (2, .float (zf_cost R (zm_brs N (zm_sw P a b)) (zm_vio N (zm_sw G a b) B) (zm_car N (zm_sw G a b) (zm_sw P a b)) (zm_amiles N (zm_sw G a b) (zm_sw P a b) X Y))), (3, .int (nI a)), (4, .int (nI b)), (5, .int (nI (N - 1))), (6, .int (nI (N - 1))), (7, .int (nI a)), (8, .int (nI (b + 1)))] := lv_sub hl [5, 6, 3, 2, 1, 7, 8, 9, 0] rfl
                  exact ih73 (b + 1) (zf_cost R (zm_brs N (zm_sw P a b)) (zm_vio N (zm_sw G a b) B) (zm_car N (zm_sw G a b) (zm_sw P a b)) (zm_amiles N (zm_sw G a b) (zm_sw P a b) X Y)) (nI a) (nI b) wvn_24 H locs ls (by omega) (by first | exact (hI.trans (zb_in_s hbL)).trans (congrArg (zb_in ((fun a b => zm_cost R B X Y N (zm_opG 0 G a b) (zm_opP 0 P a b)) a) a ((N - 1) - (b + 1)) (b + 1)) (zb_one_t (s := (ly, bay, bby)) hbr)) | exact (hI.trans (zb_in_s hbL)).trans (congrArg (zb_in ((fun a b => zm_cost R B X Y N (zm_opG 0 G a b) (zm_opP 0 P a b)) a) a ((N - 1) - (b + 1)) (b + 1)) (zb_one_f (s := (ly, bay, bby)) hbr))) (by first | exact hV2 | exact Or.inr ⟨a, b, rfl, rfl, haL, hbL⟩) (⟨zv_g_eq hz2.1 (zm_sw_sw _ _ _) (zm_sw_sw _ _ _), zv_off_t hgb.2 (zv_off_t hz1.2 hz2.2)⟩) (by omega) hP hD hS hl
          · skip
            exact absurd cn_13 (by decide)
    · skip
      exact absurd cn_6 (by decide)
  · skip
    exact absurd cn_3 (by decide)

set_option maxHeartbeats 4000000 in
set_option maxRecDepth 100000 in
theorem c_X8_isStepped_2 (l : Launch) (D : va_G) (E : Nat → ClassId) (m0 : Nat) (w0 : Nat) (w1 : Nat) (w2 : Nat) (w3 : Nat) (w4 : Nat) (w5 : Nat) (w6 : Nat) (w7 : Nat) (w8 : Nat) (w9 : Nat) (ik : Int32) (tx : Nat) (he : Int32) (fa : Int32) (cl : Nat) (wv : Nat → Int32) (N : Nat) (G : Nat → Nat → Nat) (P : Nat → Nat → Nat) (X : Nat → Nat) (Y : Nat → Nat) (B : Nat → Nat → Nat) (R : Nat → Nat) (hvg : zv_g N G P wv) (hxy : zv_xy X Y wv) (hvb : zv_b B wv) (hvr : zv_r R wv) : Met l yX8_isStepped wsX8_isStepped ({ frames := 7, cells := 0, slots := 0, locals := 156 }) (zw_P D E [.ref m0, .int (nI 2)] [(m0, .inr (6, [.ref w0, .ref w1, .ref w2, .int ik, .ref w3, .int (nI tx), .int he, .int fa, .ref w4, .ref w5, .int (nI cl), .ref w6, .ref w7, .ref w8, .ref w9])), (w0, .inl (E 0, 137, .inl wv))]) (zw_Qi D [(m0, .inr (6, [.ref w0, .ref w1, .ref w2, .int ik, .ref w3, .int (nI tx), .int he, .int fa, .ref w4, .ref w5, .int (nI cl), .ref w6, .ref w7, .ref w8, .ref w9])), (w0, .inl (E 0, 137, .inl wv))] (fun zv (u : (Nat → Int32)) => zm_stepR 2 R B X Y N G P zv (fun G P => zv_g N G P u ∧ zv_off wv u)) (fun (u : (Nat → Int32)) => [(m0, .inr (6, [.ref w0, .ref w1, .ref w2, .int ik, .ref w3, .int (nI tx), .int he, .int fa, .ref w4, .ref w5, .int (nI cl), .ref w6, .ref w7, .ref w8, .ref w9])), (w0, .inl (E 0, 137, .inl u))])) 0 0 (zw_A [(m0, .inr (6, [.ref w0, .ref w1, .ref w2, .int ik, .ref w3, .int (nI tx), .int he, .int fa, .ref w4, .ref w5, .int (nI cl), .ref w6, .ref w7, .ref w8, .ref w9])), (w0, .inl (E 0, 137, .inl wv))]) := by
  refine Met.ofW (cc := cX8_isStepped) (maxL := 10) (ret := (some .boolean)) (by decide) rfl ?_
  intro p e s m args below meth c s₁ Bz hml hv
  obtain ⟨rfl, hP, hK, hD0⟩ := hv
  have hx := Bz.exec
  have hb := Bz.bytes
  have hr := Bz.returns
  have hts := atoms_spec (ws := wsX8_isStepped) Bz.pre
  have hown : s.vm.findClass RX8 = some m.cls := findClass_of_methodNamed Bz.named
  have hlocks := Bz.notSynchronized
  have hP : va_P D vwCl [(m0, .inr (6, [.ref w0, .ref w1, .ref w2, .int ik, .ref w3, .int (nI tx), .int he, .int fa, .ref w4, .ref w5, .int (nI cl), .ref w6, .ref w7, .ref w8, .ref w9])), (w0, .inl (E 0, 137, .inl wv))] s.heap := hP
  obtain ⟨A, hAe⟩ : ∃ A : Nat → Prop, A = zw_A [(m0, .inr (6, [.ref w0, .ref w1, .ref w2, .int ik, .ref w3, .int (nI tx), .int he, .int fa, .ref w4, .ref w5, .int (nI cl), .ref w6, .ref w7, .ref w8, .ref w9])), (w0, .inl (E 0, 137, .inl wv))] := ⟨_, rfl⟩
  have hD : va_D A [(m0, .inr (6, [.ref w0, .ref w1, .ref w2, .int ik, .ref w3, .int (nI tx), .int he, .int fa, .ref w4, .ref w5, .int (nI cl), .ref w6, .ref w7, .ref w8, .ref w9])), (w0, .inl (E 0, 137, .inl wv))] := hAe ▸ zw_own hD0
  have hS : va_S A s.heap s.heap [] := va_S.rf
  have hl := lv_entry ([.ref m0, .int (nI 2)]) (n := 10) (Nat.le_of_ble_eq_true rfl)
  rw [lg_entry_eq]
  generalize (lg_sl ([.ref m0, .int (nI 2)]) ++ List.replicate (10 - (lg_sl ([.ref m0, .int (nI 2)])).length) Slot.unset).toArray = ls at hl ⊢
  have hl : lv_has ls 10 [(0, .ref m0), (1, .int (nI 2))] := hl
  refine zr_nQ (fun Q hQ => ?_)
  have hok := hvg.1
  have hN := hok.1
  have hvn := hvg.2.1
  have hgr := zm_gr_of hxy
  refine lv_aload_n hx hb dX8_isStepped_0 rfl (lv_at hl 0 rfl) ?_
  refine zr_cf hP hS (va_runV (As := []) (rest := []) ⟨hx, hb, hml, hown, hts⟩ (c_X8_costs l D E m0 w0 w1 w2 w3 w4 w5 w6 w7 w8 w9 ik tx he fa cl wv N G P X Y B R (hvg) (hxy) (hvb) (hvr)) (cwV 0 hts gX8_isStepped_X8_costs rfl rfl rfl (by decide +kernel) ⟨Nat.le_of_ble_eq_true rfl, Nat.le_of_ble_eq_true rfl⟩) (zr_V hK (hP.sub (ws' := [(m0, .inr (6, [.ref w0, .ref w1, .ref w2, .int ik, .ref w3, .int (nI tx), .int he, .int fa, .ref w4, .ref w5, .int (nI cl), .ref w6, .ref w7, .ref w8, .ref w9])), (w0, .inl (E 0, 137, .inl wv))]) [0, 1] rfl) (ci := 6) (q0 := 0) rfl rfl) rfl rfl hl.1 rfl (lv_room (Nat.le_of_ble_eq_true rfl)) dX8_isStepped_1 ⟨Nat.zero_le _, Nat.zero_le _⟩) (fun r_1 H locs hw_2 hP hS => ?_)
  subst hw_2
  refine lv_fstore_n (lv' := [(2, .float (zf_cost R (zm_brs N P) (zm_vio N G B) (zm_car N G P) (zm_amiles N G P X Y))), (0, .ref m0), (1, .int (nI 2))]) hx hb dX8_isStepped_4 rfl hl (by decide) rfl (fun ls hl => ?_)
  refine lv_iconst (v := (-1)) hx hb dX8_isStepped_5 (by rfl) ?_
  refine lv_istore_n (lv' := [(3, .int (-1)), (2, .float (zf_cost R (zm_brs N P) (zm_vio N G B) (zm_car N G P) (zm_amiles N G P X Y))), (0, .ref m0), (1, .int (nI 2))]) hx hb dX8_isStepped_6 rfl hl (by decide) rfl (fun ls hl => ?_)
  refine lv_iconst (v := (-1)) hx hb dX8_isStepped_7 (by rfl) ?_
  refine lv_istore (lv' := [(4, .int (-1)), (3, .int (-1)), (2, .float (zf_cost R (zm_brs N P) (zm_vio N G B) (zm_car N G P) (zm_amiles N G P X Y))), (0, .ref m0), (1, .int (nI 2))]) hx hb dX8_isStepped_8 hl (by decide) rfl (fun ls hl => ?_)
  refine lv_iload_n hx hb dX8_isStepped_10 rfl (lv_at hl 4 rfl) ?_
  refine lv_iconst (v := nI 2) hx hb dX8_isStepped_11 (by rfl) ?_
  refine lv_icmp_ne (tgt := 24) hx hb dX8_isStepped_12 (by decide) (fun cn_3 => ?_) (fun cn_3 => ?_)
  · skip
    exact absurd cn_3 (by decide)
  · skip
    refine lv_aload_n hx hb dX8_isStepped_15 rfl (lv_at hl 3 rfl) ?_
    refine va_get (D := D) (ci := 6) (v := .ref w0) (C := RX8) (T := TX8) (N := 15) hx hb hts (by decide +kernel) hown hK.1 hP 0 rfl rfl 0 (by decide) (hts (.fieldLink RX8 11 "HomeRoundsModel" "w" "[I") (by decide +kernel)) (fun _ h9 => h9) rfl dX8_isStepped_16 ?_
    refine lv_iconst (v := nI 0) hx hb dX8_isStepped_19 (by rfl) ?_
    refine va_iald hx hb hK.1 hP 1 0 rfl rfl (vp_in_nI (by omega) (by omega)) dX8_isStepped_20 ?_
    refine zr_ti (y := nI N) ((congrArg wv (nI_clamp (by omega))).trans (hvn)) ?_
    refine lv_goto (tgt := 28) hx hb dX8_isStepped_21 (by decide) ?_
    refine lv_istore (lv' := [(5, .int (nI N)), (4, .int (-1)), (3, .int (-1)), (2, .float (zf_cost R (zm_brs N P) (zm_vio N G B) (zm_car N G P) (zm_amiles N G P X Y))), (0, .ref m0), (1, .int (nI 2))]) hx hb dX8_isStepped_28 hl (by decide) rfl (fun ls hl => ?_)
    refine lv_iload_n hx hb dX8_isStepped_30 rfl (lv_at hl 5 rfl) ?_
    refine lv_if_ne (tgt := 45) hx hb dX8_isStepped_31 (by decide) (fun cn_4 => ?_) (fun cn_4 => ?_)
    · skip
      refine lv_iload hx hb dX8_isStepped_45 (lv_at hl 0 rfl) ?_
      refine lv_istore (lv' := [(6, .int (nI N)), (5, .int (nI N)), (4, .int (-1)), (3, .int (-1)), (2, .float (zf_cost R (zm_brs N P) (zm_vio N G B) (zm_car N G P) (zm_amiles N G P X Y))), (0, .ref m0), (1, .int (nI 2))]) hx hb dX8_isStepped_47 hl (by decide) rfl (fun ls hl => ?_)
      refine lv_iconst (v := nI 0) hx hb dX8_isStepped_49 (by rfl) ?_
      refine lv_istore (lv' := [(7, .int (nI 0)), (6, .int (nI N)), (5, .int (nI N)), (4, .int (-1)), (3, .int (-1)), (2, .float (zf_cost R (zm_brs N P) (zm_vio N G B) (zm_car N G P) (zm_amiles N G P X Y))), (0, .ref m0), (1, .int (nI 2))]) hx hb dX8_isStepped_50 hl (by decide) rfl (fun ls hl => ?_)
      suffices KL52 : ∀ (kz : Nat) (a : Nat) (lz : UInt32) (ba : Int32) (bb : Int32) (wva : Nat → Int32) (H : Heap) (locs : List Loc) (ls : Array Slot), (N - a) < kz → (zm_best 2 R B X Y N G P = zb_out (fun a b => zm_cost R B X Y N (zm_opG 2 G a b) (zm_opP 2 P a b)) (zm_first 2) (fun _ => zm_last 2 N) (N - a) a (lz, ba, bb)) → (zm_val 2 N ba bb) → (zv_g N G P wva ∧ zv_off wv wva) → (a ≤ N) → va_P D vwCl [(m0, .inr (6, [.ref w0, .ref w1, .ref w2, .int ik, .ref w3, .int (nI tx), .int he, .int fa, .ref w4, .ref w5, .int (nI cl), .ref w6, .ref w7, .ref w8, .ref w9])), (w0, .inl (E 0, 137, .inl wva))] H → va_D A [(m0, .inr (6, [.ref w0, .ref w1, .ref w2, .int ik, .ref w3, .int (nI tx), .int he, .int fa, .ref w4, .ref w5, .int (nI cl), .ref w6, .ref w7, .ref w8, .ref w9])), (w0, .inl (E 0, 137, .inl wva))] → va_S A s.heap H locs → lv_has ls 10 [(0, .ref m0), (1, .int (nI 2)), (2, .float lz), (3, .int ba), (4, .int bb), (5, .int (nI N)), (6, .int (nI N)), (7, .int (nI a))] → W p l e (headSpec wsX8_isStepped ({ frames := 7, cells := 0, slots := 0, locals := 156 })).room s m ([.ref m0, .int (nI 2)] : List Value).toArray below meth c H locs 0 0 Q (F0 m 52 ls []) from
        KL52 _ 0 (zf_cost R (zm_brs N P) (zm_vio N G B) (zm_car N G P) (zm_amiles N G P X Y)) (-1) (-1) wv _ _ ls (Nat.lt_succ_self _) (rfl) (Or.inl rfl) (⟨hvg, zv_off_r⟩) (by omega) hP hD hS (lv_sub hl [6, 7, 5, 4, 3, 2, 1, 0] rfl)
      clear hP hS hl hD
      intro kz
      induction kz with
      | zero => intro a lz ba bb wva H locs ls hkz; exact absurd hkz (Nat.not_lt_zero _)
      | succ kz ih52 =>
        intro a lz ba bb wva H locs ls hkz hO hV hga haE hP hD hS hl
        refine lv_iload hx hb dX8_isStepped_52 (lv_at hl 7 rfl) ?_
        refine lv_iload hx hb dX8_isStepped_54 (lv_at hl 5 rfl) ?_
        refine lv_icmp_ge (tgt := 133) hx hb dX8_isStepped_56 (by decide) (fun cn_5 => ?_) (fun cn_5 => ?_)
        · skip
          have cn_5 : N ≤ a := (nI_leI (a := N) (b := a) (by omega) (by omega)).mp cn_5
          have haE2 : N ≤ a := by omega
          have hbest := hO.trans (zb_out_e haE2)
          refine lv_iload_n hx hb dX8_isStepped_133 rfl (lv_at hl 3 rfl) ?_
          refine lv_if_ge (tgt := 139) hx hb dX8_isStepped_134 (by decide) (fun cn_6 => ?_) (fun cn_6 => ?_)
          · skip
            have hsome := cn_6
            have hne : ba ≠ -1 := fun e => absurd (e ▸ hsome) (by decide)
            obtain ⟨a9, b9, rfl, rfl, ha9, hb9⟩ := Or.resolve_left hV hne
            have ha9 : a9 < N := ha9
            have hb9 : b9 < N := hb9
            refine lv_aload_n hx hb dX8_isStepped_139 rfl (lv_at hl 0 rfl) ?_
            refine lv_iload_n hx hb dX8_isStepped_140 rfl (lv_at hl 1 rfl) ?_
            refine lv_iload_n hx hb dX8_isStepped_141 rfl (lv_at hl 3 rfl) ?_
            refine lv_iload hx hb dX8_isStepped_142 (lv_at hl 4 rfl) ?_
            have hPc := hP.sub (ws' := [(m0, .inr (6, [.ref w0, .ref w1, .ref w2, .int ik, .ref w3, .int (nI tx), .int he, .int fa, .ref w4, .ref w5, .int (nI cl), .ref w6, .ref w7, .ref w8, .ref w9])), (w0, .inl (E 0, 137, .inl wva))]) [0, 1] rfl
            have hDc := hD.sub (ws' := [(m0, .inr (6, [.ref w0, .ref w1, .ref w2, .int ik, .ref w3, .int (nI tx), .int he, .int fa, .ref w4, .ref w5, .int (nI cl), .ref w6, .ref w7, .ref w8, .ref w9])), (w0, .inl (E 0, 137, .inl wva))]) [0, 1] (by decide +kernel) rfl
            have hAc := zw_AA (wc := [(m0, .inr (6, [.ref w0, .ref w1, .ref w2, .int ik, .ref w3, .int (nI tx), .int he, .int fa, .ref w4, .ref w5, .int (nI cl), .ref w6, .ref w7, .ref w8, .ref w9])), (w0, .inl (E 0, 137, .inl wva))]) hD [0, 1] rfl
            refine zw_cv hAc hS (va_runV (As := [.int (nI 2), .int (nI a9), .int (nI b9)]) (rest := []) ⟨hx, hb, hml, hown, hts⟩ (c_X8_does_2 l D E m0 w0 w1 w2 w3 w4 w5 w6 w7 w8 w9 ik tx he fa cl wva N G P a9 b9 (hga.1) (ha9) (hb9)) (cwV 3 hts gX8_isStepped_X8_does rfl rfl rfl (by decide +kernel) ⟨Nat.le_of_ble_eq_true rfl, Nat.le_of_ble_eq_true rfl⟩) (zw_V hK hPc hDc (ci := 6) (q0 := 0) rfl rfl) rfl rfl hl.1 rfl (lv_room (Nat.le_of_ble_eq_true rfl)) dX8_isStepped_144 ⟨Nat.zero_le _, Nat.zero_le _⟩) (fun u_9 H locs hw_8 hP1 hD1 hk1 hS => ?_)
            obtain ⟨wvn_10, rfl⟩ : ∃ z, z = u_9 := ⟨_, rfl⟩
            try dsimp only at hw_8 hP1 hD1
            obtain ⟨hP, hD⟩ := zw_join (wr := []) (w1 := [(m0, .inr (6, [.ref w0, .ref w1, .ref w2, .int ik, .ref w3, .int (nI tx), .int he, .int fa, .ref w4, .ref w5, .int (nI cl), .ref w6, .ref w7, .ref w8, .ref w9])), (w0, .inl (E 0, 137, .inl wvn_10))]) (ws' := [(m0, .inr (6, [.ref w0, .ref w1, .ref w2, .int ik, .ref w3, .int (nI tx), .int he, .int fa, .ref w4, .ref w5, .int (nI cl), .ref w6, .ref w7, .ref w8, .ref w9])), (w0, .inl (E 0, 137, .inl wvn_10))]) hP hD [0, 1] [] [0, 1] rfl rfl (by decide +kernel) (by decide +kernel) hAc hk1 hP1 hD1 (by decide +kernel) rfl
            clear hP1 hD1 hk1 hPc hDc hAc
            have hze := hw_8
            refine lv_iconst (v := nI 1) hx hb dX8_isStepped_147 (by rfl) ?_
            subst hQ; subst hAe
            exact W.zret (v := nI 1) hx hb hr (by decide) (fun tz htz hWz => ⟨⟨nI 1, wvn_10, rfl, Or.inr ⟨a9, b9, zm_step_s (by omega) (by omega) hbest, rfl, hze.1, zv_off_t hga.2 hze.2⟩, by rw [htz]; exact hP, hD⟩, hS.F htz⟩) hS.2.2 dX8_isStepped_148
          · skip
            have hnone : ba = -1 := hV.elim id (fun ⟨a8, b8, e8, _, h8, _⟩ => absurd (e8 ▸ nI_pos' (by have h8 : a8 < N := h8; omega)) cn_6)
            refine lv_iconst (v := nI 0) hx hb dX8_isStepped_137 (by rfl) ?_
            subst hQ; subst hAe
            exact W.zret (v := nI 0) hx hb hr (by decide) (fun tz htz hWz => ⟨⟨nI 0, wva, rfl, Or.inl ⟨zm_step_n (by rw [hbest, hnone]), rfl, hga⟩, by rw [htz]; exact hP, hD⟩, hS.F htz⟩) hS.2.2 dX8_isStepped_138
        · skip
          have cn_5 : ¬ (N ≤ a) := fun hz => cn_5 ((nI_leI (a := N) (b := a) (by omega) (by omega)).mpr hz)
          have haL : a < N := by omega
          refine lv_iload_n hx hb dX8_isStepped_59 rfl (lv_at hl 1 rfl) ?_
          refine lv_if_ne (tgt := 67) hx hb dX8_isStepped_60 (by decide) (fun cn_11 => ?_) (fun cn_11 => ?_)
          · skip
            refine lv_iload hx hb dX8_isStepped_67 (lv_at hl 7 rfl) ?_
            refine lv_iconst (v := nI 1) hx hb dX8_isStepped_69 (by rfl) ?_
            refine lv_iadd hx hb dX8_isStepped_70 ?_
            refine zr_ti (y := nI (a + 1)) (nI_add _ _) ?_
            refine lv_istore (lv' := [(8, .int (nI (a + 1))), (0, .ref m0), (1, .int (nI 2)), (2, .float lz), (3, .int ba), (4, .int bb), (5, .int (nI N)), (6, .int (nI N)), (7, .int (nI a))]) hx hb dX8_isStepped_71 hl (by decide) rfl (fun ls hl => ?_)
            suffices KL73 : ∀ (kz : Nat) (b : Nat) (ly : UInt32) (bay : Int32) (bby : Int32) (wvb : Nat → Int32) (H : Heap) (locs : List Loc) (ls : Array Slot), (10 - b) < kz → (zb_in ((fun a b => zm_cost R B X Y N (zm_opG 2 G a b) (zm_opP 2 P a b)) a) a ((fun _ => zm_last 2 N) a - zm_first 2 a) (zm_first 2 a) (lz, ba, bb) = zb_in ((fun a b => zm_cost R B X Y N (zm_opG 2 G a b) (zm_opP 2 P a b)) a) a (N - b) b (ly, bay, bby)) → (zm_val 2 N bay bby) → (zv_g N G P wvb ∧ zv_off wv wvb) → (b ≤ 6) → va_P D vwCl [(m0, .inr (6, [.ref w0, .ref w1, .ref w2, .int ik, .ref w3, .int (nI tx), .int he, .int fa, .ref w4, .ref w5, .int (nI cl), .ref w6, .ref w7, .ref w8, .ref w9])), (w0, .inl (E 0, 137, .inl wvb))] H → va_D A [(m0, .inr (6, [.ref w0, .ref w1, .ref w2, .int ik, .ref w3, .int (nI tx), .int he, .int fa, .ref w4, .ref w5, .int (nI cl), .ref w6, .ref w7, .ref w8, .ref w9])), (w0, .inl (E 0, 137, .inl wvb))] → va_S A s.heap H locs → lv_has ls 10 [(0, .ref m0), (1, .int (nI 2)), (2, .float ly), (3, .int bay), (4, .int bby), (5, .int (nI N)), (6, .int (nI N)), (7, .int (nI a)), (8, .int (nI b))] → W p l e (headSpec wsX8_isStepped ({ frames := 7, cells := 0, slots := 0, locals := 156 })).room s m ([.ref m0, .int (nI 2)] : List Value).toArray below meth c H locs 0 0 Q (F0 m 73 ls []) from
              KL73 _ (a + 1) lz ba bb wva _ _ ls (Nat.lt_succ_self _) (rfl) (hV) (hga) (by omega) hP hD hS (lv_sub hl [1, 2, 3, 4, 5, 6, 7, 8, 0] rfl)
            clear hP hS hl hD
            intro kz
            induction kz with
            | zero => intro b ly bay bby wvb H locs ls hkz; exact absurd hkz (Nat.not_lt_zero _)
            | succ kz ih73 =>
              intro b ly bay bby wvb H locs ls hkz hI hV2 hgb hb6 hP hD hS hl
              refine lv_iload hx hb dX8_isStepped_73 (lv_at hl 8 rfl) ?_
              refine lv_iload hx hb dX8_isStepped_75 (lv_at hl 6 rfl) ?_
              refine lv_icmp_ge (tgt := 127) hx hb dX8_isStepped_77 (by decide) (fun cn_12 => ?_) (fun cn_12 => ?_)
              · skip
                have cn_12 : N ≤ b := (nI_leI (a := N) (b := b) (by omega) (by omega)).mp cn_12
                have hbE : N ≤ b := by omega
                refine lv_iinc (v := nI (a + 1)) (lv' := [(7, .int (nI (a + 1))), (0, .ref m0), (1, .int (nI 2)), (2, .float ly), (3, .int bay), (4, .int bby), (5, .int (nI N)), (6, .int (nI N)), (8, .int (nI b))]) hx hb dX8_isStepped_127 hl (k := 7) rfl (nI_add _ _) (by decide) rfl (fun ls hl => ?_)
                refine lv_goto (tgt := 52) hx hb dX8_isStepped_130 (by decide) ?_
                have hl : lv_has ls 10 [(0, .ref m0), (1, .int (nI 2)), (2, .float ly), (3, .int bay), (4, .int bby), (5, .int (nI N)), (6, .int (nI N)), (7, .int (nI (a + 1)))] := lv_sub hl [1, 2, 3, 4, 5, 6, 7, 0] rfl
                exact ih52 (a + 1) ly bay bby wvb H locs ls (by omega) (by rw [hO, zb_out_s haL]; exact congrArg (fun s => zb_out (fun a b => zm_cost R B X Y N (zm_opG 2 G a b) (zm_opP 2 P a b)) (zm_first 2) (fun _ => zm_last 2 N) (N - (a + 1)) (a + 1) s) (hI.trans (zb_in_e hbE))) (hV2) (hgb) (by omega) hP hD hS hl
              · skip
                have cn_12 : ¬ (N ≤ b) := fun hz => cn_12 ((nI_leI (a := N) (b := b) (by omega) (by omega)).mpr hz)
                have hbL : b < N := by omega
                refine lv_aload_n hx hb dX8_isStepped_80 rfl (lv_at hl 0 rfl) ?_
                refine lv_iload_n hx hb dX8_isStepped_81 rfl (lv_at hl 1 rfl) ?_
                refine lv_iload hx hb dX8_isStepped_82 (lv_at hl 7 rfl) ?_
                refine lv_iload hx hb dX8_isStepped_84 (lv_at hl 8 rfl) ?_
                have hPc := hP.sub (ws' := [(m0, .inr (6, [.ref w0, .ref w1, .ref w2, .int ik, .ref w3, .int (nI tx), .int he, .int fa, .ref w4, .ref w5, .int (nI cl), .ref w6, .ref w7, .ref w8, .ref w9])), (w0, .inl (E 0, 137, .inl wvb))]) [0, 1] rfl
                have hDc := hD.sub (ws' := [(m0, .inr (6, [.ref w0, .ref w1, .ref w2, .int ik, .ref w3, .int (nI tx), .int he, .int fa, .ref w4, .ref w5, .int (nI cl), .ref w6, .ref w7, .ref w8, .ref w9])), (w0, .inl (E 0, 137, .inl wvb))]) [0, 1] (by decide +kernel) rfl
                have hAc := zw_AA (wc := [(m0, .inr (6, [.ref w0, .ref w1, .ref w2, .int ik, .ref w3, .int (nI tx), .int he, .int fa, .ref w4, .ref w5, .int (nI cl), .ref w6, .ref w7, .ref w8, .ref w9])), (w0, .inl (E 0, 137, .inl wvb))]) hD [0, 1] rfl
                refine zw_cv hAc hS (va_runV (As := [.int (nI 2), .int (nI a), .int (nI b)]) (rest := []) ⟨hx, hb, hml, hown, hts⟩ (c_X8_does_2 l D E m0 w0 w1 w2 w3 w4 w5 w6 w7 w8 w9 ik tx he fa cl wvb N G P a b (hgb.1) (haL) (hbL)) (cwV 3 hts gX8_isStepped_X8_does rfl rfl rfl (by decide +kernel) ⟨Nat.le_of_ble_eq_true rfl, Nat.le_of_ble_eq_true rfl⟩) (zw_V hK hPc hDc (ci := 6) (q0 := 0) rfl rfl) rfl rfl hl.1 rfl (lv_room (Nat.le_of_ble_eq_true rfl)) dX8_isStepped_86 ⟨Nat.zero_le _, Nat.zero_le _⟩) (fun u_15 H locs hw_14 hP1 hD1 hk1 hS => ?_)
                obtain ⟨wvn_16, rfl⟩ : ∃ z, z = u_15 := ⟨_, rfl⟩
                try dsimp only at hw_14 hP1 hD1
                obtain ⟨hP, hD⟩ := zw_join (wr := []) (w1 := [(m0, .inr (6, [.ref w0, .ref w1, .ref w2, .int ik, .ref w3, .int (nI tx), .int he, .int fa, .ref w4, .ref w5, .int (nI cl), .ref w6, .ref w7, .ref w8, .ref w9])), (w0, .inl (E 0, 137, .inl wvn_16))]) (ws' := [(m0, .inr (6, [.ref w0, .ref w1, .ref w2, .int ik, .ref w3, .int (nI tx), .int he, .int fa, .ref w4, .ref w5, .int (nI cl), .ref w6, .ref w7, .ref w8, .ref w9])), (w0, .inl (E 0, 137, .inl wvn_16))]) hP hD [0, 1] [] [0, 1] rfl rfl (by decide +kernel) (by decide +kernel) hAc hk1 hP1 hD1 (by decide +kernel) rfl
                clear hP1 hD1 hk1 hPc hDc hAc
                have hz1 := hw_14
                have hoz := zv_off_t hgb.2 hz1.2
                refine lv_aload_n hx hb dX8_isStepped_89 rfl (lv_at hl 0 rfl) ?_
                refine zr_cf hP hS (va_runV (As := []) (rest := []) ⟨hx, hb, hml, hown, hts⟩ (c_X8_costs l D E m0 w0 w1 w2 w3 w4 w5 w6 w7 w8 w9 ik tx he fa cl wvn_16 N (zm_exG G a b) (zm_exP P a b) X Y B R (hz1.1) (zv_xy_off hxy hoz) (zv_b_off hvb hoz) (zv_r_off hvr hoz)) (cwV 0 hts gX8_isStepped_X8_costs rfl rfl rfl (by decide +kernel) ⟨Nat.le_of_ble_eq_true rfl, Nat.le_of_ble_eq_true rfl⟩) (zr_V hK (hP.sub (ws' := [(m0, .inr (6, [.ref w0, .ref w1, .ref w2, .int ik, .ref w3, .int (nI tx), .int he, .int fa, .ref w4, .ref w5, .int (nI cl), .ref w6, .ref w7, .ref w8, .ref w9])), (w0, .inl (E 0, 137, .inl wvn_16))]) [0, 1] rfl) (ci := 6) (q0 := 0) rfl rfl) rfl rfl hl.1 rfl (lv_room (Nat.le_of_ble_eq_true rfl)) dX8_isStepped_90 ⟨Nat.zero_le _, Nat.zero_le _⟩) (fun r_17 H locs hw_18 hP hS => ?_)
                subst hw_18
                refine lv_fstore (lv' := [(9, .float (zf_cost R (zm_brs N (zm_exP P a b)) (zm_vio N (zm_exG G a b) B) (zm_car N (zm_exG G a b) (zm_exP P a b)) (zm_amiles N (zm_exG G a b) (zm_exP P a b) X Y))), (0, .ref m0), (1, .int (nI 2)), (2, .float ly), (3, .int bay), (4, .int bby), (5, .int (nI N)), (6, .int (nI N)), (7, .int (nI a)), (8, .int (nI b))]) hx hb dX8_isStepped_93 hl (by decide) rfl (fun ls hl => ?_)
                refine lv_aload_n hx hb dX8_isStepped_95 rfl (lv_at hl 1 rfl) ?_
                refine lv_iload_n hx hb dX8_isStepped_96 rfl (lv_at hl 2 rfl) ?_
                refine lv_iload hx hb dX8_isStepped_97 (lv_at hl 8 rfl) ?_
                refine lv_iload hx hb dX8_isStepped_99 (lv_at hl 9 rfl) ?_
                have hPc := hP.sub (ws' := [(m0, .inr (6, [.ref w0, .ref w1, .ref w2, .int ik, .ref w3, .int (nI tx), .int he, .int fa, .ref w4, .ref w5, .int (nI cl), .ref w6, .ref w7, .ref w8, .ref w9])), (w0, .inl (E 0, 137, .inl wvn_16))]) [0, 1] rfl
                have hDc := hD.sub (ws' := [(m0, .inr (6, [.ref w0, .ref w1, .ref w2, .int ik, .ref w3, .int (nI tx), .int he, .int fa, .ref w4, .ref w5, .int (nI cl), .ref w6, .ref w7, .ref w8, .ref w9])), (w0, .inl (E 0, 137, .inl wvn_16))]) [0, 1] (by decide +kernel) rfl
                have hAc := zw_AA (wc := [(m0, .inr (6, [.ref w0, .ref w1, .ref w2, .int ik, .ref w3, .int (nI tx), .int he, .int fa, .ref w4, .ref w5, .int (nI cl), .ref w6, .ref w7, .ref w8, .ref w9])), (w0, .inl (E 0, 137, .inl wvn_16))]) hD [0, 1] rfl
                refine zw_cv hAc hS (va_runV (As := [.int (nI 2), .int (nI a), .int (nI b)]) (rest := []) ⟨hx, hb, hml, hown, hts⟩ (c_X8_does_2 l D E m0 w0 w1 w2 w3 w4 w5 w6 w7 w8 w9 ik tx he fa cl wvn_16 N (zm_exG G a b) (zm_exP P a b) a b (hz1.1) (haL) (hbL)) (cwV 3 hts gX8_isStepped_X8_does rfl rfl rfl (by decide +kernel) ⟨Nat.le_of_ble_eq_true rfl, Nat.le_of_ble_eq_true rfl⟩) (zw_V hK hPc hDc (ci := 6) (q0 := 0) rfl rfl) rfl rfl hl.1 rfl (lv_room (Nat.le_of_ble_eq_true rfl)) dX8_isStepped_101 ⟨Nat.zero_le _, Nat.zero_le _⟩) (fun u_21 H locs hw_20 hP1 hD1 hk1 hS => ?_)
                obtain ⟨wvn_22, rfl⟩ : ∃ z, z = u_21 := ⟨_, rfl⟩
                try dsimp only at hw_20 hP1 hD1
                obtain ⟨hP, hD⟩ := zw_join (wr := []) (w1 := [(m0, .inr (6, [.ref w0, .ref w1, .ref w2, .int ik, .ref w3, .int (nI tx), .int he, .int fa, .ref w4, .ref w5, .int (nI cl), .ref w6, .ref w7, .ref w8, .ref w9])), (w0, .inl (E 0, 137, .inl wvn_22))]) (ws' := [(m0, .inr (6, [.ref w0, .ref w1, .ref w2, .int ik, .ref w3, .int (nI tx), .int he, .int fa, .ref w4, .ref w5, .int (nI cl), .ref w6, .ref w7, .ref w8, .ref w9])), (w0, .inl (E 0, 137, .inl wvn_22))]) hP hD [0, 1] [] [0, 1] rfl rfl (by decide +kernel) (by decide +kernel) hAc hk1 hP1 hD1 (by decide +kernel) rfl
                clear hP1 hD1 hk1 hPc hDc hAc
                have hz2 := hw_20
                refine lv_fload hx hb dX8_isStepped_104 (lv_at hl 0 rfl) ?_
                refine lv_fload_n hx hb dX8_isStepped_106 rfl (lv_at hl 3 rfl) ?_
                refine lv_fcmp hx hb dX8_isStepped_107 ?_
                refine lv_if_ge (tgt := 121) hx hb dX8_isStepped_108 (by decide) (fun cn_23 => ?_) (fun cn_23 => ?_)
                · skip
                  have hbr := cn_23
                  refine lv_iinc (v := nI (b + 1)) (lv' := [(8, .int (nI (b + 1))), (9, .float (zf_cost R (zm_brs N (zm_exP P a b)) (zm_vio N (zm_exG G a b) B) (zm_car N (zm_exG G a b) (zm_exP P a b)) (zm_amiles N (zm_exG G a b) (zm_exP P a b) X Y))), (0, .ref m0), (1, .int (nI 2)), (2, .float ly), (3, .int bay), (4, .int bby), (5, .int (nI N)), (6, .int (nI N)), (7, .int (nI a))]) hx hb dX8_isStepped_121 hl (k := 9) rfl (nI_add _ _) (by decide) rfl (fun ls hl => ?_)
                  refine lv_goto (tgt := 73) hx hb dX8_isStepped_124 (by decide) ?_
                  have hl : lv_has ls 10 [(0, .ref m0), (1, .int (nI 2)), (2, .float ly), (3, .int bay), (4, .int bby), (5, .int (nI N)), (6, .int (nI N)), (7, .int (nI a)), (8, .int (nI (b + 1)))] := lv_sub hl [2, 3, 4, 5, 6, 7, 8, 9, 0] rfl
                  exact ih73 (b + 1) ly bay bby wvn_22 H locs ls (by omega) (by first | exact (hI.trans (zb_in_s hbL)).trans (congrArg (zb_in ((fun a b => zm_cost R B X Y N (zm_opG 2 G a b) (zm_opP 2 P a b)) a) a (N - (b + 1)) (b + 1)) (zb_one_t (s := (ly, bay, bby)) hbr)) | exact (hI.trans (zb_in_s hbL)).trans (congrArg (zb_in ((fun a b => zm_cost R B X Y N (zm_opG 2 G a b) (zm_opP 2 P a b)) a) a (N - (b + 1)) (b + 1)) (zb_one_f (s := (ly, bay, bby)) hbr))) (by first | exact hV2 | exact Or.inr ⟨a, b, rfl, rfl, haL, hbL⟩) (⟨zv_g_eq hz2.1 (zm_ex_exG _ _ _) (zm_ex_exP _ _ _), zv_off_t hgb.2 (zv_off_t hz1.2 hz2.2)⟩) (by omega) hP hD hS hl
                · skip
                  have hbr := cn_23
                  refine lv_fload hx hb dX8_isStepped_111 (lv_at hl 0 rfl) ?_
                  refine lv_fstore_n (lv' := [(2, .float (zf_cost R (zm_brs N (zm_exP P a b)) (zm_vio N (zm_exG G a b) B) (zm_car N (zm_exG G a b) (zm_exP P a b)) (zm_amiles N (zm_exG G a b) (zm_exP P a b) X Y))), (9, .float (zf_cost R (zm_brs N (zm_exP P a b)) (zm_vio N (zm_exG G a b) B) (zm_car N (zm_exG G a b) (zm_exP P a b)) (zm_amiles N (zm_exG G a b) (zm_exP P a b) X Y))), (0, .ref m0), (1, .int (nI 2)), (3, .int bay), (4, .int bby), (5, .int (nI N)), (6, .int (nI N)), (7, .int (nI a)), (8, .int (nI b))]) hx hb dX8_isStepped_113 rfl hl (by decide) rfl (fun ls hl => ?_)
                  refine lv_iload hx hb dX8_isStepped_114 (lv_at hl 8 rfl) ?_
                  refine lv_istore_n (lv' := [(3, .int (nI a)), (2, .float (zf_cost R (zm_brs N (zm_exP P a b)) (zm_vio N (zm_exG G a b) B) (zm_car N (zm_exG G a b) (zm_exP P a b)) (zm_amiles N (zm_exG G a b) (zm_exP P a b) X Y))), (9, .float (zf_cost R (zm_brs N (zm_exP P a b)) (zm_vio N (zm_exG G a b) B) (zm_car N (zm_exG G a b) (zm_exP P a b)) (zm_amiles N (zm_exG G a b) (zm_exP P a b) X Y))), (0, .ref m0), (1, .int (nI 2)), (4, .int bby), (5, .int (nI N)), (6, .int (nI N)), (7, .int (nI a)), (8, .int (nI b))]) hx hb dX8_isStepped_116 rfl hl (by decide) rfl (fun ls hl => ?_)
                  refine lv_iload hx hb dX8_isStepped_117 (lv_at hl 9 rfl) ?_
                  refine lv_istore (lv' := [(4, .int (nI b)), (3, .int (nI a)), (2, .float (zf_cost R (zm_brs N (zm_exP P a b)) (zm_vio N (zm_exG G a b) B) (zm_car N (zm_exG G a b) (zm_exP P a b)) (zm_amiles N (zm_exG G a b) (zm_exP P a b) X Y))), (9, .float (zf_cost R (zm_brs N (zm_exP P a b)) (zm_vio N (zm_exG G a b) B) (zm_car N (zm_exG G a b) (zm_exP P a b)) (zm_amiles N (zm_exG G a b) (zm_exP P a b) X Y))), (0, .ref m0), (1, .int (nI 2)), (5, .int (nI N)), (6, .int (nI N)), (7, .int (nI a)), (8, .int (nI b))]) hx hb dX8_isStepped_119 hl (by decide) rfl (fun ls hl => ?_)
                  refine lv_iinc (v := nI (b + 1)) (lv' := [(8, .int (nI (b + 1))), (4, .int (nI b)), (3, .int (nI a)), (2, .float (zf_cost R (zm_brs N (zm_exP P a b)) (zm_vio N (zm_exG G a b) B) (zm_car N (zm_exG G a b) (zm_exP P a b)) (zm_amiles N (zm_exG G a b) (zm_exP P a b) X Y))), (9, .float (zf_cost R (zm_brs N (zm_exP P a b)) (zm_vio N (zm_exG G a b) B) (zm_car N (zm_exG G a b) (zm_exP P a b)) (zm_amiles N (zm_exG G a b) (zm_exP P a b) X Y))), (0, .ref m0), (1, .int (nI 2)), (5, .int (nI N)), (6, .int (nI N)), (7, .int (nI a))]) hx hb dX8_isStepped_121 hl (k := 9) rfl (nI_add _ _) (by decide) rfl (fun ls hl => ?_)
                  refine lv_goto (tgt := 73) hx hb dX8_isStepped_124 (by decide) ?_
                  have hl : lv_has ls 10 [(0, .ref m0), (1, .int (nI 2)), (2, .float (zf_cost R (zm_brs N (zm_exP P a b)) (zm_vio N (zm_exG G a b) B) (zm_car N (zm_exG G a b) (zm_exP P a b)) (zm_amiles N (zm_exG G a b) (zm_exP P a b) X Y))), (3, .int (nI a)), (4, .int (nI b)), (5, .int (nI N)), (6, .int (nI N)), (7, .int (nI a)), (8, .int (nI (b + 1)))] := lv_sub hl [5, 6, 3, 2, 1, 7, 8, 9, 0] rfl
                  exact ih73 (b + 1) (zf_cost R (zm_brs N (zm_exP P a b)) (zm_vio N (zm_exG G a b) B) (zm_car N (zm_exG G a b) (zm_exP P a b)) (zm_amiles N (zm_exG G a b) (zm_exP P a b) X Y)) (nI a) (nI b) wvn_22 H locs ls (by omega) (by first | exact (hI.trans (zb_in_s hbL)).trans (congrArg (zb_in ((fun a b => zm_cost R B X Y N (zm_opG 2 G a b) (zm_opP 2 P a b)) a) a (N - (b + 1)) (b + 1)) (zb_one_t (s := (ly, bay, bby)) hbr)) | exact (hI.trans (zb_in_s hbL)).trans (congrArg (zb_in ((fun a b => zm_cost R B X Y N (zm_opG 2 G a b) (zm_opP 2 P a b)) a) a (N - (b + 1)) (b + 1)) (zb_one_f (s := (ly, bay, bby)) hbr))) (by first | exact hV2 | exact Or.inr ⟨a, b, rfl, rfl, haL, hbL⟩) (⟨zv_g_eq hz2.1 (zm_ex_exG _ _ _) (zm_ex_exP _ _ _), zv_off_t hgb.2 (zv_off_t hz1.2 hz2.2)⟩) (by omega) hP hD hS hl
          · skip
            exact absurd cn_11 (by decide)
    · skip
      exact absurd cn_4 (by decide)

