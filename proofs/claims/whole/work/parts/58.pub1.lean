set_option maxHeartbeats 4000000 in
set_option maxRecDepth 100000 in
theorem c_X7_teams (l : Launch) (D : va_G) (E : Nat → ClassId) (x0 : Nat) (xk : Nat) (xt : Nat) (xx : Nat) (xp : Nat) (ik : Int32) (g0 : Nat) (g1 : Nat) (g2 : Nat) (g3 : Nat) (g4 : Nat) (g5 : Nat) (g6 : Nat) (g7 : Nat) (kd : Nat) (h0 : Nat) (h1 : Nat) (h2 : Nat) (h3 : Nat) (h4 : Nat) (h5 : Nat) (h6 : Nat) (N : Nat) (hm : Nat → Int32) (aw : Nat → Int32) (rv : Nat → Int32) (sd : Nat → Int32) (gm : Nat → Int32) (ca : Nat → Int32) (G : Nat → Nat → Nat) (P : Nat → Nat → Nat) (bz : Nat → Int32) (B : Nat → Nat → Nat) (s5 : Nat) (sn : Nat) (c5 : Nat → Int32) (sT : Nat → Nat) (sR : Nat → Nat) (sH : Nat → Nat) (s6 : Nat) (en : Nat) (c6 : Nat → Int32) (eW : Nat → Nat) (eN : Nat → Nat) (s7 : Nat) (bn : Nat) (c7 : Nat → Int32) (bT : Nat → Nat) (bN : Nat → Nat) (v : Int32) (hpl : zm_pl N G P hm aw rv sd gm) (hbz : zm_bz B bz) (hse : zs_se N sn sT sR sH) (hsc : zm_sc sn sT sR sH c5) (hev : zs_ev N en eW eN) (hec : zm_ec en eW eN c6) (hbo : zs_bo N bn bT bN) (hbc : zm_bc bn bT bN c7) : Met l yX7_teams wsX7_teams ({ frames := 4, cells := 0, slots := 0, locals := 96 }) (zw_P D E [.ref x0, .int v] [(x0, .inr (5, [.ref g0, .ref xk, .ref xt, .ref xx, .ref xp, .int ik])), (g0, .inr (2, [.ref h0, .ref g1, .ref g2, .ref g3, .ref g4, .int (nI kd), .ref g5, .ref g6, .ref g7])), (h0, .inr (0, [.int (nI N), .ref h1, .ref h2, .ref h3, .ref h4, .ref h5, .ref h6])), (h1, .inl (E 0, 15, .inl hm)), (h2, .inl (E 0, 15, .inl aw)), (h3, .inl (E 0, 30, .inl rv)), (h4, .inl (E 0, 30, .inl sd)), (h5, .inl (E 0, 30, .inl gm)), (h6, .inl (E 0, 36, .inl ca)), (g3, .inl (E 1, 30, .inl bz)), (g5, .inr (1, [.int (nI 6), .ref s5, .int (nI sn)])), (s5, .inl (E 0, 48, .inl c5)), (g6, .inr (1, [.int (nI 8), .ref s6, .int (nI en)])), (s6, .inl (E 0, 48, .inl c6)), (g7, .inr (1, [.int (nI 8), .ref s7, .int (nI bn)])), (s7, .inl (E 0, 48, .inl c7))]) (zw_Qi D [(x0, .inr (5, [.ref g0, .ref xk, .ref xt, .ref xx, .ref xp, .int ik])), (g0, .inr (2, [.ref h0, .ref g1, .ref g2, .ref g3, .ref g4, .int (nI kd), .ref g5, .ref g6, .ref g7])), (h0, .inr (0, [.int (nI N), .ref h1, .ref h2, .ref h3, .ref h4, .ref h5, .ref h6])), (h1, .inl (E 0, 15, .inl hm)), (h2, .inl (E 0, 15, .inl aw)), (h3, .inl (E 0, 30, .inl rv)), (h4, .inl (E 0, 30, .inl sd)), (h5, .inl (E 0, 30, .inl gm)), (h6, .inl (E 0, 36, .inl ca)), (g3, .inl (E 1, 30, .inl bz)), (g5, .inr (1, [.int (nI 6), .ref s5, .int (nI sn)])), (s5, .inl (E 0, 48, .inl c5)), (g6, .inr (1, [.int (nI 8), .ref s6, .int (nI en)])), (s6, .inl (E 0, 48, .inl c6)), (g7, .inr (1, [.int (nI 8), .ref s7, .int (nI bn)])), (s7, .inl (E 0, 48, .inl c7))] (fun zv (u : (Nat) × (Nat) × (Nat) × (Nat) × (Nat → Int32) × (Nat → Int32) × (Nat → Int32) × (Nat → Int32) × (Nat → Int32) × (Nat → Int32)) => zv = cond (z46 v) (nI N) (-2) ∧ u.1 = cond (z46 v) (zq v) N ∧ u.2.1 = cond (z46 v) 0 sn ∧ u.2.2.1 = cond (z46 v) 0 en ∧ u.2.2.2.1 = cond (z46 v) 0 bn ∧ zm_pl u.1 (cond (z46 v) (zm_ciG (zq v)) G) (cond (z46 v) (zm_ciP (zq v)) P) u.2.2.2.2.2.1 u.2.2.2.2.2.2.1 u.2.2.2.2.2.2.2.1 u.2.2.2.2.2.2.2.2.1 u.2.2.2.2.2.2.2.2.2 ∧ zm_bz (cond (z46 v) (fun _ _ => 0) B) u.2.2.2.2.1) (fun (u : (Nat) × (Nat) × (Nat) × (Nat) × (Nat → Int32) × (Nat → Int32) × (Nat → Int32) × (Nat → Int32) × (Nat → Int32) × (Nat → Int32)) => [(x0, .inr (5, [.ref g0, .ref xk, .ref xt, .ref xx, .ref xp, .int ik])), (g0, .inr (2, [.ref h0, .ref g1, .ref g2, .ref g3, .ref g4, .int (nI kd), .ref g5, .ref g6, .ref g7])), (h0, .inr (0, [.int (nI u.1), .ref h1, .ref h2, .ref h3, .ref h4, .ref h5, .ref h6])), (h1, .inl (E 0, 15, .inl u.2.2.2.2.2.1)), (h2, .inl (E 0, 15, .inl u.2.2.2.2.2.2.1)), (h3, .inl (E 0, 30, .inl u.2.2.2.2.2.2.2.1)), (h4, .inl (E 0, 30, .inl u.2.2.2.2.2.2.2.2.1)), (h5, .inl (E 0, 30, .inl u.2.2.2.2.2.2.2.2.2)), (h6, .inl (E 0, 36, .inl ca)), (g3, .inl (E 1, 30, .inl u.2.2.2.2.1)), (g5, .inr (1, [.int (nI 6), .ref s5, .int (nI u.2.1)])), (s5, .inl (E 0, 48, .inl c5)), (g6, .inr (1, [.int (nI 8), .ref s6, .int (nI u.2.2.1)])), (s6, .inl (E 0, 48, .inl c6)), (g7, .inr (1, [.int (nI 8), .ref s7, .int (nI u.2.2.2.1)])), (s7, .inl (E 0, 48, .inl c7))])) 0 0 (zw_A [(x0, .inr (5, [.ref g0, .ref xk, .ref xt, .ref xx, .ref xp, .int ik])), (g0, .inr (2, [.ref h0, .ref g1, .ref g2, .ref g3, .ref g4, .int (nI kd), .ref g5, .ref g6, .ref g7])), (h0, .inr (0, [.int (nI N), .ref h1, .ref h2, .ref h3, .ref h4, .ref h5, .ref h6])), (h1, .inl (E 0, 15, .inl hm)), (h2, .inl (E 0, 15, .inl aw)), (h3, .inl (E 0, 30, .inl rv)), (h4, .inl (E 0, 30, .inl sd)), (h5, .inl (E 0, 30, .inl gm)), (h6, .inl (E 0, 36, .inl ca)), (g3, .inl (E 1, 30, .inl bz)), (g5, .inr (1, [.int (nI 6), .ref s5, .int (nI sn)])), (s5, .inl (E 0, 48, .inl c5)), (g6, .inr (1, [.int (nI 8), .ref s6, .int (nI en)])), (s6, .inl (E 0, 48, .inl c6)), (g7, .inr (1, [.int (nI 8), .ref s7, .int (nI bn)])), (s7, .inl (E 0, 48, .inl c7))]) := by
  refine Met.ofW (cc := cX7_teams) (maxL := 3) (ret := (some .int)) (by decide) rfl ?_
  intro p e s m args below meth c s₁ Bz hml hv
  obtain ⟨rfl, hP, hK, hD0⟩ := hv
  have hx := Bz.exec
  have hb := Bz.bytes
  have hr := Bz.returns
  have hts := atoms_spec (ws := wsX7_teams) Bz.pre
  have hown : s.vm.findClass RX7 = some m.cls := findClass_of_methodNamed Bz.named
  have hlocks := Bz.notSynchronized
  have hP : va_P D vwCl [(x0, .inr (5, [.ref g0, .ref xk, .ref xt, .ref xx, .ref xp, .int ik])), (g0, .inr (2, [.ref h0, .ref g1, .ref g2, .ref g3, .ref g4, .int (nI kd), .ref g5, .ref g6, .ref g7])), (h0, .inr (0, [.int (nI N), .ref h1, .ref h2, .ref h3, .ref h4, .ref h5, .ref h6])), (h1, .inl (E 0, 15, .inl hm)), (h2, .inl (E 0, 15, .inl aw)), (h3, .inl (E 0, 30, .inl rv)), (h4, .inl (E 0, 30, .inl sd)), (h5, .inl (E 0, 30, .inl gm)), (h6, .inl (E 0, 36, .inl ca)), (g3, .inl (E 1, 30, .inl bz)), (g5, .inr (1, [.int (nI 6), .ref s5, .int (nI sn)])), (s5, .inl (E 0, 48, .inl c5)), (g6, .inr (1, [.int (nI 8), .ref s6, .int (nI en)])), (s6, .inl (E 0, 48, .inl c6)), (g7, .inr (1, [.int (nI 8), .ref s7, .int (nI bn)])), (s7, .inl (E 0, 48, .inl c7))] s.heap := hP
  obtain ⟨A, hAe⟩ : ∃ A : Nat → Prop, A = zw_A [(x0, .inr (5, [.ref g0, .ref xk, .ref xt, .ref xx, .ref xp, .int ik])), (g0, .inr (2, [.ref h0, .ref g1, .ref g2, .ref g3, .ref g4, .int (nI kd), .ref g5, .ref g6, .ref g7])), (h0, .inr (0, [.int (nI N), .ref h1, .ref h2, .ref h3, .ref h4, .ref h5, .ref h6])), (h1, .inl (E 0, 15, .inl hm)), (h2, .inl (E 0, 15, .inl aw)), (h3, .inl (E 0, 30, .inl rv)), (h4, .inl (E 0, 30, .inl sd)), (h5, .inl (E 0, 30, .inl gm)), (h6, .inl (E 0, 36, .inl ca)), (g3, .inl (E 1, 30, .inl bz)), (g5, .inr (1, [.int (nI 6), .ref s5, .int (nI sn)])), (s5, .inl (E 0, 48, .inl c5)), (g6, .inr (1, [.int (nI 8), .ref s6, .int (nI en)])), (s6, .inl (E 0, 48, .inl c6)), (g7, .inr (1, [.int (nI 8), .ref s7, .int (nI bn)])), (s7, .inl (E 0, 48, .inl c7))] := ⟨_, rfl⟩
  have hD : va_D A [(x0, .inr (5, [.ref g0, .ref xk, .ref xt, .ref xx, .ref xp, .int ik])), (g0, .inr (2, [.ref h0, .ref g1, .ref g2, .ref g3, .ref g4, .int (nI kd), .ref g5, .ref g6, .ref g7])), (h0, .inr (0, [.int (nI N), .ref h1, .ref h2, .ref h3, .ref h4, .ref h5, .ref h6])), (h1, .inl (E 0, 15, .inl hm)), (h2, .inl (E 0, 15, .inl aw)), (h3, .inl (E 0, 30, .inl rv)), (h4, .inl (E 0, 30, .inl sd)), (h5, .inl (E 0, 30, .inl gm)), (h6, .inl (E 0, 36, .inl ca)), (g3, .inl (E 1, 30, .inl bz)), (g5, .inr (1, [.int (nI 6), .ref s5, .int (nI sn)])), (s5, .inl (E 0, 48, .inl c5)), (g6, .inr (1, [.int (nI 8), .ref s6, .int (nI en)])), (s6, .inl (E 0, 48, .inl c6)), (g7, .inr (1, [.int (nI 8), .ref s7, .int (nI bn)])), (s7, .inl (E 0, 48, .inl c7))] := hAe ▸ zw_own hD0
  have hS : va_S A s.heap s.heap [] := va_S.rf
  have hl := lv_entry ([.ref x0, .int v]) (n := 3) (Nat.le_of_ble_eq_true rfl)
  rw [lg_entry_eq]
  generalize (lg_sl ([.ref x0, .int v]) ++ List.replicate (3 - (lg_sl ([.ref x0, .int v])).length) Slot.unset).toArray = ls at hl ⊢
  have hl : lv_has ls 3 [(0, .ref x0), (1, .int v)] := hl
  refine zr_nQ (fun Q hQ => ?_)
  have hN := hpl.1.1
  refine lv_iload_n hx hb dX7_teams_0 rfl (lv_at hl 1 rfl) ?_
  refine lv_iconst (v := nI 4) hx hb dX7_teams_1 (by rfl) ?_
  refine lv_icmp_eq (tgt := 14) hx hb dX7_teams_2 (by decide) (fun cn_1 => ?_) (fun cn_1 => ?_)
  · skip
    have e1 : z46 v = true := by rw [cn_1]; exact z46_4
    have q1 : zq v = 4 := by rw [cn_1]; exact zq_t (by omega)
    rw [cn_1] at hl
    refine lv_aload_n hx hb dX7_teams_14 rfl (lv_at hl 0 rfl) ?_
    refine va_get (D := D) (ci := 5) (v := .ref g0) (C := RX7) (T := TX7) (N := 6) hx hb hts (by decide +kernel) hown hK.1 hP 0 rfl rfl 0 (by decide) (hts (.fieldLink RX7 12 "HomeRounds" "now" "LHomeRounds$Setting;") (by decide +kernel)) (fun _ h9 => h9) rfl dX7_teams_15 ?_
    refine va_get (D := D) (ci := 2) (v := .ref h0) (C := RX3) (T := TX3) (N := 9) hx hb hts (by decide +kernel) hown hK.1 hP 1 rfl rfl 0 (by decide) (hts (.fieldLink RX7 38 "HomeRounds$Setting" "plan" "LHomeRounds$Plan;") (by decide +kernel)) (fun _ h9 => h9) rfl dX7_teams_18 ?_
    refine va_get (D := D) (ci := 0) (v := .int (nI N)) (C := RX1) (T := TX1) (N := 7) hx hb hts (by decide +kernel) hown hK.1 hP 2 rfl rfl 0 (by decide) (hts (.fieldLink RX7 42 "HomeRounds$Plan" "n" "I") (by decide +kernel)) (fun _ h9 => h9) rfl dX7_teams_21 ?_
    refine lv_istore_n (lv' := [(2, .int (nI N)), (0, .ref x0), (1, .int (nI 4))]) hx hb dX7_teams_24 rfl hl (by decide) rfl (fun ls hl => ?_)
    refine lv_aload_n hx hb dX7_teams_25 rfl (lv_at hl 1 rfl) ?_
    refine va_get (D := D) (ci := 5) (v := .ref g0) (C := RX7) (T := TX7) (N := 6) hx hb hts (by decide +kernel) hown hK.1 hP 0 rfl rfl 0 (by decide) (hts (.fieldLink RX7 12 "HomeRounds" "now" "LHomeRounds$Setting;") (by decide +kernel)) (fun _ h9 => h9) rfl dX7_teams_26 ?_
    refine lv_iload_n hx hb dX7_teams_29 rfl (lv_at hl 2 rfl) ?_
    have hPc := hP.sub (ws' := [(g0, .inr (2, [.ref h0, .ref g1, .ref g2, .ref g3, .ref g4, .int (nI kd), .ref g5, .ref g6, .ref g7])), (h0, .inr (0, [.int (nI N), .ref h1, .ref h2, .ref h3, .ref h4, .ref h5, .ref h6])), (h1, .inl (E 0, 15, .inl hm)), (h2, .inl (E 0, 15, .inl aw)), (h3, .inl (E 0, 30, .inl rv)), (h4, .inl (E 0, 30, .inl sd)), (h5, .inl (E 0, 30, .inl gm)), (h6, .inl (E 0, 36, .inl ca)), (g3, .inl (E 1, 30, .inl bz)), (g5, .inr (1, [.int (nI 6), .ref s5, .int (nI sn)])), (s5, .inl (E 0, 48, .inl c5)), (g6, .inr (1, [.int (nI 8), .ref s6, .int (nI en)])), (s6, .inl (E 0, 48, .inl c6)), (g7, .inr (1, [.int (nI 8), .ref s7, .int (nI bn)])), (s7, .inl (E 0, 48, .inl c7))]) [1, 2, 3, 4, 5, 6, 7, 8, 9, 10, 11, 12, 13, 14, 15] rfl
    have hDc := hD.sub (ws' := [(g0, .inr (2, [.ref h0, .ref g1, .ref g2, .ref g3, .ref g4, .int (nI kd), .ref g5, .ref g6, .ref g7])), (h0, .inr (0, [.int (nI N), .ref h1, .ref h2, .ref h3, .ref h4, .ref h5, .ref h6])), (h1, .inl (E 0, 15, .inl hm)), (h2, .inl (E 0, 15, .inl aw)), (h3, .inl (E 0, 30, .inl rv)), (h4, .inl (E 0, 30, .inl sd)), (h5, .inl (E 0, 30, .inl gm)), (h6, .inl (E 0, 36, .inl ca)), (g3, .inl (E 1, 30, .inl bz)), (g5, .inr (1, [.int (nI 6), .ref s5, .int (nI sn)])), (s5, .inl (E 0, 48, .inl c5)), (g6, .inr (1, [.int (nI 8), .ref s6, .int (nI en)])), (s6, .inl (E 0, 48, .inl c6)), (g7, .inr (1, [.int (nI 8), .ref s7, .int (nI bn)])), (s7, .inl (E 0, 48, .inl c7))]) [1, 2, 3, 4, 5, 6, 7, 8, 9, 10, 11, 12, 13, 14, 15] (by decide +kernel) rfl
    have hAc := zw_AA (wc := [(g0, .inr (2, [.ref h0, .ref g1, .ref g2, .ref g3, .ref g4, .int (nI kd), .ref g5, .ref g6, .ref g7])), (h0, .inr (0, [.int (nI N), .ref h1, .ref h2, .ref h3, .ref h4, .ref h5, .ref h6])), (h1, .inl (E 0, 15, .inl hm)), (h2, .inl (E 0, 15, .inl aw)), (h3, .inl (E 0, 30, .inl rv)), (h4, .inl (E 0, 30, .inl sd)), (h5, .inl (E 0, 30, .inl gm)), (h6, .inl (E 0, 36, .inl ca)), (g3, .inl (E 1, 30, .inl bz)), (g5, .inr (1, [.int (nI 6), .ref s5, .int (nI sn)])), (s5, .inl (E 0, 48, .inl c5)), (g6, .inr (1, [.int (nI 8), .ref s6, .int (nI en)])), (s6, .inl (E 0, 48, .inl c6)), (g7, .inr (1, [.int (nI 8), .ref s7, .int (nI bn)])), (s7, .inl (E 0, 48, .inl c7))]) hD [1, 2, 3, 4, 5, 6, 7, 8, 9, 10, 11, 12, 13, 14, 15] rfl
    refine zw_cv hAc hS (va_runV (As := [.int (nI 4)]) (rest := []) ⟨hx, hb, hml, hown, hts⟩ (c_X3_startAnew l D E g0 g1 g2 g3 g4 g5 g6 g7 kd h0 h1 h2 h3 h4 h5 h6 N hm aw rv sd gm ca bz s5 s6 s7 sn en bn c5 c6 c7 4 (by omega)) (cwV 1 hts gX7_teams_X3_startAnew rfl rfl rfl (by decide +kernel) ⟨Nat.le_of_ble_eq_true rfl, Nat.le_of_ble_eq_true rfl⟩) (zw_V hK hPc hDc (ci := 2) (q0 := 0) rfl rfl) rfl rfl hl.1 rfl (lv_room (Nat.le_of_ble_eq_true rfl)) dX7_teams_30 ⟨Nat.zero_le _, Nat.zero_le _⟩) (fun u_4 H locs hw_3 hP1 hD1 hk1 hS => ?_)
    obtain ⟨hm_5, aw_6, rv_7, sd_8, gm_9, bz_10⟩ := u_4
    try dsimp only at hw_3 hP1 hD1
    obtain ⟨hP, hD⟩ := zw_join (wr := [(x0, .inr (5, [.ref g0, .ref xk, .ref xt, .ref xx, .ref xp, .int ik]))]) (w1 := [(g0, .inr (2, [.ref h0, .ref g1, .ref g2, .ref g3, .ref g4, .int (nI kd), .ref g5, .ref g6, .ref g7])), (h0, .inr (0, [.int (nI 4), .ref h1, .ref h2, .ref h3, .ref h4, .ref h5, .ref h6])), (h1, .inl (E 0, 15, .inl hm_5)), (h2, .inl (E 0, 15, .inl aw_6)), (h3, .inl (E 0, 30, .inl rv_7)), (h4, .inl (E 0, 30, .inl sd_8)), (h5, .inl (E 0, 30, .inl gm_9)), (h6, .inl (E 0, 36, .inl ca)), (g3, .inl (E 1, 30, .inl bz_10)), (g5, .inr (1, [.int (nI 6), .ref s5, .int (nI 0)])), (s5, .inl (E 0, 48, .inl c5)), (g6, .inr (1, [.int (nI 8), .ref s6, .int (nI 0)])), (s6, .inl (E 0, 48, .inl c6)), (g7, .inr (1, [.int (nI 8), .ref s7, .int (nI 0)])), (s7, .inl (E 0, 48, .inl c7))]) (ws' := [(x0, .inr (5, [.ref g0, .ref xk, .ref xt, .ref xx, .ref xp, .int ik])), (g0, .inr (2, [.ref h0, .ref g1, .ref g2, .ref g3, .ref g4, .int (nI kd), .ref g5, .ref g6, .ref g7])), (h0, .inr (0, [.int (nI 4), .ref h1, .ref h2, .ref h3, .ref h4, .ref h5, .ref h6])), (h1, .inl (E 0, 15, .inl hm_5)), (h2, .inl (E 0, 15, .inl aw_6)), (h3, .inl (E 0, 30, .inl rv_7)), (h4, .inl (E 0, 30, .inl sd_8)), (h5, .inl (E 0, 30, .inl gm_9)), (h6, .inl (E 0, 36, .inl ca)), (g3, .inl (E 1, 30, .inl bz_10)), (g5, .inr (1, [.int (nI 6), .ref s5, .int (nI 0)])), (s5, .inl (E 0, 48, .inl c5)), (g6, .inr (1, [.int (nI 8), .ref s6, .int (nI 0)])), (s6, .inl (E 0, 48, .inl c6)), (g7, .inr (1, [.int (nI 8), .ref s7, .int (nI 0)])), (s7, .inl (E 0, 48, .inl c7))]) hP hD [1, 2, 3, 4, 5, 6, 7, 8, 9, 10, 11, 12, 13, 14, 15] [0] [0, 1, 2, 3, 4, 5, 6, 7, 8, 9, 10, 11, 12, 13, 14, 15] rfl rfl (by decide +kernel) (by decide +kernel) hAc hk1 hP1 hD1 (by decide +kernel) rfl
    clear hP1 hD1 hk1 hPc hDc hAc
    have hnew := hw_3
    refine lv_iload_n hx hb dX7_teams_33 rfl (lv_at hl 0 rfl) ?_
    subst hQ; subst hAe
    exact W.iret (v := nI N) hx hb hr (fun tz htz hWz => ⟨⟨nI N, (4, 0, 0, 0, bz_10, hm_5, aw_6, rv_7, sd_8, gm_9), rfl, ⟨by simp only [cond_true, cond_false, Bool.and_true, Bool.and_false, Bool.true_and, Bool.false_and, e1], by simp only [cond_true, cond_false, Bool.and_true, Bool.and_false, Bool.true_and, Bool.false_and, e1, q1], by simp only [cond_true, cond_false, Bool.and_true, Bool.and_false, Bool.true_and, Bool.false_and, e1], by simp only [cond_true, cond_false, Bool.and_true, Bool.and_false, Bool.true_and, Bool.false_and, e1], by simp only [cond_true, cond_false, Bool.and_true, Bool.and_false, Bool.true_and, Bool.false_and, e1], by simp only [cond_true, cond_false, Bool.and_true, Bool.and_false, Bool.true_and, Bool.false_and, e1, q1]; exact hnew.1, by simp only [cond_true, cond_false, Bool.and_true, Bool.and_false, Bool.true_and, Bool.false_and, e1]; exact zm_bz_0 hnew.2⟩, by rw [htz]; exact hP, hD⟩, hS.F htz⟩) hS.2.2 dX7_teams_34
  · skip
    have n4 := cn_1
    refine lv_iload_n hx hb dX7_teams_5 rfl (lv_at hl 1 rfl) ?_
    refine lv_bipush (v := nI 6) hx hb dX7_teams_6 (by rfl) ?_
    refine lv_icmp_eq (tgt := 14) hx hb dX7_teams_8 (by decide) (fun cn_11 => ?_) (fun cn_11 => ?_)
    · skip
      have e1 : z46 v = true := by rw [cn_11]; exact z46_6
      have q1 : zq v = 6 := by rw [cn_11]; exact zq_t (by omega)
      rw [cn_11] at hl
      refine lv_aload_n hx hb dX7_teams_14 rfl (lv_at hl 0 rfl) ?_
      refine va_get (D := D) (ci := 5) (v := .ref g0) (C := RX7) (T := TX7) (N := 6) hx hb hts (by decide +kernel) hown hK.1 hP 0 rfl rfl 0 (by decide) (hts (.fieldLink RX7 12 "HomeRounds" "now" "LHomeRounds$Setting;") (by decide +kernel)) (fun _ h9 => h9) rfl dX7_teams_15 ?_
      refine va_get (D := D) (ci := 2) (v := .ref h0) (C := RX3) (T := TX3) (N := 9) hx hb hts (by decide +kernel) hown hK.1 hP 1 rfl rfl 0 (by decide) (hts (.fieldLink RX7 38 "HomeRounds$Setting" "plan" "LHomeRounds$Plan;") (by decide +kernel)) (fun _ h9 => h9) rfl dX7_teams_18 ?_
      refine va_get (D := D) (ci := 0) (v := .int (nI N)) (C := RX1) (T := TX1) (N := 7) hx hb hts (by decide +kernel) hown hK.1 hP 2 rfl rfl 0 (by decide) (hts (.fieldLink RX7 42 "HomeRounds$Plan" "n" "I") (by decide +kernel)) (fun _ h9 => h9) rfl dX7_teams_21 ?_
      refine lv_istore_n (lv' := [(2, .int (nI N)), (0, .ref x0), (1, .int (nI 6))]) hx hb dX7_teams_24 rfl hl (by decide) rfl (fun ls hl => ?_)
      refine lv_aload_n hx hb dX7_teams_25 rfl (lv_at hl 1 rfl) ?_
      refine va_get (D := D) (ci := 5) (v := .ref g0) (C := RX7) (T := TX7) (N := 6) hx hb hts (by decide +kernel) hown hK.1 hP 0 rfl rfl 0 (by decide) (hts (.fieldLink RX7 12 "HomeRounds" "now" "LHomeRounds$Setting;") (by decide +kernel)) (fun _ h9 => h9) rfl dX7_teams_26 ?_
      refine lv_iload_n hx hb dX7_teams_29 rfl (lv_at hl 2 rfl) ?_
      have hPc := hP.sub (ws' := [(g0, .inr (2, [.ref h0, .ref g1, .ref g2, .ref g3, .ref g4, .int (nI kd), .ref g5, .ref g6, .ref g7])), (h0, .inr (0, [.int (nI N), .ref h1, .ref h2, .ref h3, .ref h4, .ref h5, .ref h6])), (h1, .inl (E 0, 15, .inl hm)), (h2, .inl (E 0, 15, .inl aw)), (h3, .inl (E 0, 30, .inl rv)), (h4, .inl (E 0, 30, .inl sd)), (h5, .inl (E 0, 30, .inl gm)), (h6, .inl (E 0, 36, .inl ca)), (g3, .inl (E 1, 30, .inl bz)), (g5, .inr (1, [.int (nI 6), .ref s5, .int (nI sn)])), (s5, .inl (E 0, 48, .inl c5)), (g6, .inr (1, [.int (nI 8), .ref s6, .int (nI en)])), (s6, .inl (E 0, 48, .inl c6)), (g7, .inr (1, [.int (nI 8), .ref s7, .int (nI bn)])), (s7, .inl (E 0, 48, .inl c7))]) [1, 2, 3, 4, 5, 6, 7, 8, 9, 10, 11, 12, 13, 14, 15] rfl
      have hDc := hD.sub (ws' := [(g0, .inr (2, [.ref h0, .ref g1, .ref g2, .ref g3, .ref g4, .int (nI kd), .ref g5, .ref g6, .ref g7])), (h0, .inr (0, [.int (nI N), .ref h1, .ref h2, .ref h3, .ref h4, .ref h5, .ref h6])), (h1, .inl (E 0, 15, .inl hm)), (h2, .inl (E 0, 15, .inl aw)), (h3, .inl (E 0, 30, .inl rv)), (h4, .inl (E 0, 30, .inl sd)), (h5, .inl (E 0, 30, .inl gm)), (h6, .inl (E 0, 36, .inl ca)), (g3, .inl (E 1, 30, .inl bz)), (g5, .inr (1, [.int (nI 6), .ref s5, .int (nI sn)])), (s5, .inl (E 0, 48, .inl c5)), (g6, .inr (1, [.int (nI 8), .ref s6, .int (nI en)])), (s6, .inl (E 0, 48, .inl c6)), (g7, .inr (1, [.int (nI 8), .ref s7, .int (nI bn)])), (s7, .inl (E 0, 48, .inl c7))]) [1, 2, 3, 4, 5, 6, 7, 8, 9, 10, 11, 12, 13, 14, 15] (by decide +kernel) rfl
      have hAc := zw_AA (wc := [(g0, .inr (2, [.ref h0, .ref g1, .ref g2, .ref g3, .ref g4, .int (nI kd), .ref g5, .ref g6, .ref g7])), (h0, .inr (0, [.int (nI N), .ref h1, .ref h2, .ref h3, .ref h4, .ref h5, .ref h6])), (h1, .inl (E 0, 15, .inl hm)), (h2, .inl (E 0, 15, .inl aw)), (h3, .inl (E 0, 30, .inl rv)), (h4, .inl (E 0, 30, .inl sd)), (h5, .inl (E 0, 30, .inl gm)), (h6, .inl (E 0, 36, .inl ca)), (g3, .inl (E 1, 30, .inl bz)), (g5, .inr (1, [.int (nI 6), .ref s5, .int (nI sn)])), (s5, .inl (E 0, 48, .inl c5)), (g6, .inr (1, [.int (nI 8), .ref s6, .int (nI en)])), (s6, .inl (E 0, 48, .inl c6)), (g7, .inr (1, [.int (nI 8), .ref s7, .int (nI bn)])), (s7, .inl (E 0, 48, .inl c7))]) hD [1, 2, 3, 4, 5, 6, 7, 8, 9, 10, 11, 12, 13, 14, 15] rfl
      refine zw_cv hAc hS (va_runV (As := [.int (nI 6)]) (rest := []) ⟨hx, hb, hml, hown, hts⟩ (c_X3_startAnew l D E g0 g1 g2 g3 g4 g5 g6 g7 kd h0 h1 h2 h3 h4 h5 h6 N hm aw rv sd gm ca bz s5 s6 s7 sn en bn c5 c6 c7 6 (by omega)) (cwV 1 hts gX7_teams_X3_startAnew rfl rfl rfl (by decide +kernel) ⟨Nat.le_of_ble_eq_true rfl, Nat.le_of_ble_eq_true rfl⟩) (zw_V hK hPc hDc (ci := 2) (q0 := 0) rfl rfl) rfl rfl hl.1 rfl (lv_room (Nat.le_of_ble_eq_true rfl)) dX7_teams_30 ⟨Nat.zero_le _, Nat.zero_le _⟩) (fun u_14 H locs hw_13 hP1 hD1 hk1 hS => ?_)
      obtain ⟨hm_15, aw_16, rv_17, sd_18, gm_19, bz_20⟩ := u_14
      try dsimp only at hw_13 hP1 hD1
      obtain ⟨hP, hD⟩ := zw_join (wr := [(x0, .inr (5, [.ref g0, .ref xk, .ref xt, .ref xx, .ref xp, .int ik]))]) (w1 := [(g0, .inr (2, [.ref h0, .ref g1, .ref g2, .ref g3, .ref g4, .int (nI kd), .ref g5, .ref g6, .ref g7])), (h0, .inr (0, [.int (nI 6), .ref h1, .ref h2, .ref h3, .ref h4, .ref h5, .ref h6])), (h1, .inl (E 0, 15, .inl hm_15)), (h2, .inl (E 0, 15, .inl aw_16)), (h3, .inl (E 0, 30, .inl rv_17)), (h4, .inl (E 0, 30, .inl sd_18)), (h5, .inl (E 0, 30, .inl gm_19)), (h6, .inl (E 0, 36, .inl ca)), (g3, .inl (E 1, 30, .inl bz_20)), (g5, .inr (1, [.int (nI 6), .ref s5, .int (nI 0)])), (s5, .inl (E 0, 48, .inl c5)), (g6, .inr (1, [.int (nI 8), .ref s6, .int (nI 0)])), (s6, .inl (E 0, 48, .inl c6)), (g7, .inr (1, [.int (nI 8), .ref s7, .int (nI 0)])), (s7, .inl (E 0, 48, .inl c7))]) (ws' := [(x0, .inr (5, [.ref g0, .ref xk, .ref xt, .ref xx, .ref xp, .int ik])), (g0, .inr (2, [.ref h0, .ref g1, .ref g2, .ref g3, .ref g4, .int (nI kd), .ref g5, .ref g6, .ref g7])), (h0, .inr (0, [.int (nI 6), .ref h1, .ref h2, .ref h3, .ref h4, .ref h5, .ref h6])), (h1, .inl (E 0, 15, .inl hm_15)), (h2, .inl (E 0, 15, .inl aw_16)), (h3, .inl (E 0, 30, .inl rv_17)), (h4, .inl (E 0, 30, .inl sd_18)), (h5, .inl (E 0, 30, .inl gm_19)), (h6, .inl (E 0, 36, .inl ca)), (g3, .inl (E 1, 30, .inl bz_20)), (g5, .inr (1, [.int (nI 6), .ref s5, .int (nI 0)])), (s5, .inl (E 0, 48, .inl c5)), (g6, .inr (1, [.int (nI 8), .ref s6, .int (nI 0)])), (s6, .inl (E 0, 48, .inl c6)), (g7, .inr (1, [.int (nI 8), .ref s7, .int (nI 0)])), (s7, .inl (E 0, 48, .inl c7))]) hP hD [1, 2, 3, 4, 5, 6, 7, 8, 9, 10, 11, 12, 13, 14, 15] [0] [0, 1, 2, 3, 4, 5, 6, 7, 8, 9, 10, 11, 12, 13, 14, 15] rfl rfl (by decide +kernel) (by decide +kernel) hAc hk1 hP1 hD1 (by decide +kernel) rfl
      clear hP1 hD1 hk1 hPc hDc hAc
      have hnew := hw_13
      refine lv_iload_n hx hb dX7_teams_33 rfl (lv_at hl 0 rfl) ?_
      subst hQ; subst hAe
      exact W.iret (v := nI N) hx hb hr (fun tz htz hWz => ⟨⟨nI N, (6, 0, 0, 0, bz_20, hm_15, aw_16, rv_17, sd_18, gm_19), rfl, ⟨by simp only [cond_true, cond_false, Bool.and_true, Bool.and_false, Bool.true_and, Bool.false_and, e1], by simp only [cond_true, cond_false, Bool.and_true, Bool.and_false, Bool.true_and, Bool.false_and, e1, q1], by simp only [cond_true, cond_false, Bool.and_true, Bool.and_false, Bool.true_and, Bool.false_and, e1], by simp only [cond_true, cond_false, Bool.and_true, Bool.and_false, Bool.true_and, Bool.false_and, e1], by simp only [cond_true, cond_false, Bool.and_true, Bool.and_false, Bool.true_and, Bool.false_and, e1], by simp only [cond_true, cond_false, Bool.and_true, Bool.and_false, Bool.true_and, Bool.false_and, e1, q1]; exact hnew.1, by simp only [cond_true, cond_false, Bool.and_true, Bool.and_false, Bool.true_and, Bool.false_and, e1]; exact zm_bz_0 hnew.2⟩, by rw [htz]; exact hP, hD⟩, hS.F htz⟩) hS.2.2 dX7_teams_34
    · skip
      have e1 := z46_f n4 cn_11
      refine lv_bipush (v := (-2)) hx hb dX7_teams_11 (by rfl) ?_
      subst hQ; subst hAe
      exact W.iret (v := (-2)) hx hb hr (fun tz htz hWz => ⟨⟨(-2), (N, sn, en, bn, bz, hm, aw, rv, sd, gm), rfl, ⟨by simp only [cond_true, cond_false, Bool.and_true, Bool.and_false, Bool.true_and, Bool.false_and, e1], by simp only [cond_true, cond_false, Bool.and_true, Bool.and_false, Bool.true_and, Bool.false_and, e1], by simp only [cond_true, cond_false, Bool.and_true, Bool.and_false, Bool.true_and, Bool.false_and, e1], by simp only [cond_true, cond_false, Bool.and_true, Bool.and_false, Bool.true_and, Bool.false_and, e1], by simp only [cond_true, cond_false, Bool.and_true, Bool.and_false, Bool.true_and, Bool.false_and, e1], by simp only [cond_true, cond_false, Bool.and_true, Bool.and_false, Bool.true_and, Bool.false_and, e1]; exact hpl, by simp only [cond_true, cond_false, Bool.and_true, Bool.and_false, Bool.true_and, Bool.false_and, e1]; exact hbz⟩, by rw [htz]; exact hP, hD⟩, hS.F htz⟩) hS.2.2 dX7_teams_13

set_option maxHeartbeats 4000000 in
set_option maxRecDepth 100000 in
theorem c_X7_ground (l : Launch) (D : va_G) (E : Nat → ClassId) (x0 : Nat) (xk : Nat) (xt : Nat) (xx : Nat) (xp : Nat) (ik : Int32) (g0 : Nat) (g1 : Nat) (g2 : Nat) (g3 : Nat) (g4 : Nat) (g5 : Nat) (g6 : Nat) (g7 : Nat) (kd : Nat) (h0 : Nat) (h1 : Nat) (h2 : Nat) (h3 : Nat) (h4 : Nat) (h5 : Nat) (h6 : Nat) (N : Nat) (hm : Nat → Int32) (aw : Nat → Int32) (rv : Nat → Int32) (sd : Nat → Int32) (gm : Nat → Int32) (ca : Nat → Int32) (G : Nat → Nat → Nat) (P : Nat → Nat → Nat) (xs : Nat → Int32) (ys : Nat → Int32) (X : Nat → Nat) (Y : Nat → Nat) (v : Int32) (w : Int32) (y : Int32) (hpl : zm_pl N G P hm aw rv sd gm) (hgr : zm_gr X Y xs ys) : Met l yX7_ground wsX7_ground ({ frames := 1, cells := 0, slots := 0, locals := 21 }) (zw_P D E [.ref x0, .int v, .int w, .int y] [(x0, .inr (5, [.ref g0, .ref xk, .ref xt, .ref xx, .ref xp, .int ik])), (g0, .inr (2, [.ref h0, .ref g1, .ref g2, .ref g3, .ref g4, .int (nI kd), .ref g5, .ref g6, .ref g7])), (h0, .inr (0, [.int (nI N), .ref h1, .ref h2, .ref h3, .ref h4, .ref h5, .ref h6])), (h1, .inl (E 0, 15, .inl hm)), (h2, .inl (E 0, 15, .inl aw)), (h3, .inl (E 0, 30, .inl rv)), (h4, .inl (E 0, 30, .inl sd)), (h5, .inl (E 0, 30, .inl gm)), (h6, .inl (E 0, 36, .inl ca)), (g1, .inl (E 0, 6, .inl xs)), (g2, .inl (E 0, 6, .inl ys))]) (zw_Qi D [(x0, .inr (5, [.ref g0, .ref xk, .ref xt, .ref xx, .ref xp, .int ik])), (g0, .inr (2, [.ref h0, .ref g1, .ref g2, .ref g3, .ref g4, .int (nI kd), .ref g5, .ref g6, .ref g7])), (h0, .inr (0, [.int (nI N), .ref h1, .ref h2, .ref h3, .ref h4, .ref h5, .ref h6])), (h1, .inl (E 0, 15, .inl hm)), (h2, .inl (E 0, 15, .inl aw)), (h3, .inl (E 0, 30, .inl rv)), (h4, .inl (E 0, 30, .inl sd)), (h5, .inl (E 0, 30, .inl gm)), (h6, .inl (E 0, 36, .inl ca)), (g1, .inl (E 0, 6, .inl xs)), (g2, .inl (E 0, 6, .inl ys))] (fun zv (u : (Nat → Int32) × (Nat → Int32)) => zv = cond (zi N v) (cond (zi 100 w && zi 100 y) (nI (100 * X (zq v) + Y (zq v))) (-2)) (-1) ∧ zm_gr (cond (zi N v && (zi 100 w && zi 100 y)) (zm_up X (zq v) (zq w)) X) (cond (zi N v && (zi 100 w && zi 100 y)) (zm_up Y (zq v) (zq y)) Y) u.1 u.2) (fun (u : (Nat → Int32) × (Nat → Int32)) => [(x0, .inr (5, [.ref g0, .ref xk, .ref xt, .ref xx, .ref xp, .int ik])), (g0, .inr (2, [.ref h0, .ref g1, .ref g2, .ref g3, .ref g4, .int (nI kd), .ref g5, .ref g6, .ref g7])), (h0, .inr (0, [.int (nI N), .ref h1, .ref h2, .ref h3, .ref h4, .ref h5, .ref h6])), (h1, .inl (E 0, 15, .inl hm)), (h2, .inl (E 0, 15, .inl aw)), (h3, .inl (E 0, 30, .inl rv)), (h4, .inl (E 0, 30, .inl sd)), (h5, .inl (E 0, 30, .inl gm)), (h6, .inl (E 0, 36, .inl ca)), (g1, .inl (E 0, 6, .inl u.1)), (g2, .inl (E 0, 6, .inl u.2))])) 0 0 (zw_A [(x0, .inr (5, [.ref g0, .ref xk, .ref xt, .ref xx, .ref xp, .int ik])), (g0, .inr (2, [.ref h0, .ref g1, .ref g2, .ref g3, .ref g4, .int (nI kd), .ref g5, .ref g6, .ref g7])), (h0, .inr (0, [.int (nI N), .ref h1, .ref h2, .ref h3, .ref h4, .ref h5, .ref h6])), (h1, .inl (E 0, 15, .inl hm)), (h2, .inl (E 0, 15, .inl aw)), (h3, .inl (E 0, 30, .inl rv)), (h4, .inl (E 0, 30, .inl sd)), (h5, .inl (E 0, 30, .inl gm)), (h6, .inl (E 0, 36, .inl ca)), (g1, .inl (E 0, 6, .inl xs)), (g2, .inl (E 0, 6, .inl ys))]) := by
  refine Met.ofW (cc := cX7_ground) (maxL := 5) (ret := (some .int)) (by decide) rfl ?_
  intro p e s m args below meth c s₁ Bz hml hv
  obtain ⟨rfl, hP, hK, hD0⟩ := hv
  have hx := Bz.exec
  have hb := Bz.bytes
  have hr := Bz.returns
  have hts := atoms_spec (ws := wsX7_ground) Bz.pre
  have hown : s.vm.findClass RX7 = some m.cls := findClass_of_methodNamed Bz.named
  have hlocks := Bz.notSynchronized
  have hP : va_P D vwCl [(x0, .inr (5, [.ref g0, .ref xk, .ref xt, .ref xx, .ref xp, .int ik])), (g0, .inr (2, [.ref h0, .ref g1, .ref g2, .ref g3, .ref g4, .int (nI kd), .ref g5, .ref g6, .ref g7])), (h0, .inr (0, [.int (nI N), .ref h1, .ref h2, .ref h3, .ref h4, .ref h5, .ref h6])), (h1, .inl (E 0, 15, .inl hm)), (h2, .inl (E 0, 15, .inl aw)), (h3, .inl (E 0, 30, .inl rv)), (h4, .inl (E 0, 30, .inl sd)), (h5, .inl (E 0, 30, .inl gm)), (h6, .inl (E 0, 36, .inl ca)), (g1, .inl (E 0, 6, .inl xs)), (g2, .inl (E 0, 6, .inl ys))] s.heap := hP
  obtain ⟨A, hAe⟩ : ∃ A : Nat → Prop, A = zw_A [(x0, .inr (5, [.ref g0, .ref xk, .ref xt, .ref xx, .ref xp, .int ik])), (g0, .inr (2, [.ref h0, .ref g1, .ref g2, .ref g3, .ref g4, .int (nI kd), .ref g5, .ref g6, .ref g7])), (h0, .inr (0, [.int (nI N), .ref h1, .ref h2, .ref h3, .ref h4, .ref h5, .ref h6])), (h1, .inl (E 0, 15, .inl hm)), (h2, .inl (E 0, 15, .inl aw)), (h3, .inl (E 0, 30, .inl rv)), (h4, .inl (E 0, 30, .inl sd)), (h5, .inl (E 0, 30, .inl gm)), (h6, .inl (E 0, 36, .inl ca)), (g1, .inl (E 0, 6, .inl xs)), (g2, .inl (E 0, 6, .inl ys))] := ⟨_, rfl⟩
  have hD : va_D A [(x0, .inr (5, [.ref g0, .ref xk, .ref xt, .ref xx, .ref xp, .int ik])), (g0, .inr (2, [.ref h0, .ref g1, .ref g2, .ref g3, .ref g4, .int (nI kd), .ref g5, .ref g6, .ref g7])), (h0, .inr (0, [.int (nI N), .ref h1, .ref h2, .ref h3, .ref h4, .ref h5, .ref h6])), (h1, .inl (E 0, 15, .inl hm)), (h2, .inl (E 0, 15, .inl aw)), (h3, .inl (E 0, 30, .inl rv)), (h4, .inl (E 0, 30, .inl sd)), (h5, .inl (E 0, 30, .inl gm)), (h6, .inl (E 0, 36, .inl ca)), (g1, .inl (E 0, 6, .inl xs)), (g2, .inl (E 0, 6, .inl ys))] := hAe ▸ zw_own hD0
  have hS : va_S A s.heap s.heap [] := va_S.rf
  have hl := lv_entry ([.ref x0, .int v, .int w, .int y]) (n := 5) (Nat.le_of_ble_eq_true rfl)
  rw [lg_entry_eq]
  generalize (lg_sl ([.ref x0, .int v, .int w, .int y]) ++ List.replicate (5 - (lg_sl ([.ref x0, .int v, .int w, .int y])).length) Slot.unset).toArray = ls at hl ⊢
  have hl : lv_has ls 5 [(0, .ref x0), (1, .int v), (2, .int w), (3, .int y)] := hl
  refine zr_nQ (fun Q hQ => ?_)
  have hN := hpl.1.1
  refine lv_aload_n hx hb dX7_ground_0 rfl (lv_at hl 0 rfl) ?_
  refine va_get (D := D) (ci := 5) (v := .ref g0) (C := RX7) (T := TX7) (N := 6) hx hb hts (by decide +kernel) hown hK.1 hP 0 rfl rfl 0 (by decide) (hts (.fieldLink RX7 12 "HomeRounds" "now" "LHomeRounds$Setting;") (by decide +kernel)) (fun _ h9 => h9) rfl dX7_ground_1 ?_
  refine va_get (D := D) (ci := 2) (v := .ref h0) (C := RX3) (T := TX3) (N := 9) hx hb hts (by decide +kernel) hown hK.1 hP 1 rfl rfl 0 (by decide) (hts (.fieldLink RX7 38 "HomeRounds$Setting" "plan" "LHomeRounds$Plan;") (by decide +kernel)) (fun _ h9 => h9) rfl dX7_ground_4 ?_
  refine lv_iload_n hx hb dX7_ground_7 rfl (lv_at hl 1 rfl) ?_
  refine zr_ci hP hS (va_runV (As := [.int v]) (rest := []) ⟨hx, hb, hml, hown, hts⟩ (c_X1_hasTeam l D E h0 h1 h2 h3 h4 h5 h6 N hm aw rv sd gm ca v (hN)) (cwV 1 hts gX7_ground_X1_hasTeam rfl rfl rfl (by decide +kernel) ⟨Nat.le_of_ble_eq_true rfl, Nat.le_of_ble_eq_true rfl⟩) (zr_V hK (hP.sub (ws' := [(h0, .inr (0, [.int (nI N), .ref h1, .ref h2, .ref h3, .ref h4, .ref h5, .ref h6])), (h1, .inl (E 0, 15, .inl hm)), (h2, .inl (E 0, 15, .inl aw)), (h3, .inl (E 0, 30, .inl rv)), (h4, .inl (E 0, 30, .inl sd)), (h5, .inl (E 0, 30, .inl gm)), (h6, .inl (E 0, 36, .inl ca))]) [2, 3, 4, 5, 6, 7, 8] rfl) (ci := 0) (q0 := 0) rfl rfl) rfl rfl hl.1 rfl (lv_room (Nat.le_of_ble_eq_true rfl)) dX7_ground_8 ⟨Nat.zero_le _, Nat.zero_le _⟩) (fun r_1 H locs hw_2 hP hS => ?_)
  rcases hw_2 with ⟨rfl, hw_2⟩ | ⟨rfl, hw_2⟩
  · skip
    obtain ⟨t, ht, v_e⟩ := hw_2
    have e1 : zi N v = true := v_e ▸ zi_t ht (by omega)
    have q1 : zq v = t := v_e ▸ zq_t (by omega)
    rw [v_e] at hl
    refine zr_ti (y := nI 1) rfl ?_
    refine lv_if_ne (tgt := 16) hx hb dX7_ground_11 (by decide) (fun cn_3 => ?_) (fun cn_3 => ?_)
    · skip
      refine lv_iload_n hx hb dX7_ground_16 rfl (lv_at hl 2 rfl) ?_
      refine zr_ci hP hS (va_runS (As := [.int w]) (rest := []) ⟨hx, hb, hml, hown, hts⟩ (c_X7_isNumber l D E w ) (va_cwS 1 hts gX7_ground_X7_isNumber rfl rfl rfl (by decide +kernel) ⟨Nat.le_of_ble_eq_true rfl, Nat.le_of_ble_eq_true rfl⟩) (zr_S hK (hP.sub (ws' := []) [] rfl)) rfl rfl hl.1 rfl (lv_room (Nat.le_of_ble_eq_true rfl)) dX7_ground_17 ⟨Nat.zero_le _, Nat.zero_le _⟩) (fun r_4 H locs hw_5 hP hS => ?_)
      rcases hw_5 with ⟨rfl, hw_5⟩ | ⟨rfl, hw_5⟩
      · skip
        obtain ⟨a1, ha1, w_e⟩ := hw_5
        have e2 : zi 100 w = true := w_e ▸ zi_t ha1 (by omega)
        have q2 : zq w = a1 := w_e ▸ zq_t (by omega)
        rw [w_e] at hl
        refine zr_ti (y := nI 1) rfl ?_
        refine lv_if_eq (tgt := 30) hx hb dX7_ground_20 (by decide) (fun cn_6 => ?_) (fun cn_6 => ?_)
        · skip
          exact absurd cn_6 (by decide)
        · skip
          refine lv_iload_n hx hb dX7_ground_23 rfl (lv_at hl 3 rfl) ?_
          refine zr_ci hP hS (va_runS (As := [.int y]) (rest := []) ⟨hx, hb, hml, hown, hts⟩ (c_X7_isNumber l D E y ) (va_cwS 1 hts gX7_ground_X7_isNumber rfl rfl rfl (by decide +kernel) ⟨Nat.le_of_ble_eq_true rfl, Nat.le_of_ble_eq_true rfl⟩) (zr_S hK (hP.sub (ws' := []) [] rfl)) rfl rfl hl.1 rfl (lv_room (Nat.le_of_ble_eq_true rfl)) dX7_ground_24 ⟨Nat.zero_le _, Nat.zero_le _⟩) (fun r_7 H locs hw_8 hP hS => ?_)
          rcases hw_8 with ⟨rfl, hw_8⟩ | ⟨rfl, hw_8⟩
          · skip
            obtain ⟨b1, hb1, y_e⟩ := hw_8
            have e3 : zi 100 y = true := y_e ▸ zi_t hb1 (by omega)
            have q3 : zq y = b1 := y_e ▸ zq_t (by omega)
            rw [y_e] at hl
            refine zr_ti (y := nI 1) rfl ?_
            refine lv_if_ne (tgt := 33) hx hb dX7_ground_27 (by decide) (fun cn_9 => ?_) (fun cn_9 => ?_)
            · skip
              obtain ⟨hx1, hx2, hx3, hx4⟩ := hgr t (by omega)
              refine lv_bipush (v := nI 100) hx hb dX7_ground_33 (by rfl) ?_
              refine lv_aload_n hx hb dX7_ground_35 rfl (lv_at hl 0 rfl) ?_
              refine va_get (D := D) (ci := 5) (v := .ref g0) (C := RX7) (T := TX7) (N := 6) hx hb hts (by decide +kernel) hown hK.1 hP 0 rfl rfl 0 (by decide) (hts (.fieldLink RX7 12 "HomeRounds" "now" "LHomeRounds$Setting;") (by decide +kernel)) (fun _ h9 => h9) rfl dX7_ground_36 ?_
              refine va_get (D := D) (ci := 2) (v := .ref g1) (C := RX3) (T := TX3) (N := 9) hx hb hts (by decide +kernel) hown hK.1 hP 1 rfl rfl 1 (by decide) (hts (.fieldLink RX7 59 "HomeRounds$Setting" "xs" "[I") (by decide +kernel)) (fun _ h9 => h9) rfl dX7_ground_39 ?_
              refine lv_iload_n hx hb dX7_ground_42 rfl (lv_at hl 1 rfl) ?_
              refine va_iald hx hb hK.1 hP 9 0 rfl rfl (vp_in_nI (by omega) (by omega)) dX7_ground_43 ?_
              refine zr_ti (y := nI (X t)) ((congrArg xs (nI_clamp (by omega))).trans (hx3)) ?_
              refine lv_imul hx hb dX7_ground_44 ?_
              refine zr_ti (y := nI (100 * (X t))) (pk_mul _ _) ?_
              refine lv_aload_n hx hb dX7_ground_45 rfl (lv_at hl 0 rfl) ?_
              refine va_get (D := D) (ci := 5) (v := .ref g0) (C := RX7) (T := TX7) (N := 6) hx hb hts (by decide +kernel) hown hK.1 hP 0 rfl rfl 0 (by decide) (hts (.fieldLink RX7 12 "HomeRounds" "now" "LHomeRounds$Setting;") (by decide +kernel)) (fun _ h9 => h9) rfl dX7_ground_46 ?_
              refine va_get (D := D) (ci := 2) (v := .ref g2) (C := RX3) (T := TX3) (N := 9) hx hb hts (by decide +kernel) hown hK.1 hP 1 rfl rfl 2 (by decide) (hts (.fieldLink RX7 63 "HomeRounds$Setting" "ys" "[I") (by decide +kernel)) (fun _ h9 => h9) rfl dX7_ground_49 ?_
              refine lv_iload_n hx hb dX7_ground_52 rfl (lv_at hl 1 rfl) ?_
              refine va_iald hx hb hK.1 hP 10 0 rfl rfl (vp_in_nI (by omega) (by omega)) dX7_ground_53 ?_
              refine zr_ti (y := nI (Y t)) ((congrArg ys (nI_clamp (by omega))).trans (hx4)) ?_
              refine lv_iadd hx hb dX7_ground_54 ?_
              refine zr_ti (y := nI ((100 * (X t)) + (Y t))) (nI_add _ _) ?_
              refine lv_istore (lv' := [(4, .int (nI ((100 * (X t)) + (Y t)))), (0, .ref x0), (1, .int (nI t)), (2, .int (nI a1)), (3, .int (nI b1))]) hx hb dX7_ground_55 hl (by decide) rfl (fun ls hl => ?_)
              refine lv_aload_n hx hb dX7_ground_57 rfl (lv_at hl 1 rfl) ?_
              refine va_get (D := D) (ci := 5) (v := .ref g0) (C := RX7) (T := TX7) (N := 6) hx hb hts (by decide +kernel) hown hK.1 hP 0 rfl rfl 0 (by decide) (hts (.fieldLink RX7 12 "HomeRounds" "now" "LHomeRounds$Setting;") (by decide +kernel)) (fun _ h9 => h9) rfl dX7_ground_58 ?_
              refine va_get (D := D) (ci := 2) (v := .ref g1) (C := RX3) (T := TX3) (N := 9) hx hb hts (by decide +kernel) hown hK.1 hP 1 rfl rfl 1 (by decide) (hts (.fieldLink RX7 59 "HomeRounds$Setting" "xs" "[I") (by decide +kernel)) (fun _ h9 => h9) rfl dX7_ground_61 ?_
              refine lv_iload_n hx hb dX7_ground_64 rfl (lv_at hl 2 rfl) ?_
              refine lv_iload_n hx hb dX7_ground_65 rfl (lv_at hl 3 rfl) ?_
              refine va_iast hx hb hK.1 hP hD hS 9 0 rfl rfl (vp_in_nI (by omega) (by omega)) dX7_ground_66 (fun H locs hP hD hS => ?_)
              have hP : va_P D vwCl [(x0, .inr (5, [.ref g0, .ref xk, .ref xt, .ref xx, .ref xp, .int ik])), (g0, .inr (2, [.ref h0, .ref g1, .ref g2, .ref g3, .ref g4, .int (nI kd), .ref g5, .ref g6, .ref g7])), (h0, .inr (0, [.int (nI N), .ref h1, .ref h2, .ref h3, .ref h4, .ref h5, .ref h6])), (h1, .inl (E 0, 15, .inl hm)), (h2, .inl (E 0, 15, .inl aw)), (h3, .inl (E 0, 30, .inl rv)), (h4, .inl (E 0, 30, .inl sd)), (h5, .inl (E 0, 30, .inl gm)), (h6, .inl (E 0, 36, .inl ca)), (g1, .inl (E 0, 6, .inl (upd xs (nI t).toNatClampNeg (nI a1)))), (g2, .inl (E 0, 6, .inl ys))] H := hP
              have hD : va_D A [(x0, .inr (5, [.ref g0, .ref xk, .ref xt, .ref xx, .ref xp, .int ik])), (g0, .inr (2, [.ref h0, .ref g1, .ref g2, .ref g3, .ref g4, .int (nI kd), .ref g5, .ref g6, .ref g7])), (h0, .inr (0, [.int (nI N), .ref h1, .ref h2, .ref h3, .ref h4, .ref h5, .ref h6])), (h1, .inl (E 0, 15, .inl hm)), (h2, .inl (E 0, 15, .inl aw)), (h3, .inl (E 0, 30, .inl rv)), (h4, .inl (E 0, 30, .inl sd)), (h5, .inl (E 0, 30, .inl gm)), (h6, .inl (E 0, 36, .inl ca)), (g1, .inl (E 0, 6, .inl (upd xs (nI t).toNatClampNeg (nI a1)))), (g2, .inl (E 0, 6, .inl ys))] := hD
              have hcz : (upd xs (nI t).toNatClampNeg (nI a1)) = (upd xs t (nI a1)) := by rw [nI_clamp (n := t) (by omega)]
              rw [hcz] at hP hD
              refine lv_aload_n hx hb dX7_ground_67 rfl (lv_at hl 1 rfl) ?_
              refine va_get (D := D) (ci := 5) (v := .ref g0) (C := RX7) (T := TX7) (N := 6) hx hb hts (by decide +kernel) hown hK.1 hP 0 rfl rfl 0 (by decide) (hts (.fieldLink RX7 12 "HomeRounds" "now" "LHomeRounds$Setting;") (by decide +kernel)) (fun _ h9 => h9) rfl dX7_ground_68 ?_
              refine va_get (D := D) (ci := 2) (v := .ref g2) (C := RX3) (T := TX3) (N := 9) hx hb hts (by decide +kernel) hown hK.1 hP 1 rfl rfl 2 (by decide) (hts (.fieldLink RX7 63 "HomeRounds$Setting" "ys" "[I") (by decide +kernel)) (fun _ h9 => h9) rfl dX7_ground_71 ?_
              refine lv_iload_n hx hb dX7_ground_74 rfl (lv_at hl 2 rfl) ?_
              refine lv_iload_n hx hb dX7_ground_75 rfl (lv_at hl 4 rfl) ?_
              refine va_iast hx hb hK.1 hP hD hS 10 0 rfl rfl (vp_in_nI (by omega) (by omega)) dX7_ground_76 (fun H locs hP hD hS => ?_)
              have hP : va_P D vwCl [(x0, .inr (5, [.ref g0, .ref xk, .ref xt, .ref xx, .ref xp, .int ik])), (g0, .inr (2, [.ref h0, .ref g1, .ref g2, .ref g3, .ref g4, .int (nI kd), .ref g5, .ref g6, .ref g7])), (h0, .inr (0, [.int (nI N), .ref h1, .ref h2, .ref h3, .ref h4, .ref h5, .ref h6])), (h1, .inl (E 0, 15, .inl hm)), (h2, .inl (E 0, 15, .inl aw)), (h3, .inl (E 0, 30, .inl rv)), (h4, .inl (E 0, 30, .inl sd)), (h5, .inl (E 0, 30, .inl gm)), (h6, .inl (E 0, 36, .inl ca)), (g1, .inl (E 0, 6, .inl (upd xs t (nI a1)))), (g2, .inl (E 0, 6, .inl (upd ys (nI t).toNatClampNeg (nI b1))))] H := hP
              have hD : va_D A [(x0, .inr (5, [.ref g0, .ref xk, .ref xt, .ref xx, .ref xp, .int ik])), (g0, .inr (2, [.ref h0, .ref g1, .ref g2, .ref g3, .ref g4, .int (nI kd), .ref g5, .ref g6, .ref g7])), (h0, .inr (0, [.int (nI N), .ref h1, .ref h2, .ref h3, .ref h4, .ref h5, .ref h6])), (h1, .inl (E 0, 15, .inl hm)), (h2, .inl (E 0, 15, .inl aw)), (h3, .inl (E 0, 30, .inl rv)), (h4, .inl (E 0, 30, .inl sd)), (h5, .inl (E 0, 30, .inl gm)), (h6, .inl (E 0, 36, .inl ca)), (g1, .inl (E 0, 6, .inl (upd xs t (nI a1)))), (g2, .inl (E 0, 6, .inl (upd ys (nI t).toNatClampNeg (nI b1))))] := hD
              have hcz : (upd ys (nI t).toNatClampNeg (nI b1)) = (upd ys t (nI b1)) := by rw [nI_clamp (n := t) (by omega)]
              rw [hcz] at hP hD
              refine lv_iload hx hb dX7_ground_77 (lv_at hl 0 rfl) ?_
              subst hQ; subst hAe
              exact W.iret (v := nI ((100 * (X t)) + (Y t))) hx hb hr (fun tz htz hWz => ⟨⟨nI ((100 * (X t)) + (Y t)), ((upd xs t (nI a1)), (upd ys t (nI b1))), rfl, ⟨by simp only [cond_true, cond_false, Bool.and_true, Bool.and_false, Bool.true_and, Bool.false_and, e1, e2, e3, q1], by simp only [cond_true, cond_false, Bool.and_true, Bool.and_false, Bool.true_and, Bool.false_and, e1, e2, e3, q1, q2, q3]; exact zm_gr_up hgr (by omega) (by omega)⟩, by rw [htz]; exact hP, hD⟩, hS.F htz⟩) hS.2.2 dX7_ground_79
            · skip
              exact absurd cn_9 (by decide)
          · skip
            have e3 : zi 100 y = false := zi_f hw_8
            refine zr_ti (y := nI 0) rfl ?_
            refine lv_if_ne (tgt := 33) hx hb dX7_ground_27 (by decide) (fun cn_10 => ?_) (fun cn_10 => ?_)
            · skip
              exact absurd cn_10 (by decide)
            · skip
              refine lv_bipush (v := (-2)) hx hb dX7_ground_30 (by rfl) ?_
              subst hQ; subst hAe
              exact W.iret (v := (-2)) hx hb hr (fun tz htz hWz => ⟨⟨(-2), (xs, ys), rfl, ⟨by first | (simp only [cond_true, cond_false, Bool.and_true, Bool.and_false, Bool.true_and, Bool.false_and, e1, e2]; done) | (simp only [cond_true, cond_false, Bool.and_true, Bool.and_false, Bool.true_and, Bool.false_and, e1, e2, e3]; done), by first | (simp only [cond_true, cond_false, Bool.and_true, Bool.and_false, Bool.true_and, Bool.false_and, e1, e2]; exact hgr; done) | (simp only [cond_true, cond_false, Bool.and_true, Bool.and_false, Bool.true_and, Bool.false_and, e1, e2, e3]; exact hgr; done)⟩, by rw [htz]; exact hP, hD⟩, hS.F htz⟩) hS.2.2 dX7_ground_32
      · skip
        have e2 : zi 100 w = false := zi_f hw_5
        refine zr_ti (y := nI 0) rfl ?_
        refine lv_if_eq (tgt := 30) hx hb dX7_ground_20 (by decide) (fun cn_11 => ?_) (fun cn_11 => ?_)
        · skip
          refine lv_bipush (v := (-2)) hx hb dX7_ground_30 (by rfl) ?_
          subst hQ; subst hAe
          exact W.iret (v := (-2)) hx hb hr (fun tz htz hWz => ⟨⟨(-2), (xs, ys), rfl, ⟨by first | (simp only [cond_true, cond_false, Bool.and_true, Bool.and_false, Bool.true_and, Bool.false_and, e1, e2]; done) | (simp only [cond_true, cond_false, Bool.and_true, Bool.and_false, Bool.true_and, Bool.false_and, e1, e2, e3]; done), by first | (simp only [cond_true, cond_false, Bool.and_true, Bool.and_false, Bool.true_and, Bool.false_and, e1, e2]; exact hgr; done) | (simp only [cond_true, cond_false, Bool.and_true, Bool.and_false, Bool.true_and, Bool.false_and, e1, e2, e3]; exact hgr; done)⟩, by rw [htz]; exact hP, hD⟩, hS.F htz⟩) hS.2.2 dX7_ground_32
        · skip
          exact absurd cn_11 (by decide)
    · skip
      exact absurd cn_3 (by decide)
  · skip
    have e1 : zi N v = false := zi_f hw_2
    refine zr_ti (y := nI 0) rfl ?_
    refine lv_if_ne (tgt := 16) hx hb dX7_ground_11 (by decide) (fun cn_12 => ?_) (fun cn_12 => ?_)
    · skip
      exact absurd cn_12 (by decide)
    · skip
      refine lv_iconst (v := (-1)) hx hb dX7_ground_14 (by rfl) ?_
      subst hQ; subst hAe
      exact W.iret (v := (-1)) hx hb hr (fun tz htz hWz => ⟨⟨(-1), (xs, ys), rfl, ⟨by simp only [cond_true, cond_false, Bool.and_true, Bool.and_false, Bool.true_and, Bool.false_and, e1], by simp only [cond_true, cond_false, Bool.and_true, Bool.and_false, Bool.true_and, Bool.false_and, e1]; exact hgr⟩, by rw [htz]; exact hP, hD⟩, hS.F htz⟩) hS.2.2 dX7_ground_15

set_option maxHeartbeats 4000000 in
set_option maxRecDepth 100000 in
theorem c_X7_swap (l : Launch) (D : va_G) (E : Nat → ClassId) (x0 : Nat) (xk : Nat) (xt : Nat) (xx : Nat) (xp : Nat) (ik : Int32) (g0 : Nat) (g1 : Nat) (g2 : Nat) (g3 : Nat) (g4 : Nat) (g5 : Nat) (g6 : Nat) (g7 : Nat) (kd : Nat) (h0 : Nat) (h1 : Nat) (h2 : Nat) (h3 : Nat) (h4 : Nat) (h5 : Nat) (h6 : Nat) (N : Nat) (hm : Nat → Int32) (aw : Nat → Int32) (rv : Nat → Int32) (sd : Nat → Int32) (gm : Nat → Int32) (ca : Nat → Int32) (G : Nat → Nat → Nat) (P : Nat → Nat → Nat) (v : Int32) (w : Int32) (hpl : zm_pl N G P hm aw rv sd gm) : Met l yX7_swap wsX7_swap ({ frames := 4, cells := 0, slots := 0, locals := 96 }) (zw_P D E [.ref x0, .int v, .int w] [(x0, .inr (5, [.ref g0, .ref xk, .ref xt, .ref xx, .ref xp, .int ik])), (g0, .inr (2, [.ref h0, .ref g1, .ref g2, .ref g3, .ref g4, .int (nI kd), .ref g5, .ref g6, .ref g7])), (h0, .inr (0, [.int (nI N), .ref h1, .ref h2, .ref h3, .ref h4, .ref h5, .ref h6])), (h1, .inl (E 0, 15, .inl hm)), (h2, .inl (E 0, 15, .inl aw)), (h3, .inl (E 0, 30, .inl rv)), (h4, .inl (E 0, 30, .inl sd)), (h5, .inl (E 0, 30, .inl gm)), (h6, .inl (E 0, 36, .inl ca))]) (zw_Qi D [(x0, .inr (5, [.ref g0, .ref xk, .ref xt, .ref xx, .ref xp, .int ik])), (g0, .inr (2, [.ref h0, .ref g1, .ref g2, .ref g3, .ref g4, .int (nI kd), .ref g5, .ref g6, .ref g7])), (h0, .inr (0, [.int (nI N), .ref h1, .ref h2, .ref h3, .ref h4, .ref h5, .ref h6])), (h1, .inl (E 0, 15, .inl hm)), (h2, .inl (E 0, 15, .inl aw)), (h3, .inl (E 0, 30, .inl rv)), (h4, .inl (E 0, 30, .inl sd)), (h5, .inl (E 0, 30, .inl gm)), (h6, .inl (E 0, 36, .inl ca))] (fun zv (u : (Nat → Int32) × (Nat → Int32) × (Nat → Int32) × (Nat → Int32) × (Nat → Int32)) => zv = cond (zi (N - 1) v && zi (N - 1) w) (nI (zm_brs N (zm_sw P (zq v) (zq w)))) (-1) ∧ zm_pl N (cond (zi (N - 1) v && zi (N - 1) w) (zm_sw G (zq v) (zq w)) G) (cond (zi (N - 1) v && zi (N - 1) w) (zm_sw P (zq v) (zq w)) P) u.1 u.2.1 u.2.2.1 u.2.2.2.1 u.2.2.2.2) (fun (u : (Nat → Int32) × (Nat → Int32) × (Nat → Int32) × (Nat → Int32) × (Nat → Int32)) => [(x0, .inr (5, [.ref g0, .ref xk, .ref xt, .ref xx, .ref xp, .int ik])), (g0, .inr (2, [.ref h0, .ref g1, .ref g2, .ref g3, .ref g4, .int (nI kd), .ref g5, .ref g6, .ref g7])), (h0, .inr (0, [.int (nI N), .ref h1, .ref h2, .ref h3, .ref h4, .ref h5, .ref h6])), (h1, .inl (E 0, 15, .inl u.1)), (h2, .inl (E 0, 15, .inl u.2.1)), (h3, .inl (E 0, 30, .inl u.2.2.1)), (h4, .inl (E 0, 30, .inl u.2.2.2.1)), (h5, .inl (E 0, 30, .inl u.2.2.2.2)), (h6, .inl (E 0, 36, .inl ca))])) 0 0 (zw_A [(x0, .inr (5, [.ref g0, .ref xk, .ref xt, .ref xx, .ref xp, .int ik])), (g0, .inr (2, [.ref h0, .ref g1, .ref g2, .ref g3, .ref g4, .int (nI kd), .ref g5, .ref g6, .ref g7])), (h0, .inr (0, [.int (nI N), .ref h1, .ref h2, .ref h3, .ref h4, .ref h5, .ref h6])), (h1, .inl (E 0, 15, .inl hm)), (h2, .inl (E 0, 15, .inl aw)), (h3, .inl (E 0, 30, .inl rv)), (h4, .inl (E 0, 30, .inl sd)), (h5, .inl (E 0, 30, .inl gm)), (h6, .inl (E 0, 36, .inl ca))]) := by
  refine Met.ofW (cc := cX7_swap) (maxL := 3) (ret := (some .int)) (by decide) rfl ?_
  intro p e s m args below meth c s₁ Bz hml hv
  obtain ⟨rfl, hP, hK, hD0⟩ := hv
  have hx := Bz.exec
  have hb := Bz.bytes
  have hr := Bz.returns
  have hts := atoms_spec (ws := wsX7_swap) Bz.pre
  have hown : s.vm.findClass RX7 = some m.cls := findClass_of_methodNamed Bz.named
  have hlocks := Bz.notSynchronized
  have hP : va_P D vwCl [(x0, .inr (5, [.ref g0, .ref xk, .ref xt, .ref xx, .ref xp, .int ik])), (g0, .inr (2, [.ref h0, .ref g1, .ref g2, .ref g3, .ref g4, .int (nI kd), .ref g5, .ref g6, .ref g7])), (h0, .inr (0, [.int (nI N), .ref h1, .ref h2, .ref h3, .ref h4, .ref h5, .ref h6])), (h1, .inl (E 0, 15, .inl hm)), (h2, .inl (E 0, 15, .inl aw)), (h3, .inl (E 0, 30, .inl rv)), (h4, .inl (E 0, 30, .inl sd)), (h5, .inl (E 0, 30, .inl gm)), (h6, .inl (E 0, 36, .inl ca))] s.heap := hP
  obtain ⟨A, hAe⟩ : ∃ A : Nat → Prop, A = zw_A [(x0, .inr (5, [.ref g0, .ref xk, .ref xt, .ref xx, .ref xp, .int ik])), (g0, .inr (2, [.ref h0, .ref g1, .ref g2, .ref g3, .ref g4, .int (nI kd), .ref g5, .ref g6, .ref g7])), (h0, .inr (0, [.int (nI N), .ref h1, .ref h2, .ref h3, .ref h4, .ref h5, .ref h6])), (h1, .inl (E 0, 15, .inl hm)), (h2, .inl (E 0, 15, .inl aw)), (h3, .inl (E 0, 30, .inl rv)), (h4, .inl (E 0, 30, .inl sd)), (h5, .inl (E 0, 30, .inl gm)), (h6, .inl (E 0, 36, .inl ca))] := ⟨_, rfl⟩
  have hD : va_D A [(x0, .inr (5, [.ref g0, .ref xk, .ref xt, .ref xx, .ref xp, .int ik])), (g0, .inr (2, [.ref h0, .ref g1, .ref g2, .ref g3, .ref g4, .int (nI kd), .ref g5, .ref g6, .ref g7])), (h0, .inr (0, [.int (nI N), .ref h1, .ref h2, .ref h3, .ref h4, .ref h5, .ref h6])), (h1, .inl (E 0, 15, .inl hm)), (h2, .inl (E 0, 15, .inl aw)), (h3, .inl (E 0, 30, .inl rv)), (h4, .inl (E 0, 30, .inl sd)), (h5, .inl (E 0, 30, .inl gm)), (h6, .inl (E 0, 36, .inl ca))] := hAe ▸ zw_own hD0
  have hS : va_S A s.heap s.heap [] := va_S.rf
  have hl := lv_entry ([.ref x0, .int v, .int w]) (n := 3) (Nat.le_of_ble_eq_true rfl)
  rw [lg_entry_eq]
  generalize (lg_sl ([.ref x0, .int v, .int w]) ++ List.replicate (3 - (lg_sl ([.ref x0, .int v, .int w])).length) Slot.unset).toArray = ls at hl ⊢
  have hl : lv_has ls 3 [(0, .ref x0), (1, .int v), (2, .int w)] := hl
  refine zr_nQ (fun Q hQ => ?_)
  have hN := hpl.1.1
  have hok := hpl.1
  refine lv_aload_n hx hb dX7_swap_0 rfl (lv_at hl 0 rfl) ?_
  refine va_get (D := D) (ci := 5) (v := .ref g0) (C := RX7) (T := TX7) (N := 6) hx hb hts (by decide +kernel) hown hK.1 hP 0 rfl rfl 0 (by decide) (hts (.fieldLink RX7 12 "HomeRounds" "now" "LHomeRounds$Setting;") (by decide +kernel)) (fun _ h9 => h9) rfl dX7_swap_1 ?_
  refine lv_iconst (v := nI 0) hx hb dX7_swap_4 (by rfl) ?_
  refine lv_iload_n hx hb dX7_swap_5 rfl (lv_at hl 1 rfl) ?_
  refine lv_iload_n hx hb dX7_swap_6 rfl (lv_at hl 2 rfl) ?_
  refine zr_ci hP hS (va_runV (As := [.int (nI 0), .int v, .int w]) (rest := []) ⟨hx, hb, hml, hown, hts⟩ (c_X3_mayChange_0 l D E g0 g1 g2 g3 g4 g5 g6 g7 kd h0 h1 h2 h3 h4 h5 h6 N hm aw rv sd gm ca v w (hN)) (cwV 3 hts gX7_swap_X3_mayChange rfl rfl rfl (by decide +kernel) ⟨Nat.le_of_ble_eq_true rfl, Nat.le_of_ble_eq_true rfl⟩) (zr_V hK (hP.sub (ws' := [(g0, .inr (2, [.ref h0, .ref g1, .ref g2, .ref g3, .ref g4, .int (nI kd), .ref g5, .ref g6, .ref g7])), (h0, .inr (0, [.int (nI N), .ref h1, .ref h2, .ref h3, .ref h4, .ref h5, .ref h6])), (h1, .inl (E 0, 15, .inl hm)), (h2, .inl (E 0, 15, .inl aw)), (h3, .inl (E 0, 30, .inl rv)), (h4, .inl (E 0, 30, .inl sd)), (h5, .inl (E 0, 30, .inl gm)), (h6, .inl (E 0, 36, .inl ca))]) [1, 2, 3, 4, 5, 6, 7, 8] rfl) (ci := 2) (q0 := 0) rfl rfl) rfl rfl hl.1 rfl (lv_room (Nat.le_of_ble_eq_true rfl)) dX7_swap_7 ⟨Nat.zero_le _, Nat.zero_le _⟩) (fun r_1 H locs hw_2 hP hS => ?_)
  rcases hw_2 with ⟨rfl, hw_2⟩ | ⟨rfl, hw_2⟩
  · skip
    obtain ⟨⟨t, ht, v_e⟩, ⟨u, hu, w_e⟩⟩ := hw_2
    have e1 : zi (N - 1) v = true := v_e ▸ zi_t ht (by omega)
    have q1 : zq v = t := v_e ▸ zq_t (by omega)
    rw [v_e] at hl
    have e2 : zi (N - 1) w = true := w_e ▸ zi_t hu (by omega)
    have q2 : zq w = u := w_e ▸ zq_t (by omega)
    rw [w_e] at hl
    have e0 : (zi (N - 1) v && zi (N - 1) w) = true := by rw [e1, e2]; rfl
    refine zr_ti (y := nI 1) rfl ?_
    refine lv_if_ne (tgt := 15) hx hb dX7_swap_10 (by decide) (fun cn_3 => ?_) (fun cn_3 => ?_)
    · skip
      refine lv_aload_n hx hb dX7_swap_15 rfl (lv_at hl 0 rfl) ?_
      refine va_get (D := D) (ci := 5) (v := .ref g0) (C := RX7) (T := TX7) (N := 6) hx hb hts (by decide +kernel) hown hK.1 hP 0 rfl rfl 0 (by decide) (hts (.fieldLink RX7 12 "HomeRounds" "now" "LHomeRounds$Setting;") (by decide +kernel)) (fun _ h9 => h9) rfl dX7_swap_16 ?_
      refine lv_iconst (v := nI 0) hx hb dX7_swap_19 (by rfl) ?_
      refine lv_iload_n hx hb dX7_swap_20 rfl (lv_at hl 1 rfl) ?_
      refine lv_iload_n hx hb dX7_swap_21 rfl (lv_at hl 2 rfl) ?_
      have hPc := hP.sub (ws' := [(g0, .inr (2, [.ref h0, .ref g1, .ref g2, .ref g3, .ref g4, .int (nI kd), .ref g5, .ref g6, .ref g7])), (h0, .inr (0, [.int (nI N), .ref h1, .ref h2, .ref h3, .ref h4, .ref h5, .ref h6])), (h1, .inl (E 0, 15, .inl hm)), (h2, .inl (E 0, 15, .inl aw)), (h3, .inl (E 0, 30, .inl rv)), (h4, .inl (E 0, 30, .inl sd)), (h5, .inl (E 0, 30, .inl gm)), (h6, .inl (E 0, 36, .inl ca))]) [1, 2, 3, 4, 5, 6, 7, 8] rfl
      have hDc := hD.sub (ws' := [(g0, .inr (2, [.ref h0, .ref g1, .ref g2, .ref g3, .ref g4, .int (nI kd), .ref g5, .ref g6, .ref g7])), (h0, .inr (0, [.int (nI N), .ref h1, .ref h2, .ref h3, .ref h4, .ref h5, .ref h6])), (h1, .inl (E 0, 15, .inl hm)), (h2, .inl (E 0, 15, .inl aw)), (h3, .inl (E 0, 30, .inl rv)), (h4, .inl (E 0, 30, .inl sd)), (h5, .inl (E 0, 30, .inl gm)), (h6, .inl (E 0, 36, .inl ca))]) [1, 2, 3, 4, 5, 6, 7, 8] (by decide +kernel) rfl
      have hAc := zw_AA (wc := [(g0, .inr (2, [.ref h0, .ref g1, .ref g2, .ref g3, .ref g4, .int (nI kd), .ref g5, .ref g6, .ref g7])), (h0, .inr (0, [.int (nI N), .ref h1, .ref h2, .ref h3, .ref h4, .ref h5, .ref h6])), (h1, .inl (E 0, 15, .inl hm)), (h2, .inl (E 0, 15, .inl aw)), (h3, .inl (E 0, 30, .inl rv)), (h4, .inl (E 0, 30, .inl sd)), (h5, .inl (E 0, 30, .inl gm)), (h6, .inl (E 0, 36, .inl ca))]) hD [1, 2, 3, 4, 5, 6, 7, 8] rfl
      refine zw_cv hAc hS (va_runV (As := [.int (nI 0), .int (nI t), .int (nI u)]) (rest := []) ⟨hx, hb, hml, hown, hts⟩ (c_X3_change_0 l D E g0 g1 g2 g3 g4 g5 g6 g7 kd h0 h1 h2 h3 h4 h5 h6 N hm aw rv sd gm ca G P t u (hpl) (by omega) (by omega)) (cwV 3 hts gX7_swap_X3_change rfl rfl rfl (by decide +kernel) ⟨Nat.le_of_ble_eq_true rfl, Nat.le_of_ble_eq_true rfl⟩) (zw_V hK hPc hDc (ci := 2) (q0 := 0) rfl rfl) rfl rfl hl.1 rfl (lv_room (Nat.le_of_ble_eq_true rfl)) dX7_swap_22 ⟨Nat.zero_le _, Nat.zero_le _⟩) (fun u_6 H locs hw_5 hP1 hD1 hk1 hS => ?_)
      obtain ⟨hm_7, aw_8, rv_9, sd_10, gm_11⟩ := u_6
      try dsimp only at hw_5 hP1 hD1
      obtain ⟨hP, hD⟩ := zw_join (wr := [(x0, .inr (5, [.ref g0, .ref xk, .ref xt, .ref xx, .ref xp, .int ik]))]) (w1 := [(g0, .inr (2, [.ref h0, .ref g1, .ref g2, .ref g3, .ref g4, .int (nI kd), .ref g5, .ref g6, .ref g7])), (h0, .inr (0, [.int (nI N), .ref h1, .ref h2, .ref h3, .ref h4, .ref h5, .ref h6])), (h1, .inl (E 0, 15, .inl hm_7)), (h2, .inl (E 0, 15, .inl aw_8)), (h3, .inl (E 0, 30, .inl rv_9)), (h4, .inl (E 0, 30, .inl sd_10)), (h5, .inl (E 0, 30, .inl gm_11)), (h6, .inl (E 0, 36, .inl ca))]) (ws' := [(x0, .inr (5, [.ref g0, .ref xk, .ref xt, .ref xx, .ref xp, .int ik])), (g0, .inr (2, [.ref h0, .ref g1, .ref g2, .ref g3, .ref g4, .int (nI kd), .ref g5, .ref g6, .ref g7])), (h0, .inr (0, [.int (nI N), .ref h1, .ref h2, .ref h3, .ref h4, .ref h5, .ref h6])), (h1, .inl (E 0, 15, .inl hm_7)), (h2, .inl (E 0, 15, .inl aw_8)), (h3, .inl (E 0, 30, .inl rv_9)), (h4, .inl (E 0, 30, .inl sd_10)), (h5, .inl (E 0, 30, .inl gm_11)), (h6, .inl (E 0, 36, .inl ca))]) hP hD [1, 2, 3, 4, 5, 6, 7, 8] [0] [0, 1, 2, 3, 4, 5, 6, 7, 8] rfl rfl (by decide +kernel) (by decide +kernel) hAc hk1 hP1 hD1 (by decide +kernel) rfl
      clear hP1 hD1 hk1 hPc hDc hAc
      have hnew := hw_5
      refine lv_aload_n hx hb dX7_swap_25 rfl (lv_at hl 0 rfl) ?_
      refine va_get (D := D) (ci := 5) (v := .ref g0) (C := RX7) (T := TX7) (N := 6) hx hb hts (by decide +kernel) hown hK.1 hP 0 rfl rfl 0 (by decide) (hts (.fieldLink RX7 12 "HomeRounds" "now" "LHomeRounds$Setting;") (by decide +kernel)) (fun _ h9 => h9) rfl dX7_swap_26 ?_
      refine va_get (D := D) (ci := 2) (v := .ref h0) (C := RX3) (T := TX3) (N := 9) hx hb hts (by decide +kernel) hown hK.1 hP 1 rfl rfl 0 (by decide) (hts (.fieldLink RX7 38 "HomeRounds$Setting" "plan" "LHomeRounds$Plan;") (by decide +kernel)) (fun _ h9 => h9) rfl dX7_swap_29 ?_
      refine zr_ci hP hS (va_runV (As := []) (rest := []) ⟨hx, hb, hml, hown, hts⟩ (c_X1_allBreaks l D E h0 h1 h2 h3 h4 h5 h6 N hm_7 aw_8 rv_9 sd_10 gm_11 ca (zm_sw G t u) (zm_sw P t u) (hnew)) (cwV 0 hts gX7_swap_X1_allBreaks rfl rfl rfl (by decide +kernel) ⟨Nat.le_of_ble_eq_true rfl, Nat.le_of_ble_eq_true rfl⟩) (zr_V hK (hP.sub (ws' := [(h0, .inr (0, [.int (nI N), .ref h1, .ref h2, .ref h3, .ref h4, .ref h5, .ref h6])), (h1, .inl (E 0, 15, .inl hm_7)), (h2, .inl (E 0, 15, .inl aw_8)), (h3, .inl (E 0, 30, .inl rv_9)), (h4, .inl (E 0, 30, .inl sd_10)), (h5, .inl (E 0, 30, .inl gm_11)), (h6, .inl (E 0, 36, .inl ca))]) [2, 3, 4, 5, 6, 7, 8] rfl) (ci := 0) (q0 := 0) rfl rfl) rfl rfl hl.1 rfl (lv_room (Nat.le_of_ble_eq_true rfl)) dX7_swap_32 ⟨Nat.zero_le _, Nat.zero_le _⟩) (fun r_12 H locs hw_13 hP hS => ?_)
      subst hw_13
      subst hQ; subst hAe
      exact W.iret (v := nI (zm_brs N (zm_sw P t u))) hx hb hr (fun tz htz hWz => ⟨⟨nI (zm_brs N (zm_sw P t u)), (hm_7, aw_8, rv_9, sd_10, gm_11), rfl, ⟨by simp only [cond_true, cond_false, Bool.and_true, Bool.and_false, Bool.true_and, Bool.false_and, e0, q1, q2], by simp only [cond_true, cond_false, Bool.and_true, Bool.and_false, Bool.true_and, Bool.false_and, e0, q1, q2]; exact hnew⟩, by rw [htz]; exact hP, hD⟩, hS.F htz⟩) hS.2.2 dX7_swap_35
    · skip
      exact absurd cn_3 (by decide)
  · skip
    have e0 : (zi (N - 1) v && zi (N - 1) w) = false := zi_n2 hw_2
    refine zr_ti (y := nI 0) rfl ?_
    refine lv_if_ne (tgt := 15) hx hb dX7_swap_10 (by decide) (fun cn_14 => ?_) (fun cn_14 => ?_)
    · skip
      exact absurd cn_14 (by decide)
    · skip
      refine lv_iconst (v := (-1)) hx hb dX7_swap_13 (by rfl) ?_
      subst hQ; subst hAe
      exact W.iret (v := (-1)) hx hb hr (fun tz htz hWz => ⟨⟨(-1), (hm, aw, rv, sd, gm), rfl, ⟨by simp only [cond_true, cond_false, Bool.and_true, Bool.and_false, Bool.true_and, Bool.false_and, e0], by simp only [cond_true, cond_false, Bool.and_true, Bool.and_false, Bool.true_and, Bool.false_and, e0]; exact hpl⟩, by rw [htz]; exact hP, hD⟩, hS.F htz⟩) hS.2.2 dX7_swap_14

set_option maxHeartbeats 4000000 in
set_option maxRecDepth 100000 in
theorem c_X7_turn (l : Launch) (D : va_G) (E : Nat → ClassId) (x0 : Nat) (xk : Nat) (xt : Nat) (xx : Nat) (xp : Nat) (ik : Int32) (g0 : Nat) (g1 : Nat) (g2 : Nat) (g3 : Nat) (g4 : Nat) (g5 : Nat) (g6 : Nat) (g7 : Nat) (kd : Nat) (h0 : Nat) (h1 : Nat) (h2 : Nat) (h3 : Nat) (h4 : Nat) (h5 : Nat) (h6 : Nat) (N : Nat) (hm : Nat → Int32) (aw : Nat → Int32) (rv : Nat → Int32) (sd : Nat → Int32) (gm : Nat → Int32) (ca : Nat → Int32) (G : Nat → Nat → Nat) (P : Nat → Nat → Nat) (v : Int32) (w : Int32) (hpl : zm_pl N G P hm aw rv sd gm) : Met l yX7_turn wsX7_turn ({ frames := 4, cells := 0, slots := 0, locals := 96 }) (zw_P D E [.ref x0, .int v, .int w] [(x0, .inr (5, [.ref g0, .ref xk, .ref xt, .ref xx, .ref xp, .int ik])), (g0, .inr (2, [.ref h0, .ref g1, .ref g2, .ref g3, .ref g4, .int (nI kd), .ref g5, .ref g6, .ref g7])), (h0, .inr (0, [.int (nI N), .ref h1, .ref h2, .ref h3, .ref h4, .ref h5, .ref h6])), (h1, .inl (E 0, 15, .inl hm)), (h2, .inl (E 0, 15, .inl aw)), (h3, .inl (E 0, 30, .inl rv)), (h4, .inl (E 0, 30, .inl sd)), (h5, .inl (E 0, 30, .inl gm)), (h6, .inl (E 0, 36, .inl ca))]) (zw_Qi D [(x0, .inr (5, [.ref g0, .ref xk, .ref xt, .ref xx, .ref xp, .int ik])), (g0, .inr (2, [.ref h0, .ref g1, .ref g2, .ref g3, .ref g4, .int (nI kd), .ref g5, .ref g6, .ref g7])), (h0, .inr (0, [.int (nI N), .ref h1, .ref h2, .ref h3, .ref h4, .ref h5, .ref h6])), (h1, .inl (E 0, 15, .inl hm)), (h2, .inl (E 0, 15, .inl aw)), (h3, .inl (E 0, 30, .inl rv)), (h4, .inl (E 0, 30, .inl sd)), (h5, .inl (E 0, 30, .inl gm)), (h6, .inl (E 0, 36, .inl ca))] (fun zv (u : (Nat → Int32) × (Nat → Int32) × (Nat → Int32) × (Nat → Int32) × (Nat → Int32)) => zv = cond (zi (N - 1) v && zi (N / 2) w) (nI (zm_tuG G (zq v) (zq w) (zq v) (2 * zq w))) (-1) ∧ zm_pl N (cond (zi (N - 1) v && zi (N / 2) w) (zm_tuG G (zq v) (zq w)) G) (cond (zi (N - 1) v && zi (N / 2) w) (zm_tuP P (zq v) (zq w)) P) u.1 u.2.1 u.2.2.1 u.2.2.2.1 u.2.2.2.2) (fun (u : (Nat → Int32) × (Nat → Int32) × (Nat → Int32) × (Nat → Int32) × (Nat → Int32)) => [(x0, .inr (5, [.ref g0, .ref xk, .ref xt, .ref xx, .ref xp, .int ik])), (g0, .inr (2, [.ref h0, .ref g1, .ref g2, .ref g3, .ref g4, .int (nI kd), .ref g5, .ref g6, .ref g7])), (h0, .inr (0, [.int (nI N), .ref h1, .ref h2, .ref h3, .ref h4, .ref h5, .ref h6])), (h1, .inl (E 0, 15, .inl u.1)), (h2, .inl (E 0, 15, .inl u.2.1)), (h3, .inl (E 0, 30, .inl u.2.2.1)), (h4, .inl (E 0, 30, .inl u.2.2.2.1)), (h5, .inl (E 0, 30, .inl u.2.2.2.2)), (h6, .inl (E 0, 36, .inl ca))])) 0 0 (zw_A [(x0, .inr (5, [.ref g0, .ref xk, .ref xt, .ref xx, .ref xp, .int ik])), (g0, .inr (2, [.ref h0, .ref g1, .ref g2, .ref g3, .ref g4, .int (nI kd), .ref g5, .ref g6, .ref g7])), (h0, .inr (0, [.int (nI N), .ref h1, .ref h2, .ref h3, .ref h4, .ref h5, .ref h6])), (h1, .inl (E 0, 15, .inl hm)), (h2, .inl (E 0, 15, .inl aw)), (h3, .inl (E 0, 30, .inl rv)), (h4, .inl (E 0, 30, .inl sd)), (h5, .inl (E 0, 30, .inl gm)), (h6, .inl (E 0, 36, .inl ca))]) := by
  refine Met.ofW (cc := cX7_turn) (maxL := 3) (ret := (some .int)) (by decide) rfl ?_
  intro p e s m args below meth c s₁ Bz hml hv
  obtain ⟨rfl, hP, hK, hD0⟩ := hv
  have hx := Bz.exec
  have hb := Bz.bytes
  have hr := Bz.returns
  have hts := atoms_spec (ws := wsX7_turn) Bz.pre
  have hown : s.vm.findClass RX7 = some m.cls := findClass_of_methodNamed Bz.named
  have hlocks := Bz.notSynchronized
  have hP : va_P D vwCl [(x0, .inr (5, [.ref g0, .ref xk, .ref xt, .ref xx, .ref xp, .int ik])), (g0, .inr (2, [.ref h0, .ref g1, .ref g2, .ref g3, .ref g4, .int (nI kd), .ref g5, .ref g6, .ref g7])), (h0, .inr (0, [.int (nI N), .ref h1, .ref h2, .ref h3, .ref h4, .ref h5, .ref h6])), (h1, .inl (E 0, 15, .inl hm)), (h2, .inl (E 0, 15, .inl aw)), (h3, .inl (E 0, 30, .inl rv)), (h4, .inl (E 0, 30, .inl sd)), (h5, .inl (E 0, 30, .inl gm)), (h6, .inl (E 0, 36, .inl ca))] s.heap := hP
  obtain ⟨A, hAe⟩ : ∃ A : Nat → Prop, A = zw_A [(x0, .inr (5, [.ref g0, .ref xk, .ref xt, .ref xx, .ref xp, .int ik])), (g0, .inr (2, [.ref h0, .ref g1, .ref g2, .ref g3, .ref g4, .int (nI kd), .ref g5, .ref g6, .ref g7])), (h0, .inr (0, [.int (nI N), .ref h1, .ref h2, .ref h3, .ref h4, .ref h5, .ref h6])), (h1, .inl (E 0, 15, .inl hm)), (h2, .inl (E 0, 15, .inl aw)), (h3, .inl (E 0, 30, .inl rv)), (h4, .inl (E 0, 30, .inl sd)), (h5, .inl (E 0, 30, .inl gm)), (h6, .inl (E 0, 36, .inl ca))] := ⟨_, rfl⟩
  have hD : va_D A [(x0, .inr (5, [.ref g0, .ref xk, .ref xt, .ref xx, .ref xp, .int ik])), (g0, .inr (2, [.ref h0, .ref g1, .ref g2, .ref g3, .ref g4, .int (nI kd), .ref g5, .ref g6, .ref g7])), (h0, .inr (0, [.int (nI N), .ref h1, .ref h2, .ref h3, .ref h4, .ref h5, .ref h6])), (h1, .inl (E 0, 15, .inl hm)), (h2, .inl (E 0, 15, .inl aw)), (h3, .inl (E 0, 30, .inl rv)), (h4, .inl (E 0, 30, .inl sd)), (h5, .inl (E 0, 30, .inl gm)), (h6, .inl (E 0, 36, .inl ca))] := hAe ▸ zw_own hD0
  have hS : va_S A s.heap s.heap [] := va_S.rf
  have hl := lv_entry ([.ref x0, .int v, .int w]) (n := 3) (Nat.le_of_ble_eq_true rfl)
  rw [lg_entry_eq]
  generalize (lg_sl ([.ref x0, .int v, .int w]) ++ List.replicate (3 - (lg_sl ([.ref x0, .int v, .int w])).length) Slot.unset).toArray = ls at hl ⊢
  have hl : lv_has ls 3 [(0, .ref x0), (1, .int v), (2, .int w)] := hl
  refine zr_nQ (fun Q hQ => ?_)
  have hN := hpl.1.1
  have hok := hpl.1
  refine lv_aload_n hx hb dX7_turn_0 rfl (lv_at hl 0 rfl) ?_
  refine va_get (D := D) (ci := 5) (v := .ref g0) (C := RX7) (T := TX7) (N := 6) hx hb hts (by decide +kernel) hown hK.1 hP 0 rfl rfl 0 (by decide) (hts (.fieldLink RX7 12 "HomeRounds" "now" "LHomeRounds$Setting;") (by decide +kernel)) (fun _ h9 => h9) rfl dX7_turn_1 ?_
  refine lv_iconst (v := nI 1) hx hb dX7_turn_4 (by rfl) ?_
  refine lv_iload_n hx hb dX7_turn_5 rfl (lv_at hl 1 rfl) ?_
  refine lv_iload_n hx hb dX7_turn_6 rfl (lv_at hl 2 rfl) ?_
  refine zr_ci hP hS (va_runV (As := [.int (nI 1), .int v, .int w]) (rest := []) ⟨hx, hb, hml, hown, hts⟩ (c_X3_mayChange_1 l D E g0 g1 g2 g3 g4 g5 g6 g7 kd h0 h1 h2 h3 h4 h5 h6 N hm aw rv sd gm ca v w (hN)) (cwV 3 hts gX7_turn_X3_mayChange rfl rfl rfl (by decide +kernel) ⟨Nat.le_of_ble_eq_true rfl, Nat.le_of_ble_eq_true rfl⟩) (zr_V hK (hP.sub (ws' := [(g0, .inr (2, [.ref h0, .ref g1, .ref g2, .ref g3, .ref g4, .int (nI kd), .ref g5, .ref g6, .ref g7])), (h0, .inr (0, [.int (nI N), .ref h1, .ref h2, .ref h3, .ref h4, .ref h5, .ref h6])), (h1, .inl (E 0, 15, .inl hm)), (h2, .inl (E 0, 15, .inl aw)), (h3, .inl (E 0, 30, .inl rv)), (h4, .inl (E 0, 30, .inl sd)), (h5, .inl (E 0, 30, .inl gm)), (h6, .inl (E 0, 36, .inl ca))]) [1, 2, 3, 4, 5, 6, 7, 8] rfl) (ci := 2) (q0 := 0) rfl rfl) rfl rfl hl.1 rfl (lv_room (Nat.le_of_ble_eq_true rfl)) dX7_turn_7 ⟨Nat.zero_le _, Nat.zero_le _⟩) (fun r_1 H locs hw_2 hP hS => ?_)
  rcases hw_2 with ⟨rfl, hw_2⟩ | ⟨rfl, hw_2⟩
  · skip
    obtain ⟨⟨t, ht, v_e⟩, ⟨u, hu, w_e⟩⟩ := hw_2
    have e1 : zi (N - 1) v = true := v_e ▸ zi_t ht (by omega)
    have q1 : zq v = t := v_e ▸ zq_t (by omega)
    rw [v_e] at hl
    have e2 : zi (N / 2) w = true := w_e ▸ zi_t hu (by omega)
    have q2 : zq w = u := w_e ▸ zq_t (by omega)
    rw [w_e] at hl
    have e0 : (zi (N - 1) v && zi (N / 2) w) = true := by rw [e1, e2]; rfl
    refine zr_ti (y := nI 1) rfl ?_
    refine lv_if_ne (tgt := 15) hx hb dX7_turn_10 (by decide) (fun cn_3 => ?_) (fun cn_3 => ?_)
    · skip
      refine lv_aload_n hx hb dX7_turn_15 rfl (lv_at hl 0 rfl) ?_
      refine va_get (D := D) (ci := 5) (v := .ref g0) (C := RX7) (T := TX7) (N := 6) hx hb hts (by decide +kernel) hown hK.1 hP 0 rfl rfl 0 (by decide) (hts (.fieldLink RX7 12 "HomeRounds" "now" "LHomeRounds$Setting;") (by decide +kernel)) (fun _ h9 => h9) rfl dX7_turn_16 ?_
      refine lv_iconst (v := nI 1) hx hb dX7_turn_19 (by rfl) ?_
      refine lv_iload_n hx hb dX7_turn_20 rfl (lv_at hl 1 rfl) ?_
      refine lv_iload_n hx hb dX7_turn_21 rfl (lv_at hl 2 rfl) ?_
      have hPc := hP.sub (ws' := [(g0, .inr (2, [.ref h0, .ref g1, .ref g2, .ref g3, .ref g4, .int (nI kd), .ref g5, .ref g6, .ref g7])), (h0, .inr (0, [.int (nI N), .ref h1, .ref h2, .ref h3, .ref h4, .ref h5, .ref h6])), (h1, .inl (E 0, 15, .inl hm)), (h2, .inl (E 0, 15, .inl aw)), (h3, .inl (E 0, 30, .inl rv)), (h4, .inl (E 0, 30, .inl sd)), (h5, .inl (E 0, 30, .inl gm)), (h6, .inl (E 0, 36, .inl ca))]) [1, 2, 3, 4, 5, 6, 7, 8] rfl
      have hDc := hD.sub (ws' := [(g0, .inr (2, [.ref h0, .ref g1, .ref g2, .ref g3, .ref g4, .int (nI kd), .ref g5, .ref g6, .ref g7])), (h0, .inr (0, [.int (nI N), .ref h1, .ref h2, .ref h3, .ref h4, .ref h5, .ref h6])), (h1, .inl (E 0, 15, .inl hm)), (h2, .inl (E 0, 15, .inl aw)), (h3, .inl (E 0, 30, .inl rv)), (h4, .inl (E 0, 30, .inl sd)), (h5, .inl (E 0, 30, .inl gm)), (h6, .inl (E 0, 36, .inl ca))]) [1, 2, 3, 4, 5, 6, 7, 8] (by decide +kernel) rfl
      have hAc := zw_AA (wc := [(g0, .inr (2, [.ref h0, .ref g1, .ref g2, .ref g3, .ref g4, .int (nI kd), .ref g5, .ref g6, .ref g7])), (h0, .inr (0, [.int (nI N), .ref h1, .ref h2, .ref h3, .ref h4, .ref h5, .ref h6])), (h1, .inl (E 0, 15, .inl hm)), (h2, .inl (E 0, 15, .inl aw)), (h3, .inl (E 0, 30, .inl rv)), (h4, .inl (E 0, 30, .inl sd)), (h5, .inl (E 0, 30, .inl gm)), (h6, .inl (E 0, 36, .inl ca))]) hD [1, 2, 3, 4, 5, 6, 7, 8] rfl
      refine zw_cv hAc hS (va_runV (As := [.int (nI 1), .int (nI t), .int (nI u)]) (rest := []) ⟨hx, hb, hml, hown, hts⟩ (c_X3_change_1 l D E g0 g1 g2 g3 g4 g5 g6 g7 kd h0 h1 h2 h3 h4 h5 h6 N hm aw rv sd gm ca G P t u (hpl) (by omega) (by omega)) (cwV 3 hts gX7_turn_X3_change rfl rfl rfl (by decide +kernel) ⟨Nat.le_of_ble_eq_true rfl, Nat.le_of_ble_eq_true rfl⟩) (zw_V hK hPc hDc (ci := 2) (q0 := 0) rfl rfl) rfl rfl hl.1 rfl (lv_room (Nat.le_of_ble_eq_true rfl)) dX7_turn_22 ⟨Nat.zero_le _, Nat.zero_le _⟩) (fun u_6 H locs hw_5 hP1 hD1 hk1 hS => ?_)
      obtain ⟨hm_7, aw_8, rv_9, sd_10, gm_11⟩ := u_6
      try dsimp only at hw_5 hP1 hD1
      obtain ⟨hP, hD⟩ := zw_join (wr := [(x0, .inr (5, [.ref g0, .ref xk, .ref xt, .ref xx, .ref xp, .int ik]))]) (w1 := [(g0, .inr (2, [.ref h0, .ref g1, .ref g2, .ref g3, .ref g4, .int (nI kd), .ref g5, .ref g6, .ref g7])), (h0, .inr (0, [.int (nI N), .ref h1, .ref h2, .ref h3, .ref h4, .ref h5, .ref h6])), (h1, .inl (E 0, 15, .inl hm_7)), (h2, .inl (E 0, 15, .inl aw_8)), (h3, .inl (E 0, 30, .inl rv_9)), (h4, .inl (E 0, 30, .inl sd_10)), (h5, .inl (E 0, 30, .inl gm_11)), (h6, .inl (E 0, 36, .inl ca))]) (ws' := [(x0, .inr (5, [.ref g0, .ref xk, .ref xt, .ref xx, .ref xp, .int ik])), (g0, .inr (2, [.ref h0, .ref g1, .ref g2, .ref g3, .ref g4, .int (nI kd), .ref g5, .ref g6, .ref g7])), (h0, .inr (0, [.int (nI N), .ref h1, .ref h2, .ref h3, .ref h4, .ref h5, .ref h6])), (h1, .inl (E 0, 15, .inl hm_7)), (h2, .inl (E 0, 15, .inl aw_8)), (h3, .inl (E 0, 30, .inl rv_9)), (h4, .inl (E 0, 30, .inl sd_10)), (h5, .inl (E 0, 30, .inl gm_11)), (h6, .inl (E 0, 36, .inl ca))]) hP hD [1, 2, 3, 4, 5, 6, 7, 8] [0] [0, 1, 2, 3, 4, 5, 6, 7, 8] rfl rfl (by decide +kernel) (by decide +kernel) hAc hk1 hP1 hD1 (by decide +kernel) rfl
      clear hP1 hD1 hk1 hPc hDc hAc
      have hnew := hw_5
      refine lv_aload_n hx hb dX7_turn_25 rfl (lv_at hl 0 rfl) ?_
      refine va_get (D := D) (ci := 5) (v := .ref g0) (C := RX7) (T := TX7) (N := 6) hx hb hts (by decide +kernel) hown hK.1 hP 0 rfl rfl 0 (by decide) (hts (.fieldLink RX7 12 "HomeRounds" "now" "LHomeRounds$Setting;") (by decide +kernel)) (fun _ h9 => h9) rfl dX7_turn_26 ?_
      refine va_get (D := D) (ci := 2) (v := .ref h0) (C := RX3) (T := TX3) (N := 9) hx hb hts (by decide +kernel) hown hK.1 hP 1 rfl rfl 0 (by decide) (hts (.fieldLink RX7 38 "HomeRounds$Setting" "plan" "LHomeRounds$Plan;") (by decide +kernel)) (fun _ h9 => h9) rfl dX7_turn_29 ?_
      refine lv_iload_n hx hb dX7_turn_32 rfl (lv_at hl 1 rfl) ?_
      refine lv_iload_n hx hb dX7_turn_33 rfl (lv_at hl 2 rfl) ?_
      refine zr_ci hP hS (va_runV (As := [.int (nI t), .int (nI u)]) (rest := []) ⟨hx, hb, hml, hown, hts⟩ (c_X1_homeOf l D E h0 h1 h2 h3 h4 h5 h6 N hm_7 aw_8 rv_9 sd_10 gm_11 ca t u (hN) (by omega) (by omega)) (cwV 2 hts gX7_turn_X1_homeOf rfl rfl rfl (by decide +kernel) ⟨Nat.le_of_ble_eq_true rfl, Nat.le_of_ble_eq_true rfl⟩) (zr_V hK (hP.sub (ws' := [(h0, .inr (0, [.int (nI N), .ref h1, .ref h2, .ref h3, .ref h4, .ref h5, .ref h6])), (h1, .inl (E 0, 15, .inl hm_7)), (h2, .inl (E 0, 15, .inl aw_8)), (h3, .inl (E 0, 30, .inl rv_9)), (h4, .inl (E 0, 30, .inl sd_10)), (h5, .inl (E 0, 30, .inl gm_11)), (h6, .inl (E 0, 36, .inl ca))]) [2, 3, 4, 5, 6, 7, 8] rfl) (ci := 0) (q0 := 0) rfl rfl) rfl rfl hl.1 rfl (lv_room (Nat.le_of_ble_eq_true rfl)) dX7_turn_34 ⟨Nat.zero_le _, Nat.zero_le _⟩) (fun r_12 H locs hw_13 hP hS => ?_)
      subst hw_13
      refine zr_ti (y := nI (zm_tuG G t u t (2 * u))) (hnew.2.1 t u ht hu) ?_
      subst hQ; subst hAe
      exact W.iret (v := nI (zm_tuG G t u t (2 * u))) hx hb hr (fun tz htz hWz => ⟨⟨nI (zm_tuG G t u t (2 * u)), (hm_7, aw_8, rv_9, sd_10, gm_11), rfl, ⟨by simp only [cond_true, cond_false, Bool.and_true, Bool.and_false, Bool.true_and, Bool.false_and, e0, q1, q2], by simp only [cond_true, cond_false, Bool.and_true, Bool.and_false, Bool.true_and, Bool.false_and, e0, q1, q2]; exact hnew⟩, by rw [htz]; exact hP, hD⟩, hS.F htz⟩) hS.2.2 dX7_turn_37
    · skip
      exact absurd cn_3 (by decide)
  · skip
    have e0 : (zi (N - 1) v && zi (N / 2) w) = false := zi_n2 hw_2
    refine zr_ti (y := nI 0) rfl ?_
    refine lv_if_ne (tgt := 15) hx hb dX7_turn_10 (by decide) (fun cn_14 => ?_) (fun cn_14 => ?_)
    · skip
      exact absurd cn_14 (by decide)
    · skip
      refine lv_iconst (v := (-1)) hx hb dX7_turn_13 (by rfl) ?_
      subst hQ; subst hAe
      exact W.iret (v := (-1)) hx hb hr (fun tz htz hWz => ⟨⟨(-1), (hm, aw, rv, sd, gm), rfl, ⟨by simp only [cond_true, cond_false, Bool.and_true, Bool.and_false, Bool.true_and, Bool.false_and, e0], by simp only [cond_true, cond_false, Bool.and_true, Bool.and_false, Bool.true_and, Bool.false_and, e0]; exact hpl⟩, by rw [htz]; exact hP, hD⟩, hS.F htz⟩) hS.2.2 dX7_turn_14

set_option maxHeartbeats 4000000 in
set_option maxRecDepth 100000 in
theorem c_X7_exchange (l : Launch) (D : va_G) (E : Nat → ClassId) (x0 : Nat) (xk : Nat) (xt : Nat) (xx : Nat) (xp : Nat) (ik : Int32) (g0 : Nat) (g1 : Nat) (g2 : Nat) (g3 : Nat) (g4 : Nat) (g5 : Nat) (g6 : Nat) (g7 : Nat) (kd : Nat) (h0 : Nat) (h1 : Nat) (h2 : Nat) (h3 : Nat) (h4 : Nat) (h5 : Nat) (h6 : Nat) (N : Nat) (hm : Nat → Int32) (aw : Nat → Int32) (rv : Nat → Int32) (sd : Nat → Int32) (gm : Nat → Int32) (ca : Nat → Int32) (G : Nat → Nat → Nat) (P : Nat → Nat → Nat) (v : Int32) (w : Int32) (hpl : zm_pl N G P hm aw rv sd gm) : Met l yX7_exchange wsX7_exchange ({ frames := 4, cells := 0, slots := 0, locals := 96 }) (zw_P D E [.ref x0, .int v, .int w] [(x0, .inr (5, [.ref g0, .ref xk, .ref xt, .ref xx, .ref xp, .int ik])), (g0, .inr (2, [.ref h0, .ref g1, .ref g2, .ref g3, .ref g4, .int (nI kd), .ref g5, .ref g6, .ref g7])), (h0, .inr (0, [.int (nI N), .ref h1, .ref h2, .ref h3, .ref h4, .ref h5, .ref h6])), (h1, .inl (E 0, 15, .inl hm)), (h2, .inl (E 0, 15, .inl aw)), (h3, .inl (E 0, 30, .inl rv)), (h4, .inl (E 0, 30, .inl sd)), (h5, .inl (E 0, 30, .inl gm)), (h6, .inl (E 0, 36, .inl ca))]) (zw_Qi D [(x0, .inr (5, [.ref g0, .ref xk, .ref xt, .ref xx, .ref xp, .int ik])), (g0, .inr (2, [.ref h0, .ref g1, .ref g2, .ref g3, .ref g4, .int (nI kd), .ref g5, .ref g6, .ref g7])), (h0, .inr (0, [.int (nI N), .ref h1, .ref h2, .ref h3, .ref h4, .ref h5, .ref h6])), (h1, .inl (E 0, 15, .inl hm)), (h2, .inl (E 0, 15, .inl aw)), (h3, .inl (E 0, 30, .inl rv)), (h4, .inl (E 0, 30, .inl sd)), (h5, .inl (E 0, 30, .inl gm)), (h6, .inl (E 0, 36, .inl ca))] (fun zv (u : (Nat → Int32) × (Nat → Int32) × (Nat → Int32) × (Nat → Int32) × (Nat → Int32)) => zv = cond (zi N v && zi N w) (cond (decide (zq v = zq w)) (nI (N - 1)) (zm_meet N (zm_exG G (zq v) (zq w)) (zm_exP P (zq v) (zq w)) (zq v) (zq w))) (-1) ∧ zm_pl N (cond (zi N v && zi N w) (zm_exG G (zq v) (zq w)) G) (cond (zi N v && zi N w) (zm_exP P (zq v) (zq w)) P) u.1 u.2.1 u.2.2.1 u.2.2.2.1 u.2.2.2.2) (fun (u : (Nat → Int32) × (Nat → Int32) × (Nat → Int32) × (Nat → Int32) × (Nat → Int32)) => [(x0, .inr (5, [.ref g0, .ref xk, .ref xt, .ref xx, .ref xp, .int ik])), (g0, .inr (2, [.ref h0, .ref g1, .ref g2, .ref g3, .ref g4, .int (nI kd), .ref g5, .ref g6, .ref g7])), (h0, .inr (0, [.int (nI N), .ref h1, .ref h2, .ref h3, .ref h4, .ref h5, .ref h6])), (h1, .inl (E 0, 15, .inl u.1)), (h2, .inl (E 0, 15, .inl u.2.1)), (h3, .inl (E 0, 30, .inl u.2.2.1)), (h4, .inl (E 0, 30, .inl u.2.2.2.1)), (h5, .inl (E 0, 30, .inl u.2.2.2.2)), (h6, .inl (E 0, 36, .inl ca))])) 0 0 (zw_A [(x0, .inr (5, [.ref g0, .ref xk, .ref xt, .ref xx, .ref xp, .int ik])), (g0, .inr (2, [.ref h0, .ref g1, .ref g2, .ref g3, .ref g4, .int (nI kd), .ref g5, .ref g6, .ref g7])), (h0, .inr (0, [.int (nI N), .ref h1, .ref h2, .ref h3, .ref h4, .ref h5, .ref h6])), (h1, .inl (E 0, 15, .inl hm)), (h2, .inl (E 0, 15, .inl aw)), (h3, .inl (E 0, 30, .inl rv)), (h4, .inl (E 0, 30, .inl sd)), (h5, .inl (E 0, 30, .inl gm)), (h6, .inl (E 0, 36, .inl ca))]) := by
  refine Met.ofW (cc := cX7_exchange) (maxL := 3) (ret := (some .int)) (by decide) rfl ?_
  intro p e s m args below meth c s₁ Bz hml hv
  obtain ⟨rfl, hP, hK, hD0⟩ := hv
  have hx := Bz.exec
  have hb := Bz.bytes
  have hr := Bz.returns
  have hts := atoms_spec (ws := wsX7_exchange) Bz.pre
  have hown : s.vm.findClass RX7 = some m.cls := findClass_of_methodNamed Bz.named
  have hlocks := Bz.notSynchronized
  have hP : va_P D vwCl [(x0, .inr (5, [.ref g0, .ref xk, .ref xt, .ref xx, .ref xp, .int ik])), (g0, .inr (2, [.ref h0, .ref g1, .ref g2, .ref g3, .ref g4, .int (nI kd), .ref g5, .ref g6, .ref g7])), (h0, .inr (0, [.int (nI N), .ref h1, .ref h2, .ref h3, .ref h4, .ref h5, .ref h6])), (h1, .inl (E 0, 15, .inl hm)), (h2, .inl (E 0, 15, .inl aw)), (h3, .inl (E 0, 30, .inl rv)), (h4, .inl (E 0, 30, .inl sd)), (h5, .inl (E 0, 30, .inl gm)), (h6, .inl (E 0, 36, .inl ca))] s.heap := hP
  obtain ⟨A, hAe⟩ : ∃ A : Nat → Prop, A = zw_A [(x0, .inr (5, [.ref g0, .ref xk, .ref xt, .ref xx, .ref xp, .int ik])), (g0, .inr (2, [.ref h0, .ref g1, .ref g2, .ref g3, .ref g4, .int (nI kd), .ref g5, .ref g6, .ref g7])), (h0, .inr (0, [.int (nI N), .ref h1, .ref h2, .ref h3, .ref h4, .ref h5, .ref h6])), (h1, .inl (E 0, 15, .inl hm)), (h2, .inl (E 0, 15, .inl aw)), (h3, .inl (E 0, 30, .inl rv)), (h4, .inl (E 0, 30, .inl sd)), (h5, .inl (E 0, 30, .inl gm)), (h6, .inl (E 0, 36, .inl ca))] := ⟨_, rfl⟩
  have hD : va_D A [(x0, .inr (5, [.ref g0, .ref xk, .ref xt, .ref xx, .ref xp, .int ik])), (g0, .inr (2, [.ref h0, .ref g1, .ref g2, .ref g3, .ref g4, .int (nI kd), .ref g5, .ref g6, .ref g7])), (h0, .inr (0, [.int (nI N), .ref h1, .ref h2, .ref h3, .ref h4, .ref h5, .ref h6])), (h1, .inl (E 0, 15, .inl hm)), (h2, .inl (E 0, 15, .inl aw)), (h3, .inl (E 0, 30, .inl rv)), (h4, .inl (E 0, 30, .inl sd)), (h5, .inl (E 0, 30, .inl gm)), (h6, .inl (E 0, 36, .inl ca))] := hAe ▸ zw_own hD0
  have hS : va_S A s.heap s.heap [] := va_S.rf
  have hl := lv_entry ([.ref x0, .int v, .int w]) (n := 3) (Nat.le_of_ble_eq_true rfl)
  rw [lg_entry_eq]
  generalize (lg_sl ([.ref x0, .int v, .int w]) ++ List.replicate (3 - (lg_sl ([.ref x0, .int v, .int w])).length) Slot.unset).toArray = ls at hl ⊢
  have hl : lv_has ls 3 [(0, .ref x0), (1, .int v), (2, .int w)] := hl
  refine zr_nQ (fun Q hQ => ?_)
  have hN := hpl.1.1
  have hok := hpl.1
  refine lv_aload_n hx hb dX7_exchange_0 rfl (lv_at hl 0 rfl) ?_
  refine va_get (D := D) (ci := 5) (v := .ref g0) (C := RX7) (T := TX7) (N := 6) hx hb hts (by decide +kernel) hown hK.1 hP 0 rfl rfl 0 (by decide) (hts (.fieldLink RX7 12 "HomeRounds" "now" "LHomeRounds$Setting;") (by decide +kernel)) (fun _ h9 => h9) rfl dX7_exchange_1 ?_
  refine lv_iconst (v := nI 2) hx hb dX7_exchange_4 (by rfl) ?_
  refine lv_iload_n hx hb dX7_exchange_5 rfl (lv_at hl 1 rfl) ?_
  refine lv_iload_n hx hb dX7_exchange_6 rfl (lv_at hl 2 rfl) ?_
  refine zr_ci hP hS (va_runV (As := [.int (nI 2), .int v, .int w]) (rest := []) ⟨hx, hb, hml, hown, hts⟩ (c_X3_mayChange_2 l D E g0 g1 g2 g3 g4 g5 g6 g7 kd h0 h1 h2 h3 h4 h5 h6 N hm aw rv sd gm ca v w (hN)) (cwV 3 hts gX7_exchange_X3_mayChange rfl rfl rfl (by decide +kernel) ⟨Nat.le_of_ble_eq_true rfl, Nat.le_of_ble_eq_true rfl⟩) (zr_V hK (hP.sub (ws' := [(g0, .inr (2, [.ref h0, .ref g1, .ref g2, .ref g3, .ref g4, .int (nI kd), .ref g5, .ref g6, .ref g7])), (h0, .inr (0, [.int (nI N), .ref h1, .ref h2, .ref h3, .ref h4, .ref h5, .ref h6])), (h1, .inl (E 0, 15, .inl hm)), (h2, .inl (E 0, 15, .inl aw)), (h3, .inl (E 0, 30, .inl rv)), (h4, .inl (E 0, 30, .inl sd)), (h5, .inl (E 0, 30, .inl gm)), (h6, .inl (E 0, 36, .inl ca))]) [1, 2, 3, 4, 5, 6, 7, 8] rfl) (ci := 2) (q0 := 0) rfl rfl) rfl rfl hl.1 rfl (lv_room (Nat.le_of_ble_eq_true rfl)) dX7_exchange_7 ⟨Nat.zero_le _, Nat.zero_le _⟩) (fun r_1 H locs hw_2 hP hS => ?_)
  rcases hw_2 with ⟨rfl, hw_2⟩ | ⟨rfl, hw_2⟩
  · skip
    obtain ⟨⟨t, ht, v_e⟩, ⟨u, hu, w_e⟩⟩ := hw_2
    have e1 : zi N v = true := v_e ▸ zi_t ht (by omega)
    have q1 : zq v = t := v_e ▸ zq_t (by omega)
    rw [v_e] at hl
    have e2 : zi N w = true := w_e ▸ zi_t hu (by omega)
    have q2 : zq w = u := w_e ▸ zq_t (by omega)
    rw [w_e] at hl
    have e0 : (zi N v && zi N w) = true := by rw [e1, e2]; rfl
    refine zr_ti (y := nI 1) rfl ?_
    refine lv_if_ne (tgt := 15) hx hb dX7_exchange_10 (by decide) (fun cn_3 => ?_) (fun cn_3 => ?_)
    · skip
      refine lv_aload_n hx hb dX7_exchange_15 rfl (lv_at hl 0 rfl) ?_
      refine va_get (D := D) (ci := 5) (v := .ref g0) (C := RX7) (T := TX7) (N := 6) hx hb hts (by decide +kernel) hown hK.1 hP 0 rfl rfl 0 (by decide) (hts (.fieldLink RX7 12 "HomeRounds" "now" "LHomeRounds$Setting;") (by decide +kernel)) (fun _ h9 => h9) rfl dX7_exchange_16 ?_
      refine lv_iconst (v := nI 2) hx hb dX7_exchange_19 (by rfl) ?_
      refine lv_iload_n hx hb dX7_exchange_20 rfl (lv_at hl 1 rfl) ?_
      refine lv_iload_n hx hb dX7_exchange_21 rfl (lv_at hl 2 rfl) ?_
      have hPc := hP.sub (ws' := [(g0, .inr (2, [.ref h0, .ref g1, .ref g2, .ref g3, .ref g4, .int (nI kd), .ref g5, .ref g6, .ref g7])), (h0, .inr (0, [.int (nI N), .ref h1, .ref h2, .ref h3, .ref h4, .ref h5, .ref h6])), (h1, .inl (E 0, 15, .inl hm)), (h2, .inl (E 0, 15, .inl aw)), (h3, .inl (E 0, 30, .inl rv)), (h4, .inl (E 0, 30, .inl sd)), (h5, .inl (E 0, 30, .inl gm)), (h6, .inl (E 0, 36, .inl ca))]) [1, 2, 3, 4, 5, 6, 7, 8] rfl
      have hDc := hD.sub (ws' := [(g0, .inr (2, [.ref h0, .ref g1, .ref g2, .ref g3, .ref g4, .int (nI kd), .ref g5, .ref g6, .ref g7])), (h0, .inr (0, [.int (nI N), .ref h1, .ref h2, .ref h3, .ref h4, .ref h5, .ref h6])), (h1, .inl (E 0, 15, .inl hm)), (h2, .inl (E 0, 15, .inl aw)), (h3, .inl (E 0, 30, .inl rv)), (h4, .inl (E 0, 30, .inl sd)), (h5, .inl (E 0, 30, .inl gm)), (h6, .inl (E 0, 36, .inl ca))]) [1, 2, 3, 4, 5, 6, 7, 8] (by decide +kernel) rfl
      have hAc := zw_AA (wc := [(g0, .inr (2, [.ref h0, .ref g1, .ref g2, .ref g3, .ref g4, .int (nI kd), .ref g5, .ref g6, .ref g7])), (h0, .inr (0, [.int (nI N), .ref h1, .ref h2, .ref h3, .ref h4, .ref h5, .ref h6])), (h1, .inl (E 0, 15, .inl hm)), (h2, .inl (E 0, 15, .inl aw)), (h3, .inl (E 0, 30, .inl rv)), (h4, .inl (E 0, 30, .inl sd)), (h5, .inl (E 0, 30, .inl gm)), (h6, .inl (E 0, 36, .inl ca))]) hD [1, 2, 3, 4, 5, 6, 7, 8] rfl
      refine zw_cv hAc hS (va_runV (As := [.int (nI 2), .int (nI t), .int (nI u)]) (rest := []) ⟨hx, hb, hml, hown, hts⟩ (c_X3_change_2 l D E g0 g1 g2 g3 g4 g5 g6 g7 kd h0 h1 h2 h3 h4 h5 h6 N hm aw rv sd gm ca G P t u (hpl) (by omega) (by omega)) (cwV 3 hts gX7_exchange_X3_change rfl rfl rfl (by decide +kernel) ⟨Nat.le_of_ble_eq_true rfl, Nat.le_of_ble_eq_true rfl⟩) (zw_V hK hPc hDc (ci := 2) (q0 := 0) rfl rfl) rfl rfl hl.1 rfl (lv_room (Nat.le_of_ble_eq_true rfl)) dX7_exchange_22 ⟨Nat.zero_le _, Nat.zero_le _⟩) (fun u_6 H locs hw_5 hP1 hD1 hk1 hS => ?_)
      obtain ⟨hm_7, aw_8, rv_9, sd_10, gm_11⟩ := u_6
      try dsimp only at hw_5 hP1 hD1
      obtain ⟨hP, hD⟩ := zw_join (wr := [(x0, .inr (5, [.ref g0, .ref xk, .ref xt, .ref xx, .ref xp, .int ik]))]) (w1 := [(g0, .inr (2, [.ref h0, .ref g1, .ref g2, .ref g3, .ref g4, .int (nI kd), .ref g5, .ref g6, .ref g7])), (h0, .inr (0, [.int (nI N), .ref h1, .ref h2, .ref h3, .ref h4, .ref h5, .ref h6])), (h1, .inl (E 0, 15, .inl hm_7)), (h2, .inl (E 0, 15, .inl aw_8)), (h3, .inl (E 0, 30, .inl rv_9)), (h4, .inl (E 0, 30, .inl sd_10)), (h5, .inl (E 0, 30, .inl gm_11)), (h6, .inl (E 0, 36, .inl ca))]) (ws' := [(x0, .inr (5, [.ref g0, .ref xk, .ref xt, .ref xx, .ref xp, .int ik])), (g0, .inr (2, [.ref h0, .ref g1, .ref g2, .ref g3, .ref g4, .int (nI kd), .ref g5, .ref g6, .ref g7])), (h0, .inr (0, [.int (nI N), .ref h1, .ref h2, .ref h3, .ref h4, .ref h5, .ref h6])), (h1, .inl (E 0, 15, .inl hm_7)), (h2, .inl (E 0, 15, .inl aw_8)), (h3, .inl (E 0, 30, .inl rv_9)), (h4, .inl (E 0, 30, .inl sd_10)), (h5, .inl (E 0, 30, .inl gm_11)), (h6, .inl (E 0, 36, .inl ca))]) hP hD [1, 2, 3, 4, 5, 6, 7, 8] [0] [0, 1, 2, 3, 4, 5, 6, 7, 8] rfl rfl (by decide +kernel) (by decide +kernel) hAc hk1 hP1 hD1 (by decide +kernel) rfl
      clear hP1 hD1 hk1 hPc hDc hAc
      have hnew := hw_5
      refine lv_iload_n hx hb dX7_exchange_25 rfl (lv_at hl 1 rfl) ?_
      refine lv_iload_n hx hb dX7_exchange_26 rfl (lv_at hl 2 rfl) ?_
      refine lv_icmp_ne (tgt := 45) hx hb dX7_exchange_27 (by decide) (fun cn_12 => ?_) (fun cn_12 => ?_)
      · skip
        have cn_12 : ¬ (t = u) := fun hz => cn_12 ((nI_eq (a := t) (b := u) (by omega) (by omega)).mpr hz)
        have e9 : decide (t = u) = false := decide_eq_false cn_12
        refine lv_aload_n hx hb dX7_exchange_45 rfl (lv_at hl 0 rfl) ?_
        refine va_get (D := D) (ci := 5) (v := .ref g0) (C := RX7) (T := TX7) (N := 6) hx hb hts (by decide +kernel) hown hK.1 hP 0 rfl rfl 0 (by decide) (hts (.fieldLink RX7 12 "HomeRounds" "now" "LHomeRounds$Setting;") (by decide +kernel)) (fun _ h9 => h9) rfl dX7_exchange_46 ?_
        refine va_get (D := D) (ci := 2) (v := .ref h0) (C := RX3) (T := TX3) (N := 9) hx hb hts (by decide +kernel) hown hK.1 hP 1 rfl rfl 0 (by decide) (hts (.fieldLink RX7 38 "HomeRounds$Setting" "plan" "LHomeRounds$Plan;") (by decide +kernel)) (fun _ h9 => h9) rfl dX7_exchange_49 ?_
        refine lv_iload_n hx hb dX7_exchange_52 rfl (lv_at hl 1 rfl) ?_
        refine lv_iload_n hx hb dX7_exchange_53 rfl (lv_at hl 2 rfl) ?_
        refine zr_ci hP hS (va_runV (As := [.int (nI t), .int (nI u)]) (rest := []) ⟨hx, hb, hml, hown, hts⟩ (c_X1_meetingOf l D E h0 h1 h2 h3 h4 h5 h6 N hm_7 aw_8 rv_9 sd_10 gm_11 ca (zm_exG G t u) (zm_exP P t u) t u (hnew) (by omega) (by omega)) (cwV 2 hts gX7_exchange_X1_meetingOf rfl rfl rfl (by decide +kernel) ⟨Nat.le_of_ble_eq_true rfl, Nat.le_of_ble_eq_true rfl⟩) (zr_V hK (hP.sub (ws' := [(h0, .inr (0, [.int (nI N), .ref h1, .ref h2, .ref h3, .ref h4, .ref h5, .ref h6])), (h1, .inl (E 0, 15, .inl hm_7)), (h2, .inl (E 0, 15, .inl aw_8)), (h3, .inl (E 0, 30, .inl rv_9)), (h4, .inl (E 0, 30, .inl sd_10)), (h5, .inl (E 0, 30, .inl gm_11)), (h6, .inl (E 0, 36, .inl ca))]) [2, 3, 4, 5, 6, 7, 8] rfl) (ci := 0) (q0 := 0) rfl rfl) rfl rfl hl.1 rfl (lv_room (Nat.le_of_ble_eq_true rfl)) dX7_exchange_54 ⟨Nat.zero_le _, Nat.zero_le _⟩) (fun r_13 H locs hw_14 hP hS => ?_)
        subst hw_14
        subst hQ; subst hAe
        exact W.iret (v := zm_meet N (zm_exG G t u) (zm_exP P t u) t u) hx hb hr (fun tz htz hWz => ⟨⟨zm_meet N (zm_exG G t u) (zm_exP P t u) t u, (hm_7, aw_8, rv_9, sd_10, gm_11), rfl, ⟨by simp only [cond_true, cond_false, Bool.and_true, Bool.and_false, Bool.true_and, Bool.false_and, e0, q1, q2, e9], by simp only [cond_true, cond_false, Bool.and_true, Bool.and_false, Bool.true_and, Bool.false_and, e0, q1, q2]; exact hnew⟩, by rw [htz]; exact hP, hD⟩, hS.F htz⟩) hS.2.2 dX7_exchange_57
      · skip
        have cn_12 : t = u := (nI_eq (a := t) (b := u) (by omega) (by omega)).mp cn_12
        have e9 : decide (t = u) = true := decide_eq_true cn_12
        refine lv_aload_n hx hb dX7_exchange_30 rfl (lv_at hl 0 rfl) ?_
        refine va_get (D := D) (ci := 5) (v := .ref g0) (C := RX7) (T := TX7) (N := 6) hx hb hts (by decide +kernel) hown hK.1 hP 0 rfl rfl 0 (by decide) (hts (.fieldLink RX7 12 "HomeRounds" "now" "LHomeRounds$Setting;") (by decide +kernel)) (fun _ h9 => h9) rfl dX7_exchange_31 ?_
        refine va_get (D := D) (ci := 2) (v := .ref h0) (C := RX3) (T := TX3) (N := 9) hx hb hts (by decide +kernel) hown hK.1 hP 1 rfl rfl 0 (by decide) (hts (.fieldLink RX7 38 "HomeRounds$Setting" "plan" "LHomeRounds$Plan;") (by decide +kernel)) (fun _ h9 => h9) rfl dX7_exchange_34 ?_
        refine va_get (D := D) (ci := 0) (v := .int (nI N)) (C := RX1) (T := TX1) (N := 7) hx hb hts (by decide +kernel) hown hK.1 hP 2 rfl rfl 0 (by decide) (hts (.fieldLink RX7 42 "HomeRounds$Plan" "n" "I") (by decide +kernel)) (fun _ h9 => h9) rfl dX7_exchange_37 ?_
        refine lv_iconst (v := nI 1) hx hb dX7_exchange_40 (by rfl) ?_
        refine lv_isub hx hb dX7_exchange_41 ?_
        refine zr_ti (y := nI (N - 1)) (pk_sub (by omega)) ?_
        refine lv_goto (tgt := 57) hx hb dX7_exchange_42 (by decide) ?_
        subst hQ; subst hAe
        exact W.iret (v := nI (N - 1)) hx hb hr (fun tz htz hWz => ⟨⟨nI (N - 1), (hm_7, aw_8, rv_9, sd_10, gm_11), rfl, ⟨by simp only [cond_true, cond_false, Bool.and_true, Bool.and_false, Bool.true_and, Bool.false_and, e0, q1, q2, e9], by simp only [cond_true, cond_false, Bool.and_true, Bool.and_false, Bool.true_and, Bool.false_and, e0, q1, q2]; exact hnew⟩, by rw [htz]; exact hP, hD⟩, hS.F htz⟩) hS.2.2 dX7_exchange_57
    · skip
      exact absurd cn_3 (by decide)
  · skip
    have e0 : (zi N v && zi N w) = false := zi_n2 hw_2
    refine zr_ti (y := nI 0) rfl ?_
    refine lv_if_ne (tgt := 15) hx hb dX7_exchange_10 (by decide) (fun cn_15 => ?_) (fun cn_15 => ?_)
    · skip
      exact absurd cn_15 (by decide)
    · skip
      refine lv_iconst (v := (-1)) hx hb dX7_exchange_13 (by rfl) ?_
      subst hQ; subst hAe
      exact W.iret (v := (-1)) hx hb hr (fun tz htz hWz => ⟨⟨(-1), (hm, aw, rv, sd, gm), rfl, ⟨by simp only [cond_true, cond_false, Bool.and_true, Bool.and_false, Bool.true_and, Bool.false_and, e0], by simp only [cond_true, cond_false, Bool.and_true, Bool.and_false, Bool.true_and, Bool.false_and, e0]; exact hpl⟩, by rw [htz]; exact hP, hD⟩, hS.F htz⟩) hS.2.2 dX7_exchange_14

set_option maxHeartbeats 4000000 in
set_option maxRecDepth 100000 in
theorem c_X7_bar (l : Launch) (D : va_G) (E : Nat → ClassId) (x0 : Nat) (xk : Nat) (xt : Nat) (xx : Nat) (xp : Nat) (ik : Int32) (g0 : Nat) (g1 : Nat) (g2 : Nat) (g3 : Nat) (g4 : Nat) (g5 : Nat) (g6 : Nat) (g7 : Nat) (kd : Nat) (h0 : Nat) (h1 : Nat) (h2 : Nat) (h3 : Nat) (h4 : Nat) (h5 : Nat) (h6 : Nat) (N : Nat) (hm : Nat → Int32) (aw : Nat → Int32) (rv : Nat → Int32) (sd : Nat → Int32) (gm : Nat → Int32) (ca : Nat → Int32) (G : Nat → Nat → Nat) (P : Nat → Nat → Nat) (bz : Nat → Int32) (B : Nat → Nat → Nat) (v : Int32) (w : Int32) (hpl : zm_pl N G P hm aw rv sd gm) (hbz : zm_bz B bz) : Met l yX7_bar wsX7_bar ({ frames := 1, cells := 0, slots := 0, locals := 22 }) (zw_P D E [.ref x0, .int v, .int w] [(x0, .inr (5, [.ref g0, .ref xk, .ref xt, .ref xx, .ref xp, .int ik])), (g0, .inr (2, [.ref h0, .ref g1, .ref g2, .ref g3, .ref g4, .int (nI kd), .ref g5, .ref g6, .ref g7])), (h0, .inr (0, [.int (nI N), .ref h1, .ref h2, .ref h3, .ref h4, .ref h5, .ref h6])), (h1, .inl (E 0, 15, .inl hm)), (h2, .inl (E 0, 15, .inl aw)), (h3, .inl (E 0, 30, .inl rv)), (h4, .inl (E 0, 30, .inl sd)), (h5, .inl (E 0, 30, .inl gm)), (h6, .inl (E 0, 36, .inl ca)), (g3, .inl (E 1, 30, .inl bz))]) (zw_Qi D [(x0, .inr (5, [.ref g0, .ref xk, .ref xt, .ref xx, .ref xp, .int ik])), (g0, .inr (2, [.ref h0, .ref g1, .ref g2, .ref g3, .ref g4, .int (nI kd), .ref g5, .ref g6, .ref g7])), (h0, .inr (0, [.int (nI N), .ref h1, .ref h2, .ref h3, .ref h4, .ref h5, .ref h6])), (h1, .inl (E 0, 15, .inl hm)), (h2, .inl (E 0, 15, .inl aw)), (h3, .inl (E 0, 30, .inl rv)), (h4, .inl (E 0, 30, .inl sd)), (h5, .inl (E 0, 30, .inl gm)), (h6, .inl (E 0, 36, .inl ca)), (g3, .inl (E 1, 30, .inl bz))] (fun zv (u : (Nat → Int32)) => zv = cond (zi N v && zi (N - 1) w) (nI (1 - B (zq v) (zq w))) (-1) ∧ zm_bz (cond (zi N v && zi (N - 1) w) (zm_fl B (zq v) (zq w)) B) u) (fun (u : (Nat → Int32)) => [(x0, .inr (5, [.ref g0, .ref xk, .ref xt, .ref xx, .ref xp, .int ik])), (g0, .inr (2, [.ref h0, .ref g1, .ref g2, .ref g3, .ref g4, .int (nI kd), .ref g5, .ref g6, .ref g7])), (h0, .inr (0, [.int (nI N), .ref h1, .ref h2, .ref h3, .ref h4, .ref h5, .ref h6])), (h1, .inl (E 0, 15, .inl hm)), (h2, .inl (E 0, 15, .inl aw)), (h3, .inl (E 0, 30, .inl rv)), (h4, .inl (E 0, 30, .inl sd)), (h5, .inl (E 0, 30, .inl gm)), (h6, .inl (E 0, 36, .inl ca)), (g3, .inl (E 1, 30, .inl u))])) 0 0 (zw_A [(x0, .inr (5, [.ref g0, .ref xk, .ref xt, .ref xx, .ref xp, .int ik])), (g0, .inr (2, [.ref h0, .ref g1, .ref g2, .ref g3, .ref g4, .int (nI kd), .ref g5, .ref g6, .ref g7])), (h0, .inr (0, [.int (nI N), .ref h1, .ref h2, .ref h3, .ref h4, .ref h5, .ref h6])), (h1, .inl (E 0, 15, .inl hm)), (h2, .inl (E 0, 15, .inl aw)), (h3, .inl (E 0, 30, .inl rv)), (h4, .inl (E 0, 30, .inl sd)), (h5, .inl (E 0, 30, .inl gm)), (h6, .inl (E 0, 36, .inl ca)), (g3, .inl (E 1, 30, .inl bz))]) := by
  refine Met.ofW (cc := cX7_bar) (maxL := 4) (ret := (some .int)) (by decide) rfl ?_
  intro p e s m args below meth c s₁ Bz hml hv
  obtain ⟨rfl, hP, hK, hD0⟩ := hv
  have hx := Bz.exec
  have hb := Bz.bytes
  have hr := Bz.returns
  have hts := atoms_spec (ws := wsX7_bar) Bz.pre
  have hown : s.vm.findClass RX7 = some m.cls := findClass_of_methodNamed Bz.named
  have hlocks := Bz.notSynchronized
  have hP : va_P D vwCl [(x0, .inr (5, [.ref g0, .ref xk, .ref xt, .ref xx, .ref xp, .int ik])), (g0, .inr (2, [.ref h0, .ref g1, .ref g2, .ref g3, .ref g4, .int (nI kd), .ref g5, .ref g6, .ref g7])), (h0, .inr (0, [.int (nI N), .ref h1, .ref h2, .ref h3, .ref h4, .ref h5, .ref h6])), (h1, .inl (E 0, 15, .inl hm)), (h2, .inl (E 0, 15, .inl aw)), (h3, .inl (E 0, 30, .inl rv)), (h4, .inl (E 0, 30, .inl sd)), (h5, .inl (E 0, 30, .inl gm)), (h6, .inl (E 0, 36, .inl ca)), (g3, .inl (E 1, 30, .inl bz))] s.heap := hP
  obtain ⟨A, hAe⟩ : ∃ A : Nat → Prop, A = zw_A [(x0, .inr (5, [.ref g0, .ref xk, .ref xt, .ref xx, .ref xp, .int ik])), (g0, .inr (2, [.ref h0, .ref g1, .ref g2, .ref g3, .ref g4, .int (nI kd), .ref g5, .ref g6, .ref g7])), (h0, .inr (0, [.int (nI N), .ref h1, .ref h2, .ref h3, .ref h4, .ref h5, .ref h6])), (h1, .inl (E 0, 15, .inl hm)), (h2, .inl (E 0, 15, .inl aw)), (h3, .inl (E 0, 30, .inl rv)), (h4, .inl (E 0, 30, .inl sd)), (h5, .inl (E 0, 30, .inl gm)), (h6, .inl (E 0, 36, .inl ca)), (g3, .inl (E 1, 30, .inl bz))] := ⟨_, rfl⟩
  have hD : va_D A [(x0, .inr (5, [.ref g0, .ref xk, .ref xt, .ref xx, .ref xp, .int ik])), (g0, .inr (2, [.ref h0, .ref g1, .ref g2, .ref g3, .ref g4, .int (nI kd), .ref g5, .ref g6, .ref g7])), (h0, .inr (0, [.int (nI N), .ref h1, .ref h2, .ref h3, .ref h4, .ref h5, .ref h6])), (h1, .inl (E 0, 15, .inl hm)), (h2, .inl (E 0, 15, .inl aw)), (h3, .inl (E 0, 30, .inl rv)), (h4, .inl (E 0, 30, .inl sd)), (h5, .inl (E 0, 30, .inl gm)), (h6, .inl (E 0, 36, .inl ca)), (g3, .inl (E 1, 30, .inl bz))] := hAe ▸ zw_own hD0
  have hS : va_S A s.heap s.heap [] := va_S.rf
  have hl := lv_entry ([.ref x0, .int v, .int w]) (n := 4) (Nat.le_of_ble_eq_true rfl)
  rw [lg_entry_eq]
  generalize (lg_sl ([.ref x0, .int v, .int w]) ++ List.replicate (4 - (lg_sl ([.ref x0, .int v, .int w])).length) Slot.unset).toArray = ls at hl ⊢
  have hl : lv_has ls 4 [(0, .ref x0), (1, .int v), (2, .int w)] := hl
  refine zr_nQ (fun Q hQ => ?_)
  have hN := hpl.1.1
  refine lv_aload_n hx hb dX7_bar_0 rfl (lv_at hl 0 rfl) ?_
  refine va_get (D := D) (ci := 5) (v := .ref g0) (C := RX7) (T := TX7) (N := 6) hx hb hts (by decide +kernel) hown hK.1 hP 0 rfl rfl 0 (by decide) (hts (.fieldLink RX7 12 "HomeRounds" "now" "LHomeRounds$Setting;") (by decide +kernel)) (fun _ h9 => h9) rfl dX7_bar_1 ?_
  refine va_get (D := D) (ci := 2) (v := .ref h0) (C := RX3) (T := TX3) (N := 9) hx hb hts (by decide +kernel) hown hK.1 hP 1 rfl rfl 0 (by decide) (hts (.fieldLink RX7 38 "HomeRounds$Setting" "plan" "LHomeRounds$Plan;") (by decide +kernel)) (fun _ h9 => h9) rfl dX7_bar_4 ?_
  refine lv_iload_n hx hb dX7_bar_7 rfl (lv_at hl 1 rfl) ?_
  refine lv_iload_n hx hb dX7_bar_8 rfl (lv_at hl 2 rfl) ?_
  refine zr_ci hP hS (va_runV (As := [.int v, .int w]) (rest := []) ⟨hx, hb, hml, hown, hts⟩ (c_X1_hasPlace l D E h0 h1 h2 h3 h4 h5 h6 N hm aw rv sd gm ca v w (hN)) (cwV 2 hts gX7_bar_X1_hasPlace rfl rfl rfl (by decide +kernel) ⟨Nat.le_of_ble_eq_true rfl, Nat.le_of_ble_eq_true rfl⟩) (zr_V hK (hP.sub (ws' := [(h0, .inr (0, [.int (nI N), .ref h1, .ref h2, .ref h3, .ref h4, .ref h5, .ref h6])), (h1, .inl (E 0, 15, .inl hm)), (h2, .inl (E 0, 15, .inl aw)), (h3, .inl (E 0, 30, .inl rv)), (h4, .inl (E 0, 30, .inl sd)), (h5, .inl (E 0, 30, .inl gm)), (h6, .inl (E 0, 36, .inl ca))]) [2, 3, 4, 5, 6, 7, 8] rfl) (ci := 0) (q0 := 0) rfl rfl) rfl rfl hl.1 rfl (lv_room (Nat.le_of_ble_eq_true rfl)) dX7_bar_9 ⟨Nat.zero_le _, Nat.zero_le _⟩) (fun r_1 H locs hw_2 hP hS => ?_)
  rcases hw_2 with ⟨rfl, hw_2⟩ | ⟨rfl, hw_2⟩
  · skip
    obtain ⟨⟨t, ht, v_e⟩, ⟨u, hu, w_e⟩⟩ := hw_2
    have e1 : zi N v = true := v_e ▸ zi_t ht (by omega)
    have q1 : zq v = t := v_e ▸ zq_t (by omega)
    rw [v_e] at hl
    have e2 : zi (N - 1) w = true := w_e ▸ zi_t hu (by omega)
    have q2 : zq w = u := w_e ▸ zq_t (by omega)
    rw [w_e] at hl
    have e0 : (zi N v && zi (N - 1) w) = true := by rw [e1, e2]; rfl
    refine zr_ti (y := nI 1) rfl ?_
    refine lv_if_ne (tgt := 17) hx hb dX7_bar_12 (by decide) (fun cn_3 => ?_) (fun cn_3 => ?_)
    · skip
      obtain ⟨hb1, hb2⟩ := hbz u t (by omega) (by omega)
      refine lv_iload_n hx hb dX7_bar_17 rfl (lv_at hl 1 rfl) ?_
      refine lv_iload_n hx hb dX7_bar_18 rfl (lv_at hl 2 rfl) ?_
      refine zr_ci hP hS (va_runS (As := [.int (nI t), .int (nI u)]) (rest := []) ⟨hx, hb, hml, hown, hts⟩ (c_X7_cellOf l D E t u (by omega) (by omega)) (va_cwS 2 hts gX7_bar_X7_cellOf rfl rfl rfl (by decide +kernel) ⟨Nat.le_of_ble_eq_true rfl, Nat.le_of_ble_eq_true rfl⟩) (zr_S hK (hP.sub (ws' := []) [] rfl)) rfl rfl hl.1 rfl (lv_room (Nat.le_of_ble_eq_true rfl)) dX7_bar_19 ⟨Nat.zero_le _, Nat.zero_le _⟩) (fun r_4 H locs hw_5 hP hS => ?_)
      subst hw_5
      refine lv_istore_n (lv' := [(3, .int (nI (u * 6 + t))), (0, .ref x0), (1, .int (nI t)), (2, .int (nI u))]) hx hb dX7_bar_22 rfl hl (by decide) rfl (fun ls hl => ?_)
      refine lv_aload_n hx hb dX7_bar_23 rfl (lv_at hl 1 rfl) ?_
      refine va_get (D := D) (ci := 5) (v := .ref g0) (C := RX7) (T := TX7) (N := 6) hx hb hts (by decide +kernel) hown hK.1 hP 0 rfl rfl 0 (by decide) (hts (.fieldLink RX7 12 "HomeRounds" "now" "LHomeRounds$Setting;") (by decide +kernel)) (fun _ h9 => h9) rfl dX7_bar_24 ?_
      refine va_get (D := D) (ci := 2) (v := .ref g3) (C := RX3) (T := TX3) (N := 9) hx hb hts (by decide +kernel) hown hK.1 hP 1 rfl rfl 3 (by decide) (hts (.fieldLink RX7 92 "HomeRounds$Setting" "bars" "[Z") (by decide +kernel)) (fun _ h9 => h9) rfl dX7_bar_27 ?_
      refine lv_iload_n hx hb dX7_bar_30 rfl (lv_at hl 0 rfl) ?_
      refine lv_aload_n hx hb dX7_bar_31 rfl (lv_at hl 1 rfl) ?_
      refine va_get (D := D) (ci := 5) (v := .ref g0) (C := RX7) (T := TX7) (N := 6) hx hb hts (by decide +kernel) hown hK.1 hP 0 rfl rfl 0 (by decide) (hts (.fieldLink RX7 12 "HomeRounds" "now" "LHomeRounds$Setting;") (by decide +kernel)) (fun _ h9 => h9) rfl dX7_bar_32 ?_
      refine va_get (D := D) (ci := 2) (v := .ref g3) (C := RX3) (T := TX3) (N := 9) hx hb hts (by decide +kernel) hown hK.1 hP 1 rfl rfl 3 (by decide) (hts (.fieldLink RX7 92 "HomeRounds$Setting" "bars" "[Z") (by decide +kernel)) (fun _ h9 => h9) rfl dX7_bar_35 ?_
      refine lv_iload_n hx hb dX7_bar_38 rfl (lv_at hl 0 rfl) ?_
      refine va_zald hx hb hK.1 hP 9 1 rfl rfl (vp_in_nI (by omega) (by omega)) dX7_bar_39 ?_
      refine zr_ti (y := nI (B t u)) ((congrArg bz (nI_clamp (by omega))).trans (hb2)) ?_
      refine lv_if_ne (tgt := 47) hx hb dX7_bar_40 (by decide) (fun cn_6 => ?_) (fun cn_6 => ?_)
      · skip
        have cn_6 : ¬ (B t u = 0) := fun hz => cn_6 ((nI_eq (a := B t u) (b := 0) (by omega) (by omega)).mpr hz)
        have hx1 : 0 = 1 - B t u := by omega
        refine lv_iconst (v := nI 0) hx hb dX7_bar_47 (by rfl) ?_
        refine va_zast hx hb hK.1 hP hD hS 9 1 rfl rfl (vp_in_nI (by omega) (by omega)) dX7_bar_48 (fun H locs hP hD hS => ?_)
        have hP : va_P D vwCl [(x0, .inr (5, [.ref g0, .ref xk, .ref xt, .ref xx, .ref xp, .int ik])), (g0, .inr (2, [.ref h0, .ref g1, .ref g2, .ref g3, .ref g4, .int (nI kd), .ref g5, .ref g6, .ref g7])), (h0, .inr (0, [.int (nI N), .ref h1, .ref h2, .ref h3, .ref h4, .ref h5, .ref h6])), (h1, .inl (E 0, 15, .inl hm)), (h2, .inl (E 0, 15, .inl aw)), (h3, .inl (E 0, 30, .inl rv)), (h4, .inl (E 0, 30, .inl sd)), (h5, .inl (E 0, 30, .inl gm)), (h6, .inl (E 0, 36, .inl ca)), (g3, .inl (E 1, 30, .inl (upd bz (nI (u * 6 + t)).toNatClampNeg (vp_nar .boolean (nI 0)))))] H := hP
        have hD : va_D A [(x0, .inr (5, [.ref g0, .ref xk, .ref xt, .ref xx, .ref xp, .int ik])), (g0, .inr (2, [.ref h0, .ref g1, .ref g2, .ref g3, .ref g4, .int (nI kd), .ref g5, .ref g6, .ref g7])), (h0, .inr (0, [.int (nI N), .ref h1, .ref h2, .ref h3, .ref h4, .ref h5, .ref h6])), (h1, .inl (E 0, 15, .inl hm)), (h2, .inl (E 0, 15, .inl aw)), (h3, .inl (E 0, 30, .inl rv)), (h4, .inl (E 0, 30, .inl sd)), (h5, .inl (E 0, 30, .inl gm)), (h6, .inl (E 0, 36, .inl ca)), (g3, .inl (E 1, 30, .inl (upd bz (nI (u * 6 + t)).toNatClampNeg (vp_nar .boolean (nI 0)))))] := hD
        have hcz : (upd bz (nI (u * 6 + t)).toNatClampNeg (vp_nar .boolean (nI 0))) = (upd bz (u * 6 + t) (nI 0)) := by rw [nI_clamp (n := u * 6 + t) (by omega), show vp_nar .boolean (nI 0) = nI 0 from rfl]
        rw [hcz] at hP hD
        refine lv_aload_n hx hb dX7_bar_49 rfl (lv_at hl 1 rfl) ?_
        refine va_get (D := D) (ci := 5) (v := .ref g0) (C := RX7) (T := TX7) (N := 6) hx hb hts (by decide +kernel) hown hK.1 hP 0 rfl rfl 0 (by decide) (hts (.fieldLink RX7 12 "HomeRounds" "now" "LHomeRounds$Setting;") (by decide +kernel)) (fun _ h9 => h9) rfl dX7_bar_50 ?_
        refine va_get (D := D) (ci := 2) (v := .ref g3) (C := RX3) (T := TX3) (N := 9) hx hb hts (by decide +kernel) hown hK.1 hP 1 rfl rfl 3 (by decide) (hts (.fieldLink RX7 92 "HomeRounds$Setting" "bars" "[Z") (by decide +kernel)) (fun _ h9 => h9) rfl dX7_bar_53 ?_
        refine lv_iload_n hx hb dX7_bar_56 rfl (lv_at hl 0 rfl) ?_
        refine va_zald hx hb hK.1 hP 9 1 rfl rfl (vp_in_nI (by omega) (by omega)) dX7_bar_57 ?_
        refine zr_ti (y := nI 0) ((congrArg (upd bz (u * 6 + t) (nI 0)) (nI_clamp (by omega))).trans (zn_ue)) ?_
        refine lv_if_eq (tgt := 65) hx hb dX7_bar_58 (by decide) (fun cn_7 => ?_) (fun cn_7 => ?_)
        · skip
          refine lv_iconst (v := nI 0) hx hb dX7_bar_65 (by rfl) ?_
          subst hQ; subst hAe
          exact W.iret (v := nI 0) hx hb hr (fun tz htz hWz => ⟨⟨nI 0, (upd bz (u * 6 + t) (nI 0)), rfl, ⟨by simp only [cond_true, e0, q1, q2]; exact congrArg nI hx1, by simp only [cond_true, cond_false, Bool.and_true, Bool.and_false, Bool.true_and, Bool.false_and, e0, q1, q2]; exact zm_bz_fl hbz (by omega) (by omega) hx1⟩, by rw [htz]; exact hP, hD⟩, hS.F htz⟩) hS.2.2 dX7_bar_66
        · skip
          exact absurd cn_7 (by decide)
      · skip
        have cn_6 : B t u = 0 := (nI_eq (a := B t u) (b := 0) (by omega) (by omega)).mp cn_6
        have hx1 : 1 = 1 - B t u := by omega
        refine lv_iconst (v := nI 1) hx hb dX7_bar_43 (by rfl) ?_
        refine lv_goto (tgt := 48) hx hb dX7_bar_44 (by decide) ?_
        refine va_zast hx hb hK.1 hP hD hS 9 1 rfl rfl (vp_in_nI (by omega) (by omega)) dX7_bar_48 (fun H locs hP hD hS => ?_)
        have hP : va_P D vwCl [(x0, .inr (5, [.ref g0, .ref xk, .ref xt, .ref xx, .ref xp, .int ik])), (g0, .inr (2, [.ref h0, .ref g1, .ref g2, .ref g3, .ref g4, .int (nI kd), .ref g5, .ref g6, .ref g7])), (h0, .inr (0, [.int (nI N), .ref h1, .ref h2, .ref h3, .ref h4, .ref h5, .ref h6])), (h1, .inl (E 0, 15, .inl hm)), (h2, .inl (E 0, 15, .inl aw)), (h3, .inl (E 0, 30, .inl rv)), (h4, .inl (E 0, 30, .inl sd)), (h5, .inl (E 0, 30, .inl gm)), (h6, .inl (E 0, 36, .inl ca)), (g3, .inl (E 1, 30, .inl (upd bz (nI (u * 6 + t)).toNatClampNeg (vp_nar .boolean (nI 1)))))] H := hP
        have hD : va_D A [(x0, .inr (5, [.ref g0, .ref xk, .ref xt, .ref xx, .ref xp, .int ik])), (g0, .inr (2, [.ref h0, .ref g1, .ref g2, .ref g3, .ref g4, .int (nI kd), .ref g5, .ref g6, .ref g7])), (h0, .inr (0, [.int (nI N), .ref h1, .ref h2, .ref h3, .ref h4, .ref h5, .ref h6])), (h1, .inl (E 0, 15, .inl hm)), (h2, .inl (E 0, 15, .inl aw)), (h3, .inl (E 0, 30, .inl rv)), (h4, .inl (E 0, 30, .inl sd)), (h5, .inl (E 0, 30, .inl gm)), (h6, .inl (E 0, 36, .inl ca)), (g3, .inl (E 1, 30, .inl (upd bz (nI (u * 6 + t)).toNatClampNeg (vp_nar .boolean (nI 1)))))] := hD
        have hcz : (upd bz (nI (u * 6 + t)).toNatClampNeg (vp_nar .boolean (nI 1))) = (upd bz (u * 6 + t) (nI 1)) := by rw [nI_clamp (n := u * 6 + t) (by omega), show vp_nar .boolean (nI 1) = nI 1 from rfl]
        rw [hcz] at hP hD
        refine lv_aload_n hx hb dX7_bar_49 rfl (lv_at hl 1 rfl) ?_
        refine va_get (D := D) (ci := 5) (v := .ref g0) (C := RX7) (T := TX7) (N := 6) hx hb hts (by decide +kernel) hown hK.1 hP 0 rfl rfl 0 (by decide) (hts (.fieldLink RX7 12 "HomeRounds" "now" "LHomeRounds$Setting;") (by decide +kernel)) (fun _ h9 => h9) rfl dX7_bar_50 ?_
        refine va_get (D := D) (ci := 2) (v := .ref g3) (C := RX3) (T := TX3) (N := 9) hx hb hts (by decide +kernel) hown hK.1 hP 1 rfl rfl 3 (by decide) (hts (.fieldLink RX7 92 "HomeRounds$Setting" "bars" "[Z") (by decide +kernel)) (fun _ h9 => h9) rfl dX7_bar_53 ?_
        refine lv_iload_n hx hb dX7_bar_56 rfl (lv_at hl 0 rfl) ?_
        refine va_zald hx hb hK.1 hP 9 1 rfl rfl (vp_in_nI (by omega) (by omega)) dX7_bar_57 ?_
        refine zr_ti (y := nI 1) ((congrArg (upd bz (u * 6 + t) (nI 1)) (nI_clamp (by omega))).trans (zn_ue)) ?_
        refine lv_if_eq (tgt := 65) hx hb dX7_bar_58 (by decide) (fun cn_8 => ?_) (fun cn_8 => ?_)
        · skip
          exact absurd cn_8 (by decide)
        · skip
          refine lv_iconst (v := nI 1) hx hb dX7_bar_61 (by rfl) ?_
          refine lv_goto (tgt := 66) hx hb dX7_bar_62 (by decide) ?_
          subst hQ; subst hAe
          exact W.iret (v := nI 1) hx hb hr (fun tz htz hWz => ⟨⟨nI 1, (upd bz (u * 6 + t) (nI 1)), rfl, ⟨by simp only [cond_true, e0, q1, q2]; exact congrArg nI hx1, by simp only [cond_true, cond_false, Bool.and_true, Bool.and_false, Bool.true_and, Bool.false_and, e0, q1, q2]; exact zm_bz_fl hbz (by omega) (by omega) hx1⟩, by rw [htz]; exact hP, hD⟩, hS.F htz⟩) hS.2.2 dX7_bar_66
    · skip
      exact absurd cn_3 (by decide)
  · skip
    have e0 : (zi N v && zi (N - 1) w) = false := zi_f2 hw_2
    refine zr_ti (y := nI 0) rfl ?_
    refine lv_if_ne (tgt := 17) hx hb dX7_bar_12 (by decide) (fun cn_9 => ?_) (fun cn_9 => ?_)
    · skip
      exact absurd cn_9 (by decide)
    · skip
      refine lv_iconst (v := (-1)) hx hb dX7_bar_15 (by rfl) ?_
      subst hQ; subst hAe
      exact W.iret (v := (-1)) hx hb hr (fun tz htz hWz => ⟨⟨(-1), bz, rfl, ⟨by simp only [cond_true, cond_false, Bool.and_true, Bool.and_false, Bool.true_and, Bool.false_and, e0], by simp only [cond_true, cond_false, Bool.and_true, Bool.and_false, Bool.true_and, Bool.false_and, e0]; exact hbz⟩, by rw [htz]; exact hP, hD⟩, hS.F htz⟩) hS.2.2 dX7_bar_16

set_option maxHeartbeats 4000000 in
set_option maxRecDepth 100000 in
theorem c_X7_rate (l : Launch) (D : va_G) (E : Nat → ClassId) (x0 : Nat) (xk : Nat) (xt : Nat) (xx : Nat) (xp : Nat) (ik : Int32) (g0 : Nat) (g1 : Nat) (g2 : Nat) (g3 : Nat) (g4 : Nat) (g5 : Nat) (g6 : Nat) (g7 : Nat) (kd : Nat) (h0 : Nat) (h1 : Nat) (h2 : Nat) (h3 : Nat) (h4 : Nat) (h5 : Nat) (h6 : Nat) (N : Nat) (hm : Nat → Int32) (aw : Nat → Int32) (rv : Nat → Int32) (sd : Nat → Int32) (gm : Nat → Int32) (ca : Nat → Int32) (G : Nat → Nat → Nat) (P : Nat → Nat → Nat) (rt : Nat → Int32) (R : Nat → Nat) (v : Int32) (w : Int32) (hpl : zm_pl N G P hm aw rv sd gm) (hrt : zm_rt R rt) : Met l yX7_rate wsX7_rate ({ frames := 4, cells := 0, slots := 0, locals := 96 }) (zw_P D E [.ref x0, .int v, .int w] [(x0, .inr (5, [.ref g0, .ref xk, .ref xt, .ref xx, .ref xp, .int ik])), (g0, .inr (2, [.ref h0, .ref g1, .ref g2, .ref g3, .ref g4, .int (nI kd), .ref g5, .ref g6, .ref g7])), (h0, .inr (0, [.int (nI N), .ref h1, .ref h2, .ref h3, .ref h4, .ref h5, .ref h6])), (h1, .inl (E 0, 15, .inl hm)), (h2, .inl (E 0, 15, .inl aw)), (h3, .inl (E 0, 30, .inl rv)), (h4, .inl (E 0, 30, .inl sd)), (h5, .inl (E 0, 30, .inl gm)), (h6, .inl (E 0, 36, .inl ca)), (g4, .inl (E 0, 4, .inl rt))]) (zw_Qi D [(x0, .inr (5, [.ref g0, .ref xk, .ref xt, .ref xx, .ref xp, .int ik])), (g0, .inr (2, [.ref h0, .ref g1, .ref g2, .ref g3, .ref g4, .int (nI kd), .ref g5, .ref g6, .ref g7])), (h0, .inr (0, [.int (nI N), .ref h1, .ref h2, .ref h3, .ref h4, .ref h5, .ref h6])), (h1, .inl (E 0, 15, .inl hm)), (h2, .inl (E 0, 15, .inl aw)), (h3, .inl (E 0, 30, .inl rv)), (h4, .inl (E 0, 30, .inl sd)), (h5, .inl (E 0, 30, .inl gm)), (h6, .inl (E 0, 36, .inl ca)), (g4, .inl (E 0, 4, .inl rt))] (fun zv (u : (Nat → Int32)) => zv = cond (zi 4 v) (cond (zi 100 w) (nI (R (zq v))) (-2)) (-1) ∧ zm_rt (cond (zi 4 v && zi 100 w) (zm_up R (zq v) (zq w)) R) u) (fun (u : (Nat → Int32)) => [(x0, .inr (5, [.ref g0, .ref xk, .ref xt, .ref xx, .ref xp, .int ik])), (g0, .inr (2, [.ref h0, .ref g1, .ref g2, .ref g3, .ref g4, .int (nI kd), .ref g5, .ref g6, .ref g7])), (h0, .inr (0, [.int (nI N), .ref h1, .ref h2, .ref h3, .ref h4, .ref h5, .ref h6])), (h1, .inl (E 0, 15, .inl hm)), (h2, .inl (E 0, 15, .inl aw)), (h3, .inl (E 0, 30, .inl rv)), (h4, .inl (E 0, 30, .inl sd)), (h5, .inl (E 0, 30, .inl gm)), (h6, .inl (E 0, 36, .inl ca)), (g4, .inl (E 0, 4, .inl u))])) 0 0 (zw_A [(x0, .inr (5, [.ref g0, .ref xk, .ref xt, .ref xx, .ref xp, .int ik])), (g0, .inr (2, [.ref h0, .ref g1, .ref g2, .ref g3, .ref g4, .int (nI kd), .ref g5, .ref g6, .ref g7])), (h0, .inr (0, [.int (nI N), .ref h1, .ref h2, .ref h3, .ref h4, .ref h5, .ref h6])), (h1, .inl (E 0, 15, .inl hm)), (h2, .inl (E 0, 15, .inl aw)), (h3, .inl (E 0, 30, .inl rv)), (h4, .inl (E 0, 30, .inl sd)), (h5, .inl (E 0, 30, .inl gm)), (h6, .inl (E 0, 36, .inl ca)), (g4, .inl (E 0, 4, .inl rt))]) := by
  refine Met.ofW (cc := cX7_rate) (maxL := 4) (ret := (some .int)) (by decide) rfl ?_
  intro p e s m args below meth c s₁ Bz hml hv
  obtain ⟨rfl, hP, hK, hD0⟩ := hv
  have hx := Bz.exec
  have hb := Bz.bytes
  have hr := Bz.returns
  have hts := atoms_spec (ws := wsX7_rate) Bz.pre
  have hown : s.vm.findClass RX7 = some m.cls := findClass_of_methodNamed Bz.named
  have hlocks := Bz.notSynchronized
  have hP : va_P D vwCl [(x0, .inr (5, [.ref g0, .ref xk, .ref xt, .ref xx, .ref xp, .int ik])), (g0, .inr (2, [.ref h0, .ref g1, .ref g2, .ref g3, .ref g4, .int (nI kd), .ref g5, .ref g6, .ref g7])), (h0, .inr (0, [.int (nI N), .ref h1, .ref h2, .ref h3, .ref h4, .ref h5, .ref h6])), (h1, .inl (E 0, 15, .inl hm)), (h2, .inl (E 0, 15, .inl aw)), (h3, .inl (E 0, 30, .inl rv)), (h4, .inl (E 0, 30, .inl sd)), (h5, .inl (E 0, 30, .inl gm)), (h6, .inl (E 0, 36, .inl ca)), (g4, .inl (E 0, 4, .inl rt))] s.heap := hP
  obtain ⟨A, hAe⟩ : ∃ A : Nat → Prop, A = zw_A [(x0, .inr (5, [.ref g0, .ref xk, .ref xt, .ref xx, .ref xp, .int ik])), (g0, .inr (2, [.ref h0, .ref g1, .ref g2, .ref g3, .ref g4, .int (nI kd), .ref g5, .ref g6, .ref g7])), (h0, .inr (0, [.int (nI N), .ref h1, .ref h2, .ref h3, .ref h4, .ref h5, .ref h6])), (h1, .inl (E 0, 15, .inl hm)), (h2, .inl (E 0, 15, .inl aw)), (h3, .inl (E 0, 30, .inl rv)), (h4, .inl (E 0, 30, .inl sd)), (h5, .inl (E 0, 30, .inl gm)), (h6, .inl (E 0, 36, .inl ca)), (g4, .inl (E 0, 4, .inl rt))] := ⟨_, rfl⟩
  have hD : va_D A [(x0, .inr (5, [.ref g0, .ref xk, .ref xt, .ref xx, .ref xp, .int ik])), (g0, .inr (2, [.ref h0, .ref g1, .ref g2, .ref g3, .ref g4, .int (nI kd), .ref g5, .ref g6, .ref g7])), (h0, .inr (0, [.int (nI N), .ref h1, .ref h2, .ref h3, .ref h4, .ref h5, .ref h6])), (h1, .inl (E 0, 15, .inl hm)), (h2, .inl (E 0, 15, .inl aw)), (h3, .inl (E 0, 30, .inl rv)), (h4, .inl (E 0, 30, .inl sd)), (h5, .inl (E 0, 30, .inl gm)), (h6, .inl (E 0, 36, .inl ca)), (g4, .inl (E 0, 4, .inl rt))] := hAe ▸ zw_own hD0
  have hS : va_S A s.heap s.heap [] := va_S.rf
  have hl := lv_entry ([.ref x0, .int v, .int w]) (n := 4) (Nat.le_of_ble_eq_true rfl)
  rw [lg_entry_eq]
  generalize (lg_sl ([.ref x0, .int v, .int w]) ++ List.replicate (4 - (lg_sl ([.ref x0, .int v, .int w])).length) Slot.unset).toArray = ls at hl ⊢
  have hl : lv_has ls 4 [(0, .ref x0), (1, .int v), (2, .int w)] := hl
  refine zr_nQ (fun Q hQ => ?_)
  have hN := hpl.1.1
  refine lv_iload_n hx hb dX7_rate_0 rfl (lv_at hl 1 rfl) ?_
  refine zr_ci hP hS (va_runS (As := [.int v]) (rest := []) ⟨hx, hb, hml, hown, hts⟩ (c_X7_isRate l D E v ) (va_cwS 1 hts gX7_rate_X7_isRate rfl rfl rfl (by decide +kernel) ⟨Nat.le_of_ble_eq_true rfl, Nat.le_of_ble_eq_true rfl⟩) (zr_S hK (hP.sub (ws' := []) [] rfl)) rfl rfl hl.1 rfl (lv_room (Nat.le_of_ble_eq_true rfl)) dX7_rate_1 ⟨Nat.zero_le _, Nat.zero_le _⟩) (fun r_1 H locs hw_2 hP hS => ?_)
  rcases hw_2 with ⟨rfl, hw_2⟩ | ⟨rfl, hw_2⟩
  · skip
    obtain ⟨t, ht, v_e⟩ := hw_2
    have e1 : zi 4 v = true := v_e ▸ zi_t ht (by omega)
    have q1 : zq v = t := v_e ▸ zq_t (by omega)
    rw [v_e] at hl
    refine zr_ti (y := nI 1) rfl ?_
    refine lv_if_ne (tgt := 9) hx hb dX7_rate_4 (by decide) (fun cn_3 => ?_) (fun cn_3 => ?_)
    · skip
      refine lv_iload_n hx hb dX7_rate_9 rfl (lv_at hl 2 rfl) ?_
      refine zr_ci hP hS (va_runS (As := [.int w]) (rest := []) ⟨hx, hb, hml, hown, hts⟩ (c_X7_isNumber l D E w ) (va_cwS 1 hts gX7_rate_X7_isNumber rfl rfl rfl (by decide +kernel) ⟨Nat.le_of_ble_eq_true rfl, Nat.le_of_ble_eq_true rfl⟩) (zr_S hK (hP.sub (ws' := []) [] rfl)) rfl rfl hl.1 rfl (lv_room (Nat.le_of_ble_eq_true rfl)) dX7_rate_10 ⟨Nat.zero_le _, Nat.zero_le _⟩) (fun r_4 H locs hw_5 hP hS => ?_)
      rcases hw_5 with ⟨rfl, hw_5⟩ | ⟨rfl, hw_5⟩
      · skip
        obtain ⟨u, hu, w_e⟩ := hw_5
        have e2 : zi 100 w = true := w_e ▸ zi_t hu (by omega)
        have q2 : zq w = u := w_e ▸ zq_t (by omega)
        rw [w_e] at hl
        refine zr_ti (y := nI 1) rfl ?_
        refine lv_if_ne (tgt := 19) hx hb dX7_rate_13 (by decide) (fun cn_6 => ?_) (fun cn_6 => ?_)
        · skip
          obtain ⟨hR1, hR2⟩ := hrt t (by omega)
          refine lv_aload_n hx hb dX7_rate_19 rfl (lv_at hl 0 rfl) ?_
          refine va_get (D := D) (ci := 5) (v := .ref g0) (C := RX7) (T := TX7) (N := 6) hx hb hts (by decide +kernel) hown hK.1 hP 0 rfl rfl 0 (by decide) (hts (.fieldLink RX7 12 "HomeRounds" "now" "LHomeRounds$Setting;") (by decide +kernel)) (fun _ h9 => h9) rfl dX7_rate_20 ?_
          refine va_get (D := D) (ci := 2) (v := .ref g4) (C := RX3) (T := TX3) (N := 9) hx hb hts (by decide +kernel) hown hK.1 hP 1 rfl rfl 4 (by decide) (hts (.fieldLink RX7 99 "HomeRounds$Setting" "rates" "[I") (by decide +kernel)) (fun _ h9 => h9) rfl dX7_rate_23 ?_
          refine lv_iload_n hx hb dX7_rate_26 rfl (lv_at hl 1 rfl) ?_
          refine va_iald hx hb hK.1 hP 9 0 rfl rfl (vp_in_nI (by omega) (by omega)) dX7_rate_27 ?_
          refine zr_ti (y := nI (R t)) ((congrArg rt (nI_clamp (by omega))).trans (hR2)) ?_
          refine lv_istore_n (lv' := [(3, .int (nI (R t))), (0, .ref x0), (1, .int (nI t)), (2, .int (nI u))]) hx hb dX7_rate_28 rfl hl (by decide) rfl (fun ls hl => ?_)
          refine lv_aload_n hx hb dX7_rate_29 rfl (lv_at hl 1 rfl) ?_
          refine va_get (D := D) (ci := 5) (v := .ref g0) (C := RX7) (T := TX7) (N := 6) hx hb hts (by decide +kernel) hown hK.1 hP 0 rfl rfl 0 (by decide) (hts (.fieldLink RX7 12 "HomeRounds" "now" "LHomeRounds$Setting;") (by decide +kernel)) (fun _ h9 => h9) rfl dX7_rate_30 ?_
          refine lv_iconst (v := nI 3) hx hb dX7_rate_33 (by rfl) ?_
          refine lv_iload_n hx hb dX7_rate_34 rfl (lv_at hl 2 rfl) ?_
          refine lv_iload_n hx hb dX7_rate_35 rfl (lv_at hl 3 rfl) ?_
          have hPc := hP.sub (ws' := [(g0, .inr (2, [.ref h0, .ref g1, .ref g2, .ref g3, .ref g4, .int (nI kd), .ref g5, .ref g6, .ref g7])), (g4, .inl (E 0, 4, .inl rt))]) [1, 9] rfl
          have hDc := hD.sub (ws' := [(g0, .inr (2, [.ref h0, .ref g1, .ref g2, .ref g3, .ref g4, .int (nI kd), .ref g5, .ref g6, .ref g7])), (g4, .inl (E 0, 4, .inl rt))]) [1, 9] (by decide +kernel) rfl
          have hAc := zw_AA (wc := [(g0, .inr (2, [.ref h0, .ref g1, .ref g2, .ref g3, .ref g4, .int (nI kd), .ref g5, .ref g6, .ref g7])), (g4, .inl (E 0, 4, .inl rt))]) hD [1, 9] rfl
          refine zw_cv hAc hS (va_runV (As := [.int (nI 3), .int (nI t), .int (nI u)]) (rest := []) ⟨hx, hb, hml, hown, hts⟩ (c_X3_change_3 l D E g0 g1 g2 g3 g4 g5 g6 g7 kd h0 rt t u (by omega)) (cwV 3 hts gX7_rate_X3_change rfl rfl rfl (by decide +kernel) ⟨Nat.le_of_ble_eq_true rfl, Nat.le_of_ble_eq_true rfl⟩) (zw_V hK hPc hDc (ci := 2) (q0 := 0) rfl rfl) rfl rfl hl.1 rfl (lv_room (Nat.le_of_ble_eq_true rfl)) dX7_rate_36 ⟨Nat.zero_le _, Nat.zero_le _⟩) (fun u_9 H locs hw_8 hP1 hD1 hk1 hS => ?_)
          obtain ⟨hP, hD⟩ := zw_join (wr := [(x0, .inr (5, [.ref g0, .ref xk, .ref xt, .ref xx, .ref xp, .int ik])), (h0, .inr (0, [.int (nI N), .ref h1, .ref h2, .ref h3, .ref h4, .ref h5, .ref h6])), (h1, .inl (E 0, 15, .inl hm)), (h2, .inl (E 0, 15, .inl aw)), (h3, .inl (E 0, 30, .inl rv)), (h4, .inl (E 0, 30, .inl sd)), (h5, .inl (E 0, 30, .inl gm)), (h6, .inl (E 0, 36, .inl ca))]) (w1 := [(g0, .inr (2, [.ref h0, .ref g1, .ref g2, .ref g3, .ref g4, .int (nI kd), .ref g5, .ref g6, .ref g7])), (g4, .inl (E 0, 4, .inl (upd rt t (nI u))))]) (ws' := [(x0, .inr (5, [.ref g0, .ref xk, .ref xt, .ref xx, .ref xp, .int ik])), (g0, .inr (2, [.ref h0, .ref g1, .ref g2, .ref g3, .ref g4, .int (nI kd), .ref g5, .ref g6, .ref g7])), (h0, .inr (0, [.int (nI N), .ref h1, .ref h2, .ref h3, .ref h4, .ref h5, .ref h6])), (h1, .inl (E 0, 15, .inl hm)), (h2, .inl (E 0, 15, .inl aw)), (h3, .inl (E 0, 30, .inl rv)), (h4, .inl (E 0, 30, .inl sd)), (h5, .inl (E 0, 30, .inl gm)), (h6, .inl (E 0, 36, .inl ca)), (g4, .inl (E 0, 4, .inl (upd rt t (nI u))))]) hP hD [1, 9] [0, 2, 3, 4, 5, 6, 7, 8] [0, 8, 1, 2, 3, 4, 5, 6, 7, 9] rfl rfl (by decide +kernel) (by decide +kernel) hAc hk1 hP1 hD1 (by decide +kernel) rfl
          clear hP1 hD1 hk1 hPc hDc hAc
          refine lv_iload_n hx hb dX7_rate_39 rfl (lv_at hl 0 rfl) ?_
          subst hQ; subst hAe
          exact W.iret (v := nI (R t)) hx hb hr (fun tz htz hWz => ⟨⟨nI (R t), upd rt t (nI u), rfl, ⟨by simp only [cond_true, cond_false, Bool.and_true, Bool.and_false, Bool.true_and, Bool.false_and, e1, e2, q1], by simp only [cond_true, cond_false, Bool.and_true, Bool.and_false, Bool.true_and, Bool.false_and, e1, e2, q1, q2]; exact zm_rt_up hrt (by omega)⟩, by rw [htz]; exact hP, hD⟩, hS.F htz⟩) hS.2.2 dX7_rate_40
        · skip
          exact absurd cn_6 (by decide)
      · skip
        have e2 : zi 100 w = false := zi_f hw_5
        refine zr_ti (y := nI 0) rfl ?_
        refine lv_if_ne (tgt := 19) hx hb dX7_rate_13 (by decide) (fun cn_10 => ?_) (fun cn_10 => ?_)
        · skip
          exact absurd cn_10 (by decide)
        · skip
          refine lv_bipush (v := (-2)) hx hb dX7_rate_16 (by rfl) ?_
          subst hQ; subst hAe
          exact W.iret (v := (-2)) hx hb hr (fun tz htz hWz => ⟨⟨(-2), rt, rfl, ⟨by simp only [cond_true, cond_false, Bool.and_true, Bool.and_false, Bool.true_and, Bool.false_and, e1, e2], by simp only [cond_true, cond_false, Bool.and_true, Bool.and_false, Bool.true_and, Bool.false_and, e1, e2]; exact hrt⟩, by rw [htz]; exact hP, hD⟩, hS.F htz⟩) hS.2.2 dX7_rate_18
    · skip
      exact absurd cn_3 (by decide)
  · skip
    have e1 : zi 4 v = false := zi_f hw_2
    refine zr_ti (y := nI 0) rfl ?_
    refine lv_if_ne (tgt := 9) hx hb dX7_rate_4 (by decide) (fun cn_11 => ?_) (fun cn_11 => ?_)
    · skip
      exact absurd cn_11 (by decide)
    · skip
      refine lv_iconst (v := (-1)) hx hb dX7_rate_7 (by rfl) ?_
      subst hQ; subst hAe
      exact W.iret (v := (-1)) hx hb hr (fun tz htz hWz => ⟨⟨(-1), rt, rfl, ⟨by simp only [cond_true, cond_false, Bool.and_true, Bool.and_false, Bool.true_and, Bool.false_and, e1], by simp only [cond_true, cond_false, Bool.and_true, Bool.and_false, Bool.true_and, Bool.false_and, e1]; exact hrt⟩, by rw [htz]; exact hP, hD⟩, hS.F htz⟩) hS.2.2 dX7_rate_8

set_option maxHeartbeats 4000000 in
set_option maxRecDepth 100000 in
theorem c_X7_kind (l : Launch) (D : va_G) (E : Nat → ClassId) (x0 : Nat) (xk : Nat) (xt : Nat) (xx : Nat) (xp : Nat) (ik : Int32) (g0 : Nat) (g1 : Nat) (g2 : Nat) (g3 : Nat) (g4 : Nat) (g5 : Nat) (g6 : Nat) (g7 : Nat) (kd : Nat) (h0 : Nat) (h1 : Nat) (h2 : Nat) (h3 : Nat) (h4 : Nat) (h5 : Nat) (h6 : Nat) (N : Nat) (hm : Nat → Int32) (aw : Nat → Int32) (rv : Nat → Int32) (sd : Nat → Int32) (gm : Nat → Int32) (ca : Nat → Int32) (G : Nat → Nat → Nat) (P : Nat → Nat → Nat) (v : Int32) (hpl : zm_pl N G P hm aw rv sd gm) : Met l yX7_kind wsX7_kind ({ frames := 0, cells := 0, slots := 0, locals := 0 }) (zw_P D E [.ref x0, .int v] [(x0, .inr (5, [.ref g0, .ref xk, .ref xt, .ref xx, .ref xp, .int ik])), (g0, .inr (2, [.ref h0, .ref g1, .ref g2, .ref g3, .ref g4, .int (nI kd), .ref g5, .ref g6, .ref g7])), (h0, .inr (0, [.int (nI N), .ref h1, .ref h2, .ref h3, .ref h4, .ref h5, .ref h6])), (h1, .inl (E 0, 15, .inl hm)), (h2, .inl (E 0, 15, .inl aw)), (h3, .inl (E 0, 30, .inl rv)), (h4, .inl (E 0, 30, .inl sd)), (h5, .inl (E 0, 30, .inl gm)), (h6, .inl (E 0, 36, .inl ca))]) (zw_Qi D [(x0, .inr (5, [.ref g0, .ref xk, .ref xt, .ref xx, .ref xp, .int ik])), (g0, .inr (2, [.ref h0, .ref g1, .ref g2, .ref g3, .ref g4, .int (nI kd), .ref g5, .ref g6, .ref g7])), (h0, .inr (0, [.int (nI N), .ref h1, .ref h2, .ref h3, .ref h4, .ref h5, .ref h6])), (h1, .inl (E 0, 15, .inl hm)), (h2, .inl (E 0, 15, .inl aw)), (h3, .inl (E 0, 30, .inl rv)), (h4, .inl (E 0, 30, .inl sd)), (h5, .inl (E 0, 30, .inl gm)), (h6, .inl (E 0, 36, .inl ca))] (fun zv (u : (Nat)) => zv = cond (zi 3 v) (nI kd) (-2) ∧ u = cond (zi 3 v) (zq v) kd) (fun (u : (Nat)) => [(x0, .inr (5, [.ref g0, .ref xk, .ref xt, .ref xx, .ref xp, .int ik])), (g0, .inr (2, [.ref h0, .ref g1, .ref g2, .ref g3, .ref g4, .int (nI u), .ref g5, .ref g6, .ref g7])), (h0, .inr (0, [.int (nI N), .ref h1, .ref h2, .ref h3, .ref h4, .ref h5, .ref h6])), (h1, .inl (E 0, 15, .inl hm)), (h2, .inl (E 0, 15, .inl aw)), (h3, .inl (E 0, 30, .inl rv)), (h4, .inl (E 0, 30, .inl sd)), (h5, .inl (E 0, 30, .inl gm)), (h6, .inl (E 0, 36, .inl ca))])) 0 0 (zw_A [(x0, .inr (5, [.ref g0, .ref xk, .ref xt, .ref xx, .ref xp, .int ik])), (g0, .inr (2, [.ref h0, .ref g1, .ref g2, .ref g3, .ref g4, .int (nI kd), .ref g5, .ref g6, .ref g7])), (h0, .inr (0, [.int (nI N), .ref h1, .ref h2, .ref h3, .ref h4, .ref h5, .ref h6])), (h1, .inl (E 0, 15, .inl hm)), (h2, .inl (E 0, 15, .inl aw)), (h3, .inl (E 0, 30, .inl rv)), (h4, .inl (E 0, 30, .inl sd)), (h5, .inl (E 0, 30, .inl gm)), (h6, .inl (E 0, 36, .inl ca))]) := by
  refine Met.ofW (cc := cX7_kind) (maxL := 3) (ret := (some .int)) (by decide) rfl ?_
  intro p e s m args below meth c s₁ Bz hml hv
  obtain ⟨rfl, hP, hK, hD0⟩ := hv
  have hx := Bz.exec
  have hb := Bz.bytes
  have hr := Bz.returns
  have hts := atoms_spec (ws := wsX7_kind) Bz.pre
  have hown : s.vm.findClass RX7 = some m.cls := findClass_of_methodNamed Bz.named
  have hlocks := Bz.notSynchronized
  have hP : va_P D vwCl [(x0, .inr (5, [.ref g0, .ref xk, .ref xt, .ref xx, .ref xp, .int ik])), (g0, .inr (2, [.ref h0, .ref g1, .ref g2, .ref g3, .ref g4, .int (nI kd), .ref g5, .ref g6, .ref g7])), (h0, .inr (0, [.int (nI N), .ref h1, .ref h2, .ref h3, .ref h4, .ref h5, .ref h6])), (h1, .inl (E 0, 15, .inl hm)), (h2, .inl (E 0, 15, .inl aw)), (h3, .inl (E 0, 30, .inl rv)), (h4, .inl (E 0, 30, .inl sd)), (h5, .inl (E 0, 30, .inl gm)), (h6, .inl (E 0, 36, .inl ca))] s.heap := hP
  obtain ⟨A, hAe⟩ : ∃ A : Nat → Prop, A = zw_A [(x0, .inr (5, [.ref g0, .ref xk, .ref xt, .ref xx, .ref xp, .int ik])), (g0, .inr (2, [.ref h0, .ref g1, .ref g2, .ref g3, .ref g4, .int (nI kd), .ref g5, .ref g6, .ref g7])), (h0, .inr (0, [.int (nI N), .ref h1, .ref h2, .ref h3, .ref h4, .ref h5, .ref h6])), (h1, .inl (E 0, 15, .inl hm)), (h2, .inl (E 0, 15, .inl aw)), (h3, .inl (E 0, 30, .inl rv)), (h4, .inl (E 0, 30, .inl sd)), (h5, .inl (E 0, 30, .inl gm)), (h6, .inl (E 0, 36, .inl ca))] := ⟨_, rfl⟩
  have hD : va_D A [(x0, .inr (5, [.ref g0, .ref xk, .ref xt, .ref xx, .ref xp, .int ik])), (g0, .inr (2, [.ref h0, .ref g1, .ref g2, .ref g3, .ref g4, .int (nI kd), .ref g5, .ref g6, .ref g7])), (h0, .inr (0, [.int (nI N), .ref h1, .ref h2, .ref h3, .ref h4, .ref h5, .ref h6])), (h1, .inl (E 0, 15, .inl hm)), (h2, .inl (E 0, 15, .inl aw)), (h3, .inl (E 0, 30, .inl rv)), (h4, .inl (E 0, 30, .inl sd)), (h5, .inl (E 0, 30, .inl gm)), (h6, .inl (E 0, 36, .inl ca))] := hAe ▸ zw_own hD0
  have hS : va_S A s.heap s.heap [] := va_S.rf
  have hl := lv_entry ([.ref x0, .int v]) (n := 3) (Nat.le_of_ble_eq_true rfl)
  rw [lg_entry_eq]
  generalize (lg_sl ([.ref x0, .int v]) ++ List.replicate (3 - (lg_sl ([.ref x0, .int v])).length) Slot.unset).toArray = ls at hl ⊢
  have hl : lv_has ls 3 [(0, .ref x0), (1, .int v)] := hl
  refine zr_nQ (fun Q hQ => ?_)
  have hN := hpl.1.1
  refine lv_iload_n hx hb dX7_kind_0 rfl (lv_at hl 1 rfl) ?_
  refine lv_if_lt (tgt := 9) hx hb dX7_kind_1 (by decide) (fun cn_1 => ?_) (fun cn_1 => ?_)
  · skip
    have e1 : zi 3 v = false := zi_f (zn_lo (n := 3) cn_1 (by omega))
    refine lv_bipush (v := (-2)) hx hb dX7_kind_9 (by rfl) ?_
    subst hQ; subst hAe
    exact W.iret (v := (-2)) hx hb hr (fun tz htz hWz => ⟨⟨(-2), kd, rfl, ⟨by simp only [cond_true, cond_false, Bool.and_true, Bool.and_false, Bool.true_and, Bool.false_and, e1], by simp only [cond_true, cond_false, Bool.and_true, Bool.and_false, Bool.true_and, Bool.false_and, e1]⟩, by rw [htz]; exact hP, hD⟩, hS.F htz⟩) hS.2.2 dX7_kind_11
  · skip
    have gz1 := cn_1
    refine lv_iload_n hx hb dX7_kind_4 rfl (lv_at hl 1 rfl) ?_
    refine lv_iconst (v := nI 3) hx hb dX7_kind_5 (by rfl) ?_
    refine lv_icmp_lt (tgt := 12) hx hb dX7_kind_6 (by decide) (fun cn_2 => ?_) (fun cn_2 => ?_)
    · skip
      obtain ⟨t, ht, v_e⟩ := zn_in (n := 3) gz1 (Int32.not_le.mpr cn_2) (by omega)
      have e1 : zi 3 v = true := v_e ▸ zi_t ht (by omega)
      have q1 : zq v = t := v_e ▸ zq_t (by omega)
      rw [v_e] at hl
      refine lv_aload_n hx hb dX7_kind_12 rfl (lv_at hl 0 rfl) ?_
      refine va_get (D := D) (ci := 5) (v := .ref g0) (C := RX7) (T := TX7) (N := 6) hx hb hts (by decide +kernel) hown hK.1 hP 0 rfl rfl 0 (by decide) (hts (.fieldLink RX7 12 "HomeRounds" "now" "LHomeRounds$Setting;") (by decide +kernel)) (fun _ h9 => h9) rfl dX7_kind_13 ?_
      refine va_get (D := D) (ci := 2) (v := .int (nI kd)) (C := RX3) (T := TX3) (N := 9) hx hb hts (by decide +kernel) hown hK.1 hP 1 rfl rfl 5 (by decide) (hts (.fieldLink RX7 102 "HomeRounds$Setting" "seasonKind" "I") (by decide +kernel)) (fun _ h9 => h9) rfl dX7_kind_16 ?_
      refine lv_istore_n (lv' := [(2, .int (nI kd)), (0, .ref x0), (1, .int (nI t))]) hx hb dX7_kind_19 rfl hl (by decide) rfl (fun ls hl => ?_)
      refine lv_aload_n hx hb dX7_kind_20 rfl (lv_at hl 1 rfl) ?_
      refine va_get (D := D) (ci := 5) (v := .ref g0) (C := RX7) (T := TX7) (N := 6) hx hb hts (by decide +kernel) hown hK.1 hP 0 rfl rfl 0 (by decide) (hts (.fieldLink RX7 12 "HomeRounds" "now" "LHomeRounds$Setting;") (by decide +kernel)) (fun _ h9 => h9) rfl dX7_kind_21 ?_
      refine lv_iload_n hx hb dX7_kind_24 rfl (lv_at hl 2 rfl) ?_
      refine va_put (D := D) (ci := 2) (v := .int (nI t)) (ty := .int) (C := RX3) (T := TX3) (N := 9) hx hb hts (by decide +kernel) tyX3 tyX3_ok nmX3 hown hK.1 hP hD hS 1 rfl rfl 5 (by decide) (hts (.fieldLink RX7 102 "HomeRounds$Setting" "seasonKind" "I") (by decide +kernel)) (fun _ h9 => h9) rfl (by decide +kernel) rfl rfl (Nat.le_of_ble_eq_true rfl) dX7_kind_25 (fun H locs hP hD hS => ?_)
      have hP : va_P D vwCl [(x0, .inr (5, [.ref g0, .ref xk, .ref xt, .ref xx, .ref xp, .int ik])), (g0, .inr (2, [.ref h0, .ref g1, .ref g2, .ref g3, .ref g4, .int (nI t), .ref g5, .ref g6, .ref g7])), (h0, .inr (0, [.int (nI N), .ref h1, .ref h2, .ref h3, .ref h4, .ref h5, .ref h6])), (h1, .inl (E 0, 15, .inl hm)), (h2, .inl (E 0, 15, .inl aw)), (h3, .inl (E 0, 30, .inl rv)), (h4, .inl (E 0, 30, .inl sd)), (h5, .inl (E 0, 30, .inl gm)), (h6, .inl (E 0, 36, .inl ca))] H := hP
      have hD : va_D A [(x0, .inr (5, [.ref g0, .ref xk, .ref xt, .ref xx, .ref xp, .int ik])), (g0, .inr (2, [.ref h0, .ref g1, .ref g2, .ref g3, .ref g4, .int (nI t), .ref g5, .ref g6, .ref g7])), (h0, .inr (0, [.int (nI N), .ref h1, .ref h2, .ref h3, .ref h4, .ref h5, .ref h6])), (h1, .inl (E 0, 15, .inl hm)), (h2, .inl (E 0, 15, .inl aw)), (h3, .inl (E 0, 30, .inl rv)), (h4, .inl (E 0, 30, .inl sd)), (h5, .inl (E 0, 30, .inl gm)), (h6, .inl (E 0, 36, .inl ca))] := hD
      refine lv_iload_n hx hb dX7_kind_28 rfl (lv_at hl 0 rfl) ?_
      subst hQ; subst hAe
      exact W.iret (v := nI kd) hx hb hr (fun tz htz hWz => ⟨⟨nI kd, t, rfl, ⟨by simp only [cond_true, cond_false, Bool.and_true, Bool.and_false, Bool.true_and, Bool.false_and, e1], by simp only [cond_true, cond_false, Bool.and_true, Bool.and_false, Bool.true_and, Bool.false_and, e1, q1]⟩, by rw [htz]; exact hP, hD⟩, hS.F htz⟩) hS.2.2 dX7_kind_29
    · skip
      have e1 : zi 3 v = false := zi_f (zn_hi (n := 3) (Int32.not_lt.mp cn_2) (by omega))
      refine lv_bipush (v := (-2)) hx hb dX7_kind_9 (by rfl) ?_
      subst hQ; subst hAe
      exact W.iret (v := (-2)) hx hb hr (fun tz htz hWz => ⟨⟨(-2), kd, rfl, ⟨by simp only [cond_true, cond_false, Bool.and_true, Bool.and_false, Bool.true_and, Bool.false_and, e1], by simp only [cond_true, cond_false, Bool.and_true, Bool.and_false, Bool.true_and, Bool.false_and, e1]⟩, by rw [htz]; exact hP, hD⟩, hS.F htz⟩) hS.2.2 dX7_kind_11

