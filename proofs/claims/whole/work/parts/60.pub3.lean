set_option maxHeartbeats 4000000 in
set_option maxRecDepth 100000 in
theorem c_X8_teams (l : Launch) (D : va_G) (E : Nat → ClassId) (m0 : Nat) (w0 : Nat) (w1 : Nat) (w2 : Nat) (w3 : Nat) (w4 : Nat) (w5 : Nat) (w6 : Nat) (w7 : Nat) (w8 : Nat) (w9 : Nat) (ik : Int32) (tx : Nat) (he : Int32) (fa : Int32) (cl : Nat) (wv : Nat → Int32) (N : Nat) (G : Nat → Nat → Nat) (P : Nat → Nat → Nat) (X : Nat → Nat) (Y : Nat → Nat) (B : Nat → Nat → Nat) (R : Nat → Nat) (kd : Nat) (sn : Nat) (sT : Nat → Nat) (sR : Nat → Nat) (sH : Nat → Nat) (en : Nat) (eW : Nat → Nat) (eN : Nat → Nat) (bn : Nat) (bT : Nat → Nat) (bN : Nat → Nat) (v : Int32) (hva : zv_all N G P X Y B R kd sn sT sR sH en eW eN bn bT bN wv) (hzs : zs_all N kd sn sT sR sH en eW eN bn bT bN) : Met l yX8_teams wsX8_teams ({ frames := 3, cells := 0, slots := 0, locals := 71 }) (zw_P D E [.ref m0, .int v] [(m0, .inr (6, [.ref w0, .ref w1, .ref w2, .int ik, .ref w3, .int (nI tx), .int he, .int fa, .ref w4, .ref w5, .int (nI cl), .ref w6, .ref w7, .ref w8, .ref w9])), (w0, .inl (E 0, 137, .inl wv))]) (zw_Qi D [(m0, .inr (6, [.ref w0, .ref w1, .ref w2, .int ik, .ref w3, .int (nI tx), .int he, .int fa, .ref w4, .ref w5, .int (nI cl), .ref w6, .ref w7, .ref w8, .ref w9])), (w0, .inl (E 0, 137, .inl wv))] (fun zv (u : (Nat → Int32)) => zv = cond (z46 v) (nI N) (-2) ∧ zv_all (cond (z46 v) (zq v) N) (cond (z46 v) (zm_ciG (zq v)) G) (cond (z46 v) (zm_ciP (zq v)) P) X Y (cond (z46 v) (fun _ _ => 0) B) R kd (cond (z46 v) 0 sn) sT sR sH (cond (z46 v) 0 en) eW eN (cond (z46 v) 0 bn) bT bN u) (fun (u : (Nat → Int32)) => [(m0, .inr (6, [.ref w0, .ref w1, .ref w2, .int ik, .ref w3, .int (nI tx), .int he, .int fa, .ref w4, .ref w5, .int (nI cl), .ref w6, .ref w7, .ref w8, .ref w9])), (w0, .inl (E 0, 137, .inl u))])) 0 0 (zw_A [(m0, .inr (6, [.ref w0, .ref w1, .ref w2, .int ik, .ref w3, .int (nI tx), .int he, .int fa, .ref w4, .ref w5, .int (nI cl), .ref w6, .ref w7, .ref w8, .ref w9])), (w0, .inl (E 0, 137, .inl wv))]) := by
  refine Met.ofW (cc := cX8_teams) (maxL := 3) (ret := (some .int)) (by decide) rfl ?_
  intro p e s m args below meth c s₁ Bz hml hv
  obtain ⟨rfl, hP, hK, hD0⟩ := hv
  have hx := Bz.exec
  have hb := Bz.bytes
  have hr := Bz.returns
  have hts := atoms_spec (ws := wsX8_teams) Bz.pre
  have hown : s.vm.findClass RX8 = some m.cls := findClass_of_methodNamed Bz.named
  have hlocks := Bz.notSynchronized
  have hP : va_P D vwCl [(m0, .inr (6, [.ref w0, .ref w1, .ref w2, .int ik, .ref w3, .int (nI tx), .int he, .int fa, .ref w4, .ref w5, .int (nI cl), .ref w6, .ref w7, .ref w8, .ref w9])), (w0, .inl (E 0, 137, .inl wv))] s.heap := hP
  obtain ⟨A, hAe⟩ : ∃ A : Nat → Prop, A = zw_A [(m0, .inr (6, [.ref w0, .ref w1, .ref w2, .int ik, .ref w3, .int (nI tx), .int he, .int fa, .ref w4, .ref w5, .int (nI cl), .ref w6, .ref w7, .ref w8, .ref w9])), (w0, .inl (E 0, 137, .inl wv))] := ⟨_, rfl⟩
  have hD : va_D A [(m0, .inr (6, [.ref w0, .ref w1, .ref w2, .int ik, .ref w3, .int (nI tx), .int he, .int fa, .ref w4, .ref w5, .int (nI cl), .ref w6, .ref w7, .ref w8, .ref w9])), (w0, .inl (E 0, 137, .inl wv))] := hAe ▸ zw_own hD0
  have hS : va_S A s.heap s.heap [] := va_S.rf
  have hl := lv_entry ([.ref m0, .int v]) (n := 3) (Nat.le_of_ble_eq_true rfl)
  rw [lg_entry_eq]
  generalize (lg_sl ([.ref m0, .int v]) ++ List.replicate (3 - (lg_sl ([.ref m0, .int v])).length) Slot.unset).toArray = ls at hl ⊢
  have hl : lv_has ls 3 [(0, .ref m0), (1, .int v)] := hl
  refine zr_nQ (fun Q hQ => ?_)
  obtain ⟨hvg, hxy, hvb, hvr, hkv, hzc, hze, hzb, hn6, hn8, hm8⟩ := id hva
  obtain ⟨hkd, hse, hev, hbo⟩ := id hzs
  have hok := hvg.1
  have hN := hok.1
  have hvn := hvg.2.1
  have hgr := zm_gr_of hxy
  refine lv_iload_n hx hb dX8_teams_0 rfl (lv_at hl 1 rfl) ?_
  refine lv_iconst (v := nI 4) hx hb dX8_teams_1 (by rfl) ?_
  refine lv_icmp_eq (tgt := 14) hx hb dX8_teams_2 (by decide) (fun cn_1 => ?_) (fun cn_1 => ?_)
  · skip
    have e1 : z46 v = true := by rw [cn_1]; exact z46_4
    have q1 : zq v = 4 := by rw [cn_1]; exact zq_t (by omega)
    rw [cn_1] at hl
    refine lv_aload_n hx hb dX8_teams_14 rfl (lv_at hl 0 rfl) ?_
    refine va_get (D := D) (ci := 6) (v := .ref w0) (C := RX8) (T := TX8) (N := 15) hx hb hts (by decide +kernel) hown hK.1 hP 0 rfl rfl 0 (by decide) (hts (.fieldLink RX8 11 "HomeRoundsModel" "w" "[I") (by decide +kernel)) (fun _ h9 => h9) rfl dX8_teams_15 ?_
    refine lv_iconst (v := nI 0) hx hb dX8_teams_18 (by rfl) ?_
    refine va_iald hx hb hK.1 hP 1 0 rfl rfl (vp_in_nI (by omega) (by omega)) dX8_teams_19 ?_
    refine zr_ti (y := nI N) ((congrArg wv (nI_clamp (by omega))).trans (hvn)) ?_
    refine lv_istore_n (lv' := [(2, .int (nI N)), (0, .ref m0), (1, .int (nI 4))]) hx hb dX8_teams_20 rfl hl (by decide) rfl (fun ls hl => ?_)
    refine lv_aload_n hx hb dX8_teams_21 rfl (lv_at hl 1 rfl) ?_
    refine lv_iload_n hx hb dX8_teams_22 rfl (lv_at hl 2 rfl) ?_
    have hPc := hP.sub (ws' := [(m0, .inr (6, [.ref w0, .ref w1, .ref w2, .int ik, .ref w3, .int (nI tx), .int he, .int fa, .ref w4, .ref w5, .int (nI cl), .ref w6, .ref w7, .ref w8, .ref w9])), (w0, .inl (E 0, 137, .inl wv))]) [0, 1] rfl
    have hDc := hD.sub (ws' := [(m0, .inr (6, [.ref w0, .ref w1, .ref w2, .int ik, .ref w3, .int (nI tx), .int he, .int fa, .ref w4, .ref w5, .int (nI cl), .ref w6, .ref w7, .ref w8, .ref w9])), (w0, .inl (E 0, 137, .inl wv))]) [0, 1] (by decide +kernel) rfl
    have hAc := zw_AA (wc := [(m0, .inr (6, [.ref w0, .ref w1, .ref w2, .int ik, .ref w3, .int (nI tx), .int he, .int fa, .ref w4, .ref w5, .int (nI cl), .ref w6, .ref w7, .ref w8, .ref w9])), (w0, .inl (E 0, 137, .inl wv))]) hD [0, 1] rfl
    refine zw_cv hAc hS (va_runV (As := [.int (nI 4)]) (rest := []) ⟨hx, hb, hml, hown, hts⟩ (c_X8_circles l D E m0 w0 w1 w2 w3 w4 w5 w6 w7 w8 w9 ik tx he fa cl wv 4 (by omega)) (cwV 1 hts gX8_teams_X8_circles rfl rfl rfl (by decide +kernel) ⟨Nat.le_of_ble_eq_true rfl, Nat.le_of_ble_eq_true rfl⟩) (zw_V hK hPc hDc (ci := 6) (q0 := 0) rfl rfl) rfl rfl hl.1 rfl (lv_room (Nat.le_of_ble_eq_true rfl)) dX8_teams_23 ⟨Nat.zero_le _, Nat.zero_le _⟩) (fun u_4 H locs hw_3 hP1 hD1 hk1 hS => ?_)
    obtain ⟨wvn_5, rfl⟩ : ∃ z, z = u_4 := ⟨_, rfl⟩
    try dsimp only at hw_3 hP1 hD1
    obtain ⟨hP, hD⟩ := zw_join (wr := []) (w1 := [(m0, .inr (6, [.ref w0, .ref w1, .ref w2, .int ik, .ref w3, .int (nI tx), .int he, .int fa, .ref w4, .ref w5, .int (nI cl), .ref w6, .ref w7, .ref w8, .ref w9])), (w0, .inl (E 0, 137, .inl wvn_5))]) (ws' := [(m0, .inr (6, [.ref w0, .ref w1, .ref w2, .int ik, .ref w3, .int (nI tx), .int he, .int fa, .ref w4, .ref w5, .int (nI cl), .ref w6, .ref w7, .ref w8, .ref w9])), (w0, .inl (E 0, 137, .inl wvn_5))]) hP hD [0, 1] [] [0, 1] rfl rfl (by decide +kernel) (by decide +kernel) hAc hk1 hP1 hD1 (by decide +kernel) rfl
    clear hP1 hD1 hk1 hPc hDc hAc
    have hnew := hw_3
    refine lv_iload_n hx hb dX8_teams_26 rfl (lv_at hl 0 rfl) ?_
    subst hQ; subst hAe
    exact W.iret (v := nI N) hx hb hr (fun tz htz hWz => ⟨⟨nI N, wvn_5, rfl, ⟨by simp only [cond_true, cond_false, Bool.and_true, Bool.and_false, Bool.true_and, Bool.false_and, e1], by simp only [cond_true, cond_false, Bool.and_true, Bool.and_false, Bool.true_and, Bool.false_and, e1, q1]; exact zv_all_te hva hnew⟩, by rw [htz]; exact hP, hD⟩, hS.F htz⟩) hS.2.2 dX8_teams_27
  · skip
    have n4 := cn_1
    refine lv_iload_n hx hb dX8_teams_5 rfl (lv_at hl 1 rfl) ?_
    refine lv_bipush (v := nI 6) hx hb dX8_teams_6 (by rfl) ?_
    refine lv_icmp_eq (tgt := 14) hx hb dX8_teams_8 (by decide) (fun cn_6 => ?_) (fun cn_6 => ?_)
    · skip
      have e1 : z46 v = true := by rw [cn_6]; exact z46_6
      have q1 : zq v = 6 := by rw [cn_6]; exact zq_t (by omega)
      rw [cn_6] at hl
      refine lv_aload_n hx hb dX8_teams_14 rfl (lv_at hl 0 rfl) ?_
      refine va_get (D := D) (ci := 6) (v := .ref w0) (C := RX8) (T := TX8) (N := 15) hx hb hts (by decide +kernel) hown hK.1 hP 0 rfl rfl 0 (by decide) (hts (.fieldLink RX8 11 "HomeRoundsModel" "w" "[I") (by decide +kernel)) (fun _ h9 => h9) rfl dX8_teams_15 ?_
      refine lv_iconst (v := nI 0) hx hb dX8_teams_18 (by rfl) ?_
      refine va_iald hx hb hK.1 hP 1 0 rfl rfl (vp_in_nI (by omega) (by omega)) dX8_teams_19 ?_
      refine zr_ti (y := nI N) ((congrArg wv (nI_clamp (by omega))).trans (hvn)) ?_
      refine lv_istore_n (lv' := [(2, .int (nI N)), (0, .ref m0), (1, .int (nI 6))]) hx hb dX8_teams_20 rfl hl (by decide) rfl (fun ls hl => ?_)
      refine lv_aload_n hx hb dX8_teams_21 rfl (lv_at hl 1 rfl) ?_
      refine lv_iload_n hx hb dX8_teams_22 rfl (lv_at hl 2 rfl) ?_
      have hPc := hP.sub (ws' := [(m0, .inr (6, [.ref w0, .ref w1, .ref w2, .int ik, .ref w3, .int (nI tx), .int he, .int fa, .ref w4, .ref w5, .int (nI cl), .ref w6, .ref w7, .ref w8, .ref w9])), (w0, .inl (E 0, 137, .inl wv))]) [0, 1] rfl
      have hDc := hD.sub (ws' := [(m0, .inr (6, [.ref w0, .ref w1, .ref w2, .int ik, .ref w3, .int (nI tx), .int he, .int fa, .ref w4, .ref w5, .int (nI cl), .ref w6, .ref w7, .ref w8, .ref w9])), (w0, .inl (E 0, 137, .inl wv))]) [0, 1] (by decide +kernel) rfl
      have hAc := zw_AA (wc := [(m0, .inr (6, [.ref w0, .ref w1, .ref w2, .int ik, .ref w3, .int (nI tx), .int he, .int fa, .ref w4, .ref w5, .int (nI cl), .ref w6, .ref w7, .ref w8, .ref w9])), (w0, .inl (E 0, 137, .inl wv))]) hD [0, 1] rfl
      refine zw_cv hAc hS (va_runV (As := [.int (nI 6)]) (rest := []) ⟨hx, hb, hml, hown, hts⟩ (c_X8_circles l D E m0 w0 w1 w2 w3 w4 w5 w6 w7 w8 w9 ik tx he fa cl wv 6 (by omega)) (cwV 1 hts gX8_teams_X8_circles rfl rfl rfl (by decide +kernel) ⟨Nat.le_of_ble_eq_true rfl, Nat.le_of_ble_eq_true rfl⟩) (zw_V hK hPc hDc (ci := 6) (q0 := 0) rfl rfl) rfl rfl hl.1 rfl (lv_room (Nat.le_of_ble_eq_true rfl)) dX8_teams_23 ⟨Nat.zero_le _, Nat.zero_le _⟩) (fun u_9 H locs hw_8 hP1 hD1 hk1 hS => ?_)
      obtain ⟨wvn_10, rfl⟩ : ∃ z, z = u_9 := ⟨_, rfl⟩
      try dsimp only at hw_8 hP1 hD1
      obtain ⟨hP, hD⟩ := zw_join (wr := []) (w1 := [(m0, .inr (6, [.ref w0, .ref w1, .ref w2, .int ik, .ref w3, .int (nI tx), .int he, .int fa, .ref w4, .ref w5, .int (nI cl), .ref w6, .ref w7, .ref w8, .ref w9])), (w0, .inl (E 0, 137, .inl wvn_10))]) (ws' := [(m0, .inr (6, [.ref w0, .ref w1, .ref w2, .int ik, .ref w3, .int (nI tx), .int he, .int fa, .ref w4, .ref w5, .int (nI cl), .ref w6, .ref w7, .ref w8, .ref w9])), (w0, .inl (E 0, 137, .inl wvn_10))]) hP hD [0, 1] [] [0, 1] rfl rfl (by decide +kernel) (by decide +kernel) hAc hk1 hP1 hD1 (by decide +kernel) rfl
      clear hP1 hD1 hk1 hPc hDc hAc
      have hnew := hw_8
      refine lv_iload_n hx hb dX8_teams_26 rfl (lv_at hl 0 rfl) ?_
      subst hQ; subst hAe
      exact W.iret (v := nI N) hx hb hr (fun tz htz hWz => ⟨⟨nI N, wvn_10, rfl, ⟨by simp only [cond_true, cond_false, Bool.and_true, Bool.and_false, Bool.true_and, Bool.false_and, e1], by simp only [cond_true, cond_false, Bool.and_true, Bool.and_false, Bool.true_and, Bool.false_and, e1, q1]; exact zv_all_te hva hnew⟩, by rw [htz]; exact hP, hD⟩, hS.F htz⟩) hS.2.2 dX8_teams_27
    · skip
      have e1 := z46_f n4 cn_6
      refine lv_bipush (v := (-2)) hx hb dX8_teams_11 (by rfl) ?_
      subst hQ; subst hAe
      exact W.iret (v := (-2)) hx hb hr (fun tz htz hWz => ⟨⟨(-2), wv, rfl, ⟨by simp only [cond_true, cond_false, Bool.and_true, Bool.and_false, Bool.true_and, Bool.false_and, e1], by simp only [cond_true, cond_false, Bool.and_true, Bool.and_false, Bool.true_and, Bool.false_and, e1]; exact hva⟩, by rw [htz]; exact hP, hD⟩, hS.F htz⟩) hS.2.2 dX8_teams_13

set_option maxHeartbeats 4000000 in
set_option maxRecDepth 100000 in
theorem c_X8_ground (l : Launch) (D : va_G) (E : Nat → ClassId) (m0 : Nat) (w0 : Nat) (w1 : Nat) (w2 : Nat) (w3 : Nat) (w4 : Nat) (w5 : Nat) (w6 : Nat) (w7 : Nat) (w8 : Nat) (w9 : Nat) (ik : Int32) (tx : Nat) (he : Int32) (fa : Int32) (cl : Nat) (wv : Nat → Int32) (N : Nat) (G : Nat → Nat → Nat) (P : Nat → Nat → Nat) (X : Nat → Nat) (Y : Nat → Nat) (B : Nat → Nat → Nat) (R : Nat → Nat) (kd : Nat) (sn : Nat) (sT : Nat → Nat) (sR : Nat → Nat) (sH : Nat → Nat) (en : Nat) (eW : Nat → Nat) (eN : Nat → Nat) (bn : Nat) (bT : Nat → Nat) (bN : Nat → Nat) (v : Int32) (w : Int32) (y : Int32) (hva : zv_all N G P X Y B R kd sn sT sR sH en eW eN bn bT bN wv) (hzs : zs_all N kd sn sT sR sH en eW eN bn bT bN) : Met l yX8_ground wsX8_ground ({ frames := 2, cells := 0, slots := 0, locals := 43 }) (zw_P D E [.ref m0, .int v, .int w, .int y] [(m0, .inr (6, [.ref w0, .ref w1, .ref w2, .int ik, .ref w3, .int (nI tx), .int he, .int fa, .ref w4, .ref w5, .int (nI cl), .ref w6, .ref w7, .ref w8, .ref w9])), (w0, .inl (E 0, 137, .inl wv))]) (zw_Qi D [(m0, .inr (6, [.ref w0, .ref w1, .ref w2, .int ik, .ref w3, .int (nI tx), .int he, .int fa, .ref w4, .ref w5, .int (nI cl), .ref w6, .ref w7, .ref w8, .ref w9])), (w0, .inl (E 0, 137, .inl wv))] (fun zv (u : (Nat → Int32)) => zv = cond (zi N v) (cond (zi 100 w && zi 100 y) (nI (100 * X (zq v) + Y (zq v))) (-2)) (-1) ∧ zv_all N G P (cond (zi N v && (zi 100 w && zi 100 y)) (zm_up X (zq v) (zq w)) X) (cond (zi N v && (zi 100 w && zi 100 y)) (zm_up Y (zq v) (zq y)) Y) B R kd sn sT sR sH en eW eN bn bT bN u) (fun (u : (Nat → Int32)) => [(m0, .inr (6, [.ref w0, .ref w1, .ref w2, .int ik, .ref w3, .int (nI tx), .int he, .int fa, .ref w4, .ref w5, .int (nI cl), .ref w6, .ref w7, .ref w8, .ref w9])), (w0, .inl (E 0, 137, .inl u))])) 0 0 (zw_A [(m0, .inr (6, [.ref w0, .ref w1, .ref w2, .int ik, .ref w3, .int (nI tx), .int he, .int fa, .ref w4, .ref w5, .int (nI cl), .ref w6, .ref w7, .ref w8, .ref w9])), (w0, .inl (E 0, 137, .inl wv))]) := by
  refine Met.ofW (cc := cX8_ground) (maxL := 5) (ret := (some .int)) (by decide) rfl ?_
  intro p e s m args below meth c s₁ Bz hml hv
  obtain ⟨rfl, hP, hK, hD0⟩ := hv
  have hx := Bz.exec
  have hb := Bz.bytes
  have hr := Bz.returns
  have hts := atoms_spec (ws := wsX8_ground) Bz.pre
  have hown : s.vm.findClass RX8 = some m.cls := findClass_of_methodNamed Bz.named
  have hlocks := Bz.notSynchronized
  have hP : va_P D vwCl [(m0, .inr (6, [.ref w0, .ref w1, .ref w2, .int ik, .ref w3, .int (nI tx), .int he, .int fa, .ref w4, .ref w5, .int (nI cl), .ref w6, .ref w7, .ref w8, .ref w9])), (w0, .inl (E 0, 137, .inl wv))] s.heap := hP
  obtain ⟨A, hAe⟩ : ∃ A : Nat → Prop, A = zw_A [(m0, .inr (6, [.ref w0, .ref w1, .ref w2, .int ik, .ref w3, .int (nI tx), .int he, .int fa, .ref w4, .ref w5, .int (nI cl), .ref w6, .ref w7, .ref w8, .ref w9])), (w0, .inl (E 0, 137, .inl wv))] := ⟨_, rfl⟩
  have hD : va_D A [(m0, .inr (6, [.ref w0, .ref w1, .ref w2, .int ik, .ref w3, .int (nI tx), .int he, .int fa, .ref w4, .ref w5, .int (nI cl), .ref w6, .ref w7, .ref w8, .ref w9])), (w0, .inl (E 0, 137, .inl wv))] := hAe ▸ zw_own hD0
  have hS : va_S A s.heap s.heap [] := va_S.rf
  have hl := lv_entry ([.ref m0, .int v, .int w, .int y]) (n := 5) (Nat.le_of_ble_eq_true rfl)
  rw [lg_entry_eq]
  generalize (lg_sl ([.ref m0, .int v, .int w, .int y]) ++ List.replicate (5 - (lg_sl ([.ref m0, .int v, .int w, .int y])).length) Slot.unset).toArray = ls at hl ⊢
  have hl : lv_has ls 5 [(0, .ref m0), (1, .int v), (2, .int w), (3, .int y)] := hl
  refine zr_nQ (fun Q hQ => ?_)
  obtain ⟨hvg, hxy, hvb, hvr, hkv, hzc, hze, hzb, hn6, hn8, hm8⟩ := id hva
  obtain ⟨hkd, hse, hev, hbo⟩ := id hzs
  have hok := hvg.1
  have hN := hok.1
  have hvn := hvg.2.1
  have hgr := zm_gr_of hxy
  refine lv_aload_n hx hb dX8_ground_0 rfl (lv_at hl 0 rfl) ?_
  refine lv_iload_n hx hb dX8_ground_1 rfl (lv_at hl 1 rfl) ?_
  refine zr_ci hP hS (va_runV (As := [.int v]) (rest := []) ⟨hx, hb, hml, hown, hts⟩ (c_X8_isTeam l D E m0 w0 w1 w2 w3 w4 w5 w6 w7 w8 w9 ik tx he fa cl wv N v (hvn) (hN)) (cwV 1 hts gX8_ground_X8_isTeam rfl rfl rfl (by decide +kernel) ⟨Nat.le_of_ble_eq_true rfl, Nat.le_of_ble_eq_true rfl⟩) (zr_V hK (hP.sub (ws' := [(m0, .inr (6, [.ref w0, .ref w1, .ref w2, .int ik, .ref w3, .int (nI tx), .int he, .int fa, .ref w4, .ref w5, .int (nI cl), .ref w6, .ref w7, .ref w8, .ref w9])), (w0, .inl (E 0, 137, .inl wv))]) [0, 1] rfl) (ci := 6) (q0 := 0) rfl rfl) rfl rfl hl.1 rfl (lv_room (Nat.le_of_ble_eq_true rfl)) dX8_ground_2 ⟨Nat.zero_le _, Nat.zero_le _⟩) (fun r_1 H locs hw_2 hP hS => ?_)
  rcases hw_2 with ⟨rfl, hw_2⟩ | ⟨rfl, hw_2⟩
  · skip
    obtain ⟨t, ht, v_e⟩ := hw_2
    have e1 : zi N v = true := v_e ▸ zi_t ht (by omega)
    have q1 : zq v = t := v_e ▸ zq_t (by omega)
    rw [v_e] at hl
    refine zr_ti (y := nI 1) rfl ?_
    refine lv_if_ne (tgt := 10) hx hb dX8_ground_5 (by decide) (fun cn_3 => ?_) (fun cn_3 => ?_)
    · skip
      refine lv_iload_n hx hb dX8_ground_10 rfl (lv_at hl 2 rfl) ?_
      refine zr_ci hP hS (va_runS (As := [.int w]) (rest := []) ⟨hx, hb, hml, hown, hts⟩ (c_X8_isTwo l D E w ) (va_cwS 1 hts gX8_ground_X8_isTwo rfl rfl rfl (by decide +kernel) ⟨Nat.le_of_ble_eq_true rfl, Nat.le_of_ble_eq_true rfl⟩) (zr_S hK (hP.sub (ws' := []) [] rfl)) rfl rfl hl.1 rfl (lv_room (Nat.le_of_ble_eq_true rfl)) dX8_ground_11 ⟨Nat.zero_le _, Nat.zero_le _⟩) (fun r_4 H locs hw_5 hP hS => ?_)
      rcases hw_5 with ⟨rfl, hw_5⟩ | ⟨rfl, hw_5⟩
      · skip
        obtain ⟨a1, ha1, w_e⟩ := hw_5
        have e2 : zi 100 w = true := w_e ▸ zi_t ha1 (by omega)
        have q2 : zq w = a1 := w_e ▸ zq_t (by omega)
        rw [w_e] at hl
        refine zr_ti (y := nI 1) rfl ?_
        refine lv_if_eq (tgt := 24) hx hb dX8_ground_14 (by decide) (fun cn_6 => ?_) (fun cn_6 => ?_)
        · skip
          exact absurd cn_6 (by decide)
        · skip
          refine lv_iload_n hx hb dX8_ground_17 rfl (lv_at hl 3 rfl) ?_
          refine zr_ci hP hS (va_runS (As := [.int y]) (rest := []) ⟨hx, hb, hml, hown, hts⟩ (c_X8_isTwo l D E y ) (va_cwS 1 hts gX8_ground_X8_isTwo rfl rfl rfl (by decide +kernel) ⟨Nat.le_of_ble_eq_true rfl, Nat.le_of_ble_eq_true rfl⟩) (zr_S hK (hP.sub (ws' := []) [] rfl)) rfl rfl hl.1 rfl (lv_room (Nat.le_of_ble_eq_true rfl)) dX8_ground_18 ⟨Nat.zero_le _, Nat.zero_le _⟩) (fun r_7 H locs hw_8 hP hS => ?_)
          rcases hw_8 with ⟨rfl, hw_8⟩ | ⟨rfl, hw_8⟩
          · skip
            obtain ⟨b1, hb1, y_e⟩ := hw_8
            have e3 : zi 100 y = true := y_e ▸ zi_t hb1 (by omega)
            have q3 : zq y = b1 := y_e ▸ zq_t (by omega)
            rw [y_e] at hl
            refine zr_ti (y := nI 1) rfl ?_
            refine lv_if_ne (tgt := 27) hx hb dX8_ground_21 (by decide) (fun cn_9 => ?_) (fun cn_9 => ?_)
            · skip
              obtain ⟨hx1, hx2, hx3, hx4⟩ := hxy t (by omega)
              refine lv_bipush (v := nI 100) hx hb dX8_ground_27 (by rfl) ?_
              refine lv_aload_n hx hb dX8_ground_29 rfl (lv_at hl 0 rfl) ?_
              refine va_get (D := D) (ci := 6) (v := .ref w0) (C := RX8) (T := TX8) (N := 15) hx hb hts (by decide +kernel) hown hK.1 hP 0 rfl rfl 0 (by decide) (hts (.fieldLink RX8 11 "HomeRoundsModel" "w" "[I") (by decide +kernel)) (fun _ h9 => h9) rfl dX8_ground_30 ?_
              refine lv_bipush (v := nI 9) hx hb dX8_ground_33 (by rfl) ?_
              refine lv_iconst (v := nI 2) hx hb dX8_ground_35 (by rfl) ?_
              refine lv_iload_n hx hb dX8_ground_36 rfl (lv_at hl 1 rfl) ?_
              refine lv_imul hx hb dX8_ground_37 ?_
              refine zr_ti (y := nI (2 * t)) (pk_mul _ _) ?_
              refine lv_iadd hx hb dX8_ground_38 ?_
              refine zr_ti (y := nI (9 + (2 * t))) (nI_add _ _) ?_
              refine va_iald hx hb hK.1 hP 1 0 rfl rfl (vp_in_nI (by omega) (by omega)) dX8_ground_39 ?_
              refine zr_ti (y := nI (X t)) ((congrArg wv (nI_clamp (by omega))).trans (hx3)) ?_
              refine lv_imul hx hb dX8_ground_40 ?_
              refine zr_ti (y := nI (100 * (X t))) (pk_mul _ _) ?_
              refine lv_aload_n hx hb dX8_ground_41 rfl (lv_at hl 0 rfl) ?_
              refine va_get (D := D) (ci := 6) (v := .ref w0) (C := RX8) (T := TX8) (N := 15) hx hb hts (by decide +kernel) hown hK.1 hP 0 rfl rfl 0 (by decide) (hts (.fieldLink RX8 11 "HomeRoundsModel" "w" "[I") (by decide +kernel)) (fun _ h9 => h9) rfl dX8_ground_42 ?_
              refine lv_bipush (v := nI 9) hx hb dX8_ground_45 (by rfl) ?_
              refine lv_iconst (v := nI 2) hx hb dX8_ground_47 (by rfl) ?_
              refine lv_iload_n hx hb dX8_ground_48 rfl (lv_at hl 1 rfl) ?_
              refine lv_imul hx hb dX8_ground_49 ?_
              refine zr_ti (y := nI (2 * t)) (pk_mul _ _) ?_
              refine lv_iadd hx hb dX8_ground_50 ?_
              refine zr_ti (y := nI (9 + (2 * t))) (nI_add _ _) ?_
              refine lv_iconst (v := nI 1) hx hb dX8_ground_51 (by rfl) ?_
              refine lv_iadd hx hb dX8_ground_52 ?_
              refine zr_ti (y := nI ((9 + (2 * t)) + 1)) (nI_add _ _) ?_
              refine va_iald hx hb hK.1 hP 1 0 rfl rfl (vp_in_nI (by omega) (by omega)) dX8_ground_53 ?_
              refine zr_ti (y := nI (Y t)) ((congrArg wv (nI_clamp (by omega))).trans (hx4)) ?_
              refine lv_iadd hx hb dX8_ground_54 ?_
              refine zr_ti (y := nI ((100 * (X t)) + (Y t))) (nI_add _ _) ?_
              refine lv_istore (lv' := [(4, .int (nI ((100 * (X t)) + (Y t)))), (0, .ref m0), (1, .int (nI t)), (2, .int (nI a1)), (3, .int (nI b1))]) hx hb dX8_ground_55 hl (by decide) rfl (fun ls hl => ?_)
              refine lv_aload_n hx hb dX8_ground_57 rfl (lv_at hl 1 rfl) ?_
              refine va_get (D := D) (ci := 6) (v := .ref w0) (C := RX8) (T := TX8) (N := 15) hx hb hts (by decide +kernel) hown hK.1 hP 0 rfl rfl 0 (by decide) (hts (.fieldLink RX8 11 "HomeRoundsModel" "w" "[I") (by decide +kernel)) (fun _ h9 => h9) rfl dX8_ground_58 ?_
              refine lv_bipush (v := nI 9) hx hb dX8_ground_61 (by rfl) ?_
              refine lv_iconst (v := nI 2) hx hb dX8_ground_63 (by rfl) ?_
              refine lv_iload_n hx hb dX8_ground_64 rfl (lv_at hl 2 rfl) ?_
              refine lv_imul hx hb dX8_ground_65 ?_
              refine zr_ti (y := nI (2 * t)) (pk_mul _ _) ?_
              refine lv_iadd hx hb dX8_ground_66 ?_
              refine zr_ti (y := nI (9 + (2 * t))) (nI_add _ _) ?_
              refine lv_iload_n hx hb dX8_ground_67 rfl (lv_at hl 3 rfl) ?_
              refine va_iast hx hb hK.1 hP hD hS 1 0 rfl rfl (vp_in_nI (by omega) (by omega)) dX8_ground_68 (fun H locs hP hD hS => ?_)
              have hP : va_P D vwCl [(m0, .inr (6, [.ref w0, .ref w1, .ref w2, .int ik, .ref w3, .int (nI tx), .int he, .int fa, .ref w4, .ref w5, .int (nI cl), .ref w6, .ref w7, .ref w8, .ref w9])), (w0, .inl (E 0, 137, .inl (upd wv (nI (9 + (2 * t))).toNatClampNeg (nI a1))))] H := hP
              have hD : va_D A [(m0, .inr (6, [.ref w0, .ref w1, .ref w2, .int ik, .ref w3, .int (nI tx), .int he, .int fa, .ref w4, .ref w5, .int (nI cl), .ref w6, .ref w7, .ref w8, .ref w9])), (w0, .inl (E 0, 137, .inl (upd wv (nI (9 + (2 * t))).toNatClampNeg (nI a1))))] := hD
              have hcz : (upd wv (nI (9 + (2 * t))).toNatClampNeg (nI a1)) = (upd wv (9 + (2 * t)) (nI a1)) := by rw [nI_clamp (n := 9 + (2 * t)) (by omega)]
              rw [hcz] at hP hD
              refine lv_aload_n hx hb dX8_ground_69 rfl (lv_at hl 1 rfl) ?_
              refine va_get (D := D) (ci := 6) (v := .ref w0) (C := RX8) (T := TX8) (N := 15) hx hb hts (by decide +kernel) hown hK.1 hP 0 rfl rfl 0 (by decide) (hts (.fieldLink RX8 11 "HomeRoundsModel" "w" "[I") (by decide +kernel)) (fun _ h9 => h9) rfl dX8_ground_70 ?_
              refine lv_bipush (v := nI 9) hx hb dX8_ground_73 (by rfl) ?_
              refine lv_iconst (v := nI 2) hx hb dX8_ground_75 (by rfl) ?_
              refine lv_iload_n hx hb dX8_ground_76 rfl (lv_at hl 2 rfl) ?_
              refine lv_imul hx hb dX8_ground_77 ?_
              refine zr_ti (y := nI (2 * t)) (pk_mul _ _) ?_
              refine lv_iadd hx hb dX8_ground_78 ?_
              refine zr_ti (y := nI (9 + (2 * t))) (nI_add _ _) ?_
              refine lv_iconst (v := nI 1) hx hb dX8_ground_79 (by rfl) ?_
              refine lv_iadd hx hb dX8_ground_80 ?_
              refine zr_ti (y := nI ((9 + (2 * t)) + 1)) (nI_add _ _) ?_
              refine lv_iload_n hx hb dX8_ground_81 rfl (lv_at hl 4 rfl) ?_
              refine va_iast hx hb hK.1 hP hD hS 1 0 rfl rfl (vp_in_nI (by omega) (by omega)) dX8_ground_82 (fun H locs hP hD hS => ?_)
              have hP : va_P D vwCl [(m0, .inr (6, [.ref w0, .ref w1, .ref w2, .int ik, .ref w3, .int (nI tx), .int he, .int fa, .ref w4, .ref w5, .int (nI cl), .ref w6, .ref w7, .ref w8, .ref w9])), (w0, .inl (E 0, 137, .inl (upd (upd wv (9 + (2 * t)) (nI a1)) (nI ((9 + (2 * t)) + 1)).toNatClampNeg (nI b1))))] H := hP
              have hD : va_D A [(m0, .inr (6, [.ref w0, .ref w1, .ref w2, .int ik, .ref w3, .int (nI tx), .int he, .int fa, .ref w4, .ref w5, .int (nI cl), .ref w6, .ref w7, .ref w8, .ref w9])), (w0, .inl (E 0, 137, .inl (upd (upd wv (9 + (2 * t)) (nI a1)) (nI ((9 + (2 * t)) + 1)).toNatClampNeg (nI b1))))] := hD
              have hcz : (upd (upd wv (9 + (2 * t)) (nI a1)) (nI ((9 + (2 * t)) + 1)).toNatClampNeg (nI b1)) = (upd (upd wv (9 + (2 * t)) (nI a1)) ((9 + (2 * t)) + 1) (nI b1)) := by rw [nI_clamp (n := (9 + (2 * t)) + 1) (by omega)]
              rw [hcz] at hP hD
              refine lv_iload hx hb dX8_ground_83 (lv_at hl 0 rfl) ?_
              subst hQ; subst hAe
              exact W.iret (v := nI ((100 * (X t)) + (Y t))) hx hb hr (fun tz htz hWz => ⟨⟨nI ((100 * (X t)) + (Y t)), (upd (upd wv (9 + (2 * t)) (nI a1)) ((9 + (2 * t)) + 1) (nI b1)), rfl, ⟨by simp only [cond_true, cond_false, Bool.and_true, Bool.and_false, Bool.true_and, Bool.false_and, e1, e2, e3, q1], by simp only [cond_true, cond_false, Bool.and_true, Bool.and_false, Bool.true_and, Bool.false_and, e1, e2, e3, q1, q2, q3]; exact zv_all_gr hva (by omega) (by omega) (by omega)⟩, by rw [htz]; exact hP, hD⟩, hS.F htz⟩) hS.2.2 dX8_ground_85
            · skip
              exact absurd cn_9 (by decide)
          · skip
            have e3 : zi 100 y = false := zi_f hw_8
            refine zr_ti (y := nI 0) rfl ?_
            refine lv_if_ne (tgt := 27) hx hb dX8_ground_21 (by decide) (fun cn_10 => ?_) (fun cn_10 => ?_)
            · skip
              exact absurd cn_10 (by decide)
            · skip
              refine lv_bipush (v := (-2)) hx hb dX8_ground_24 (by rfl) ?_
              subst hQ; subst hAe
              exact W.iret (v := (-2)) hx hb hr (fun tz htz hWz => ⟨⟨(-2), wv, rfl, ⟨by first | (simp only [cond_true, cond_false, Bool.and_true, Bool.and_false, Bool.true_and, Bool.false_and, e1, e2]; done) | (simp only [cond_true, cond_false, Bool.and_true, Bool.and_false, Bool.true_and, Bool.false_and, e1, e2, e3]; done), by first | (simp only [cond_true, cond_false, Bool.and_true, Bool.and_false, Bool.true_and, Bool.false_and, e1, e2]; exact hva; done) | (simp only [cond_true, cond_false, Bool.and_true, Bool.and_false, Bool.true_and, Bool.false_and, e1, e2, e3]; exact hva; done)⟩, by rw [htz]; exact hP, hD⟩, hS.F htz⟩) hS.2.2 dX8_ground_26
      · skip
        have e2 : zi 100 w = false := zi_f hw_5
        refine zr_ti (y := nI 0) rfl ?_
        refine lv_if_eq (tgt := 24) hx hb dX8_ground_14 (by decide) (fun cn_11 => ?_) (fun cn_11 => ?_)
        · skip
          refine lv_bipush (v := (-2)) hx hb dX8_ground_24 (by rfl) ?_
          subst hQ; subst hAe
          exact W.iret (v := (-2)) hx hb hr (fun tz htz hWz => ⟨⟨(-2), wv, rfl, ⟨by first | (simp only [cond_true, cond_false, Bool.and_true, Bool.and_false, Bool.true_and, Bool.false_and, e1, e2]; done) | (simp only [cond_true, cond_false, Bool.and_true, Bool.and_false, Bool.true_and, Bool.false_and, e1, e2, e3]; done), by first | (simp only [cond_true, cond_false, Bool.and_true, Bool.and_false, Bool.true_and, Bool.false_and, e1, e2]; exact hva; done) | (simp only [cond_true, cond_false, Bool.and_true, Bool.and_false, Bool.true_and, Bool.false_and, e1, e2, e3]; exact hva; done)⟩, by rw [htz]; exact hP, hD⟩, hS.F htz⟩) hS.2.2 dX8_ground_26
        · skip
          exact absurd cn_11 (by decide)
    · skip
      exact absurd cn_3 (by decide)
  · skip
    have e1 : zi N v = false := zi_f hw_2
    refine zr_ti (y := nI 0) rfl ?_
    refine lv_if_ne (tgt := 10) hx hb dX8_ground_5 (by decide) (fun cn_12 => ?_) (fun cn_12 => ?_)
    · skip
      exact absurd cn_12 (by decide)
    · skip
      refine lv_iconst (v := (-1)) hx hb dX8_ground_8 (by rfl) ?_
      subst hQ; subst hAe
      exact W.iret (v := (-1)) hx hb hr (fun tz htz hWz => ⟨⟨(-1), wv, rfl, ⟨by simp only [cond_true, cond_false, Bool.and_true, Bool.and_false, Bool.true_and, Bool.false_and, e1], by simp only [cond_true, cond_false, Bool.and_true, Bool.and_false, Bool.true_and, Bool.false_and, e1]; exact hva⟩, by rw [htz]; exact hP, hD⟩, hS.F htz⟩) hS.2.2 dX8_ground_9

set_option maxHeartbeats 4000000 in
set_option maxRecDepth 100000 in
theorem c_X8_when (l : Launch) (D : va_G) (E : Nat → ClassId) (m0 : Nat) (w0 : Nat) (w1 : Nat) (w2 : Nat) (w3 : Nat) (w4 : Nat) (w5 : Nat) (w6 : Nat) (w7 : Nat) (w8 : Nat) (w9 : Nat) (ik : Int32) (tx : Nat) (he : Int32) (fa : Int32) (cl : Nat) (wv : Nat → Int32) (N : Nat) (G : Nat → Nat → Nat) (P : Nat → Nat → Nat) (v : Int32) (w : Int32) (hvg : zv_g N G P wv) : Met l yX8_when wsX8_when ({ frames := 2, cells := 0, slots := 0, locals := 46 }) (zr_P D E [.ref m0, .int v, .int w] [(m0, .inr (6, [.ref w0, .ref w1, .ref w2, .int ik, .ref w3, .int (nI tx), .int he, .int fa, .ref w4, .ref w5, .int (nI cl), .ref w6, .ref w7, .ref w8, .ref w9])), (w0, .inl (E 0, 137, .inl wv))]) (zr_Qi (fun zv => zv = cond (zi N v && zi N w && !decide (zq v = zq w)) (zm_meet N G P (zq v) (zq w)) (-1))) 0 0 (fun _ => False) := by
  refine Met.ofW (cc := cX8_when) (maxL := 4) (ret := (some .int)) (by decide) rfl ?_
  intro p e s m args below meth c s₁ Bz hml hv
  obtain ⟨rfl, hP, hK⟩ := hv
  have hx := Bz.exec
  have hb := Bz.bytes
  have hr := Bz.returns
  have hts := atoms_spec (ws := wsX8_when) Bz.pre
  have hown : s.vm.findClass RX8 = some m.cls := findClass_of_methodNamed Bz.named
  have hlocks := Bz.notSynchronized
  have hP : va_P D vwCl [(m0, .inr (6, [.ref w0, .ref w1, .ref w2, .int ik, .ref w3, .int (nI tx), .int he, .int fa, .ref w4, .ref w5, .int (nI cl), .ref w6, .ref w7, .ref w8, .ref w9])), (w0, .inl (E 0, 137, .inl wv))] s.heap := hP
  have hS : va_S (fun _ : Nat => False) s.heap s.heap [] := va_S.rf
  have hl := lv_entry ([.ref m0, .int v, .int w]) (n := 4) (Nat.le_of_ble_eq_true rfl)
  rw [lg_entry_eq]
  generalize (lg_sl ([.ref m0, .int v, .int w]) ++ List.replicate (4 - (lg_sl ([.ref m0, .int v, .int w])).length) Slot.unset).toArray = ls at hl ⊢
  have hl : lv_has ls 4 [(0, .ref m0), (1, .int v), (2, .int w)] := hl
  refine zr_nQ (fun Q hQ => ?_)
  have hok := hvg.1
  have hN := hok.1
  have hvn := hvg.2.1
  refine lv_aload_n hx hb dX8_when_0 rfl (lv_at hl 0 rfl) ?_
  refine lv_iload_n hx hb dX8_when_1 rfl (lv_at hl 1 rfl) ?_
  refine zr_ci hP hS (va_runV (As := [.int v]) (rest := []) ⟨hx, hb, hml, hown, hts⟩ (c_X8_isTeam l D E m0 w0 w1 w2 w3 w4 w5 w6 w7 w8 w9 ik tx he fa cl wv N v (hvn) (hN)) (cwV 1 hts gX8_when_X8_isTeam rfl rfl rfl (by decide +kernel) ⟨Nat.le_of_ble_eq_true rfl, Nat.le_of_ble_eq_true rfl⟩) (zr_V hK (hP.sub (ws' := [(m0, .inr (6, [.ref w0, .ref w1, .ref w2, .int ik, .ref w3, .int (nI tx), .int he, .int fa, .ref w4, .ref w5, .int (nI cl), .ref w6, .ref w7, .ref w8, .ref w9])), (w0, .inl (E 0, 137, .inl wv))]) [0, 1] rfl) (ci := 6) (q0 := 0) rfl rfl) rfl rfl hl.1 rfl (lv_room (Nat.le_of_ble_eq_true rfl)) dX8_when_2 ⟨Nat.zero_le _, Nat.zero_le _⟩) (fun r_1 H locs hw_2 hP hS => ?_)
  rcases hw_2 with ⟨rfl, hw_2⟩ | ⟨rfl, hw_2⟩
  · skip
    obtain ⟨t, ht, v_e⟩ := hw_2
    have e1 : zi N v = true := v_e ▸ zi_t ht (by omega)
    have q1 : zq v = t := v_e ▸ zq_t (by omega)
    rw [v_e] at hl
    refine zr_ti (y := nI 1) rfl ?_
    refine lv_if_eq (tgt := 21) hx hb dX8_when_5 (by decide) (fun cn_3 => ?_) (fun cn_3 => ?_)
    · skip
      exact absurd cn_3 (by decide)
    · skip
      refine lv_aload_n hx hb dX8_when_8 rfl (lv_at hl 0 rfl) ?_
      refine lv_iload_n hx hb dX8_when_9 rfl (lv_at hl 2 rfl) ?_
      refine zr_ci hP hS (va_runV (As := [.int w]) (rest := []) ⟨hx, hb, hml, hown, hts⟩ (c_X8_isTeam l D E m0 w0 w1 w2 w3 w4 w5 w6 w7 w8 w9 ik tx he fa cl wv N w (hvn) (hN)) (cwV 1 hts gX8_when_X8_isTeam rfl rfl rfl (by decide +kernel) ⟨Nat.le_of_ble_eq_true rfl, Nat.le_of_ble_eq_true rfl⟩) (zr_V hK (hP.sub (ws' := [(m0, .inr (6, [.ref w0, .ref w1, .ref w2, .int ik, .ref w3, .int (nI tx), .int he, .int fa, .ref w4, .ref w5, .int (nI cl), .ref w6, .ref w7, .ref w8, .ref w9])), (w0, .inl (E 0, 137, .inl wv))]) [0, 1] rfl) (ci := 6) (q0 := 0) rfl rfl) rfl rfl hl.1 rfl (lv_room (Nat.le_of_ble_eq_true rfl)) dX8_when_10 ⟨Nat.zero_le _, Nat.zero_le _⟩) (fun r_4 H locs hw_5 hP hS => ?_)
      rcases hw_5 with ⟨rfl, hw_5⟩ | ⟨rfl, hw_5⟩
      · skip
        obtain ⟨u, hu, w_e⟩ := hw_5
        have e2 : zi N w = true := w_e ▸ zi_t hu (by omega)
        have q2 : zq w = u := w_e ▸ zq_t (by omega)
        rw [w_e] at hl
        refine zr_ti (y := nI 1) rfl ?_
        refine lv_if_eq (tgt := 21) hx hb dX8_when_13 (by decide) (fun cn_6 => ?_) (fun cn_6 => ?_)
        · skip
          exact absurd cn_6 (by decide)
        · skip
          refine lv_iload_n hx hb dX8_when_16 rfl (lv_at hl 1 rfl) ?_
          refine lv_iload_n hx hb dX8_when_17 rfl (lv_at hl 2 rfl) ?_
          refine lv_icmp_ne (tgt := 23) hx hb dX8_when_18 (by decide) (fun cn_7 => ?_) (fun cn_7 => ?_)
          · skip
            have cn_7 : ¬ (t = u) := fun hz => cn_7 ((nI_eq (a := t) (b := u) (by omega) (by omega)).mpr hz)
            have e9 : decide (t = u) = false := decide_eq_false cn_7
            have htu : t ≠ u := cn_7
            refine lv_iconst (v := nI 0) hx hb dX8_when_23 (by rfl) ?_
            refine lv_istore_n (lv' := [(3, .int (nI 0)), (0, .ref m0), (1, .int (nI t)), (2, .int (nI u))]) hx hb dX8_when_24 rfl hl (by decide) rfl (fun ls hl => ?_)
            suffices KL25 : ∀ (kz : Nat) (i : Nat) (H : Heap) (locs : List Loc) (ls : Array Slot), (N - i) < kz → (zm_meet N G P t u = zm_find (zm_rv G P t) u (N - 1 - i) i) → (i ≤ N - 1) → va_P D vwCl [(m0, .inr (6, [.ref w0, .ref w1, .ref w2, .int ik, .ref w3, .int (nI tx), .int he, .int fa, .ref w4, .ref w5, .int (nI cl), .ref w6, .ref w7, .ref w8, .ref w9])), (w0, .inl (E 0, 137, .inl wv))] H → va_S (fun _ : Nat => False) s.heap H locs → lv_has ls 4 [(0, .ref m0), (1, .int (nI t)), (2, .int (nI u)), (3, .int (nI i))] → W p l e (headSpec wsX8_when ({ frames := 2, cells := 0, slots := 0, locals := 46 })).room s m ([.ref m0, .int v, .int w] : List Value).toArray below meth c H locs 0 0 Q (F0 m 25 ls []) from
              KL25 _ 0 _ _ ls (Nat.lt_succ_self _) (rfl) (by omega) hP hS (lv_sub hl [1, 2, 3, 0] rfl)
            clear hP hS hl
            intro kz
            induction kz with
            | zero => intro i H locs ls hkz; exact absurd hkz (Nat.not_lt_zero _)
            | succ kz ih25 =>
              intro i H locs ls hkz hq hi hP hS hl
              have hrl : i < N - 1 → zm_rv G P t i < N := fun h => zm_rv_lt hok (t := t) (r := i) h (by omega)
              refine lv_iload_n hx hb dX8_when_25 rfl (lv_at hl 3 rfl) ?_
              refine lv_aload_n hx hb dX8_when_26 rfl (lv_at hl 0 rfl) ?_
              refine zr_ci hP hS (va_runV (As := []) (rest := [.int (nI i)]) ⟨hx, hb, hml, hown, hts⟩ (c_X8_rounds l D E m0 w0 w1 w2 w3 w4 w5 w6 w7 w8 w9 ik tx he fa cl wv N (hvn) (hN)) (cwV 0 hts gX8_when_X8_rounds rfl rfl rfl (by decide +kernel) ⟨Nat.le_of_ble_eq_true rfl, Nat.le_of_ble_eq_true rfl⟩) (zr_V hK (hP.sub (ws' := [(m0, .inr (6, [.ref w0, .ref w1, .ref w2, .int ik, .ref w3, .int (nI tx), .int he, .int fa, .ref w4, .ref w5, .int (nI cl), .ref w6, .ref w7, .ref w8, .ref w9])), (w0, .inl (E 0, 137, .inl wv))]) [0, 1] rfl) (ci := 6) (q0 := 0) rfl rfl) rfl rfl hl.1 rfl (lv_room (Nat.le_of_ble_eq_true rfl)) dX8_when_27 ⟨Nat.zero_le _, Nat.zero_le _⟩) (fun r_8 H locs hw_9 hP hS => ?_)
              subst hw_9
              refine lv_icmp_ge (tgt := 51) hx hb dX8_when_30 (by decide) (fun cn_10 => ?_) (fun cn_10 => ?_)
              · skip
                have cn_10 : N - 1 ≤ i := (nI_leI (a := N - 1) (b := i) (by omega) (by omega)).mp cn_10
                have hie : i = N - 1 := by omega
                refine lv_iconst (v := (-1)) hx hb dX8_when_51 (by rfl) ?_
                subst hQ
                exact W.iret (v := (-1)) hx hb hr (fun tz htz hWz => ⟨⟨(-1), (), rfl, by simp only [cond_true, Bool.and_true, Bool.true_and, e1, e2, q1, q2, e9, Bool.not_false]; rw [hq, hie, Nat.sub_self]; rfl, trivial⟩, hS.F htz⟩) hS.2.2 dX8_when_52
              · skip
                have cn_10 : ¬ (N - 1 ≤ i) := fun hz => cn_10 ((nI_leI (a := N - 1) (b := i) (by omega) (by omega)).mpr hz)
                refine lv_aload_n hx hb dX8_when_33 rfl (lv_at hl 0 rfl) ?_
                refine lv_iload_n hx hb dX8_when_34 rfl (lv_at hl 1 rfl) ?_
                refine lv_iload_n hx hb dX8_when_35 rfl (lv_at hl 3 rfl) ?_
                refine zr_ci hP hS (va_runV (As := [.int (nI t), .int (nI i)]) (rest := []) ⟨hx, hb, hml, hown, hts⟩ (c_X8_meets l D E m0 w0 w1 w2 w3 w4 w5 w6 w7 w8 w9 ik tx he fa cl wv N G P t i (hvg) (by omega) (by omega)) (cwV 2 hts gX8_when_X8_meets rfl rfl rfl (by decide +kernel) ⟨Nat.le_of_ble_eq_true rfl, Nat.le_of_ble_eq_true rfl⟩) (zr_V hK (hP.sub (ws' := [(m0, .inr (6, [.ref w0, .ref w1, .ref w2, .int ik, .ref w3, .int (nI tx), .int he, .int fa, .ref w4, .ref w5, .int (nI cl), .ref w6, .ref w7, .ref w8, .ref w9])), (w0, .inl (E 0, 137, .inl wv))]) [0, 1] rfl) (ci := 6) (q0 := 0) rfl rfl) rfl rfl hl.1 rfl (lv_room (Nat.le_of_ble_eq_true rfl)) dX8_when_36 ⟨Nat.zero_le _, Nat.zero_le _⟩) (fun r_11 H locs hw_12 hP hS => ?_)
                subst hw_12
                refine lv_iload_n hx hb dX8_when_39 rfl (lv_at hl 2 rfl) ?_
                refine lv_icmp_ne (tgt := 45) hx hb dX8_when_40 (by decide) (fun cn_13 => ?_) (fun cn_13 => ?_)
                · skip
                  have cn_13 : ¬ (zm_rv G P t i = u) := fun hz => cn_13 ((nI_eq (a := zm_rv G P t i) (b := u) (by omega) (by omega)).mpr hz)
                  have hbr := cn_13
                  refine lv_iinc (v := nI (i + 1)) (lv' := [(3, .int (nI (i + 1))), (0, .ref m0), (1, .int (nI t)), (2, .int (nI u))]) hx hb dX8_when_45 hl (k := 3) rfl (nI_add _ _) (by decide) rfl (fun ls hl => ?_)
                  refine lv_goto (tgt := 25) hx hb dX8_when_48 (by decide) ?_
                  have hl : lv_has ls 4 [(0, .ref m0), (1, .int (nI t)), (2, .int (nI u)), (3, .int (nI (i + 1)))] := lv_sub hl [1, 2, 3, 0] rfl
                  exact ih25 (i + 1) H locs ls (by omega) (by rw [hq, show N - 1 - i = (N - 1 - (i + 1)) + 1 from by omega, zm_find, if_neg hbr]) (by omega) hP hS hl
                · skip
                  have cn_13 : zm_rv G P t i = u := (nI_eq (a := zm_rv G P t i) (b := u) (by omega) (by omega)).mp cn_13
                  have hbr := cn_13
                  refine lv_iload_n hx hb dX8_when_43 rfl (lv_at hl 3 rfl) ?_
                  subst hQ
                  exact W.iret (v := nI i) hx hb hr (fun tz htz hWz => ⟨⟨nI i, (), rfl, by simp only [cond_true, Bool.and_true, Bool.true_and, e1, e2, q1, q2, e9, Bool.not_false]; rw [hq, show N - 1 - i = (N - 1 - (i + 1)) + 1 from by omega, zm_find, if_pos hbr], trivial⟩, hS.F htz⟩) hS.2.2 dX8_when_44
          · skip
            have cn_7 : t = u := (nI_eq (a := t) (b := u) (by omega) (by omega)).mp cn_7
            have e9 : decide (t = u) = true := decide_eq_true cn_7
            refine lv_iconst (v := (-1)) hx hb dX8_when_21 (by rfl) ?_
            subst hQ
            exact W.iret (v := (-1)) hx hb hr (fun tz htz hWz => ⟨⟨(-1), (), rfl, by first | (simp only [cond_true, cond_false, Bool.and_true, Bool.and_false, Bool.true_and, Bool.false_and, e1]; done) | (simp only [cond_true, cond_false, Bool.and_true, Bool.and_false, Bool.true_and, Bool.false_and, e1, e2]; done) | (simp only [cond_true, cond_false, Bool.and_true, Bool.and_false, Bool.true_and, Bool.false_and, e1, e2, q1, q2, e9, Bool.not_true]; done), trivial⟩, hS.F htz⟩) hS.2.2 dX8_when_22
      · skip
        have e2 : zi N w = false := zi_f hw_5
        refine zr_ti (y := nI 0) rfl ?_
        refine lv_if_eq (tgt := 21) hx hb dX8_when_13 (by decide) (fun cn_14 => ?_) (fun cn_14 => ?_)
        · skip
          refine lv_iconst (v := (-1)) hx hb dX8_when_21 (by rfl) ?_
          subst hQ
          exact W.iret (v := (-1)) hx hb hr (fun tz htz hWz => ⟨⟨(-1), (), rfl, by first | (simp only [cond_true, cond_false, Bool.and_true, Bool.and_false, Bool.true_and, Bool.false_and, e1]; done) | (simp only [cond_true, cond_false, Bool.and_true, Bool.and_false, Bool.true_and, Bool.false_and, e1, e2]; done) | (simp only [cond_true, cond_false, Bool.and_true, Bool.and_false, Bool.true_and, Bool.false_and, e1, e2, q1, q2, e9, Bool.not_true]; done), trivial⟩, hS.F htz⟩) hS.2.2 dX8_when_22
        · skip
          exact absurd cn_14 (by decide)
  · skip
    have e1 : zi N v = false := zi_f hw_2
    refine zr_ti (y := nI 0) rfl ?_
    refine lv_if_eq (tgt := 21) hx hb dX8_when_5 (by decide) (fun cn_15 => ?_) (fun cn_15 => ?_)
    · skip
      refine lv_iconst (v := (-1)) hx hb dX8_when_21 (by rfl) ?_
      subst hQ
      exact W.iret (v := (-1)) hx hb hr (fun tz htz hWz => ⟨⟨(-1), (), rfl, by first | (simp only [cond_true, cond_false, Bool.and_true, Bool.and_false, Bool.true_and, Bool.false_and, e1]; done) | (simp only [cond_true, cond_false, Bool.and_true, Bool.and_false, Bool.true_and, Bool.false_and, e1, e2]; done) | (simp only [cond_true, cond_false, Bool.and_true, Bool.and_false, Bool.true_and, Bool.false_and, e1, e2, q1, q2, e9, Bool.not_true]; done), trivial⟩, hS.F htz⟩) hS.2.2 dX8_when_22
    · skip
      exact absurd cn_15 (by decide)

set_option maxHeartbeats 4000000 in
set_option maxRecDepth 100000 in
theorem c_X8_swap (l : Launch) (D : va_G) (E : Nat → ClassId) (m0 : Nat) (w0 : Nat) (w1 : Nat) (w2 : Nat) (w3 : Nat) (w4 : Nat) (w5 : Nat) (w6 : Nat) (w7 : Nat) (w8 : Nat) (w9 : Nat) (ik : Int32) (tx : Nat) (he : Int32) (fa : Int32) (cl : Nat) (wv : Nat → Int32) (N : Nat) (G : Nat → Nat → Nat) (P : Nat → Nat → Nat) (X : Nat → Nat) (Y : Nat → Nat) (B : Nat → Nat → Nat) (R : Nat → Nat) (kd : Nat) (sn : Nat) (sT : Nat → Nat) (sR : Nat → Nat) (sH : Nat → Nat) (en : Nat) (eW : Nat → Nat) (eN : Nat → Nat) (bn : Nat) (bT : Nat → Nat) (bN : Nat → Nat) (v : Int32) (w : Int32) (hva : zv_all N G P X Y B R kd sn sT sR sH en eW eN bn bT bN wv) (hzs : zs_all N kd sn sT sR sH en eW eN bn bT bN) : Met l yX8_swap wsX8_swap ({ frames := 4, cells := 0, slots := 0, locals := 90 }) (zw_P D E [.ref m0, .int v, .int w] [(m0, .inr (6, [.ref w0, .ref w1, .ref w2, .int ik, .ref w3, .int (nI tx), .int he, .int fa, .ref w4, .ref w5, .int (nI cl), .ref w6, .ref w7, .ref w8, .ref w9])), (w0, .inl (E 0, 137, .inl wv))]) (zw_Qi D [(m0, .inr (6, [.ref w0, .ref w1, .ref w2, .int ik, .ref w3, .int (nI tx), .int he, .int fa, .ref w4, .ref w5, .int (nI cl), .ref w6, .ref w7, .ref w8, .ref w9])), (w0, .inl (E 0, 137, .inl wv))] (fun zv (u : (Nat → Int32)) => zv = cond (zi (N - 1) v && zi (N - 1) w) (nI (zm_brs N (zm_sw P (zq v) (zq w)))) (-1) ∧ zv_all N (cond (zi (N - 1) v && zi (N - 1) w) (zm_sw G (zq v) (zq w)) G) (cond (zi (N - 1) v && zi (N - 1) w) (zm_sw P (zq v) (zq w)) P) X Y B R kd sn sT sR sH en eW eN bn bT bN u) (fun (u : (Nat → Int32)) => [(m0, .inr (6, [.ref w0, .ref w1, .ref w2, .int ik, .ref w3, .int (nI tx), .int he, .int fa, .ref w4, .ref w5, .int (nI cl), .ref w6, .ref w7, .ref w8, .ref w9])), (w0, .inl (E 0, 137, .inl u))])) 0 0 (zw_A [(m0, .inr (6, [.ref w0, .ref w1, .ref w2, .int ik, .ref w3, .int (nI tx), .int he, .int fa, .ref w4, .ref w5, .int (nI cl), .ref w6, .ref w7, .ref w8, .ref w9])), (w0, .inl (E 0, 137, .inl wv))]) := by
  refine Met.ofW (cc := cX8_swap) (maxL := 3) (ret := (some .int)) (by decide) rfl ?_
  intro p e s m args below meth c s₁ Bz hml hv
  obtain ⟨rfl, hP, hK, hD0⟩ := hv
  have hx := Bz.exec
  have hb := Bz.bytes
  have hr := Bz.returns
  have hts := atoms_spec (ws := wsX8_swap) Bz.pre
  have hown : s.vm.findClass RX8 = some m.cls := findClass_of_methodNamed Bz.named
  have hlocks := Bz.notSynchronized
  have hP : va_P D vwCl [(m0, .inr (6, [.ref w0, .ref w1, .ref w2, .int ik, .ref w3, .int (nI tx), .int he, .int fa, .ref w4, .ref w5, .int (nI cl), .ref w6, .ref w7, .ref w8, .ref w9])), (w0, .inl (E 0, 137, .inl wv))] s.heap := hP
  obtain ⟨A, hAe⟩ : ∃ A : Nat → Prop, A = zw_A [(m0, .inr (6, [.ref w0, .ref w1, .ref w2, .int ik, .ref w3, .int (nI tx), .int he, .int fa, .ref w4, .ref w5, .int (nI cl), .ref w6, .ref w7, .ref w8, .ref w9])), (w0, .inl (E 0, 137, .inl wv))] := ⟨_, rfl⟩
  have hD : va_D A [(m0, .inr (6, [.ref w0, .ref w1, .ref w2, .int ik, .ref w3, .int (nI tx), .int he, .int fa, .ref w4, .ref w5, .int (nI cl), .ref w6, .ref w7, .ref w8, .ref w9])), (w0, .inl (E 0, 137, .inl wv))] := hAe ▸ zw_own hD0
  have hS : va_S A s.heap s.heap [] := va_S.rf
  have hl := lv_entry ([.ref m0, .int v, .int w]) (n := 3) (Nat.le_of_ble_eq_true rfl)
  rw [lg_entry_eq]
  generalize (lg_sl ([.ref m0, .int v, .int w]) ++ List.replicate (3 - (lg_sl ([.ref m0, .int v, .int w])).length) Slot.unset).toArray = ls at hl ⊢
  have hl : lv_has ls 3 [(0, .ref m0), (1, .int v), (2, .int w)] := hl
  refine zr_nQ (fun Q hQ => ?_)
  obtain ⟨hvg, hxy, hvb, hvr, hkv, hzc, hze, hzb, hn6, hn8, hm8⟩ := id hva
  obtain ⟨hkd, hse, hev, hbo⟩ := id hzs
  have hok := hvg.1
  have hN := hok.1
  have hvn := hvg.2.1
  have hgr := zm_gr_of hxy
  refine lv_aload_n hx hb dX8_swap_0 rfl (lv_at hl 0 rfl) ?_
  refine lv_iload_n hx hb dX8_swap_1 rfl (lv_at hl 1 rfl) ?_
  refine zr_ci hP hS (va_runV (As := [.int v]) (rest := []) ⟨hx, hb, hml, hown, hts⟩ (c_X8_isRound l D E m0 w0 w1 w2 w3 w4 w5 w6 w7 w8 w9 ik tx he fa cl wv N v (hvn) (hN)) (cwV 1 hts gX8_swap_X8_isRound rfl rfl rfl (by decide +kernel) ⟨Nat.le_of_ble_eq_true rfl, Nat.le_of_ble_eq_true rfl⟩) (zr_V hK (hP.sub (ws' := [(m0, .inr (6, [.ref w0, .ref w1, .ref w2, .int ik, .ref w3, .int (nI tx), .int he, .int fa, .ref w4, .ref w5, .int (nI cl), .ref w6, .ref w7, .ref w8, .ref w9])), (w0, .inl (E 0, 137, .inl wv))]) [0, 1] rfl) (ci := 6) (q0 := 0) rfl rfl) rfl rfl hl.1 rfl (lv_room (Nat.le_of_ble_eq_true rfl)) dX8_swap_2 ⟨Nat.zero_le _, Nat.zero_le _⟩) (fun r_1 H locs hw_2 hP hS => ?_)
  rcases hw_2 with ⟨rfl, hw_2⟩ | ⟨rfl, hw_2⟩
  · skip
    obtain ⟨t, ht, v_e⟩ := hw_2
    have e1 : zi (N - 1) v = true := v_e ▸ zi_t ht (by omega)
    have q1 : zq v = t := v_e ▸ zq_t (by omega)
    rw [v_e] at hl
    refine zr_ti (y := nI 1) rfl ?_
    refine lv_if_eq (tgt := 16) hx hb dX8_swap_5 (by decide) (fun cn_3 => ?_) (fun cn_3 => ?_)
    · skip
      exact absurd cn_3 (by decide)
    · skip
      refine lv_aload_n hx hb dX8_swap_8 rfl (lv_at hl 0 rfl) ?_
      refine lv_iload_n hx hb dX8_swap_9 rfl (lv_at hl 2 rfl) ?_
      refine zr_ci hP hS (va_runV (As := [.int w]) (rest := []) ⟨hx, hb, hml, hown, hts⟩ (c_X8_isRound l D E m0 w0 w1 w2 w3 w4 w5 w6 w7 w8 w9 ik tx he fa cl wv N w (hvn) (hN)) (cwV 1 hts gX8_swap_X8_isRound rfl rfl rfl (by decide +kernel) ⟨Nat.le_of_ble_eq_true rfl, Nat.le_of_ble_eq_true rfl⟩) (zr_V hK (hP.sub (ws' := [(m0, .inr (6, [.ref w0, .ref w1, .ref w2, .int ik, .ref w3, .int (nI tx), .int he, .int fa, .ref w4, .ref w5, .int (nI cl), .ref w6, .ref w7, .ref w8, .ref w9])), (w0, .inl (E 0, 137, .inl wv))]) [0, 1] rfl) (ci := 6) (q0 := 0) rfl rfl) rfl rfl hl.1 rfl (lv_room (Nat.le_of_ble_eq_true rfl)) dX8_swap_10 ⟨Nat.zero_le _, Nat.zero_le _⟩) (fun r_4 H locs hw_5 hP hS => ?_)
      rcases hw_5 with ⟨rfl, hw_5⟩ | ⟨rfl, hw_5⟩
      · skip
        obtain ⟨u, hu, w_e⟩ := hw_5
        have e2 : zi (N - 1) w = true := w_e ▸ zi_t hu (by omega)
        have q2 : zq w = u := w_e ▸ zq_t (by omega)
        rw [w_e] at hl
        refine zr_ti (y := nI 1) rfl ?_
        refine lv_if_ne (tgt := 18) hx hb dX8_swap_13 (by decide) (fun cn_6 => ?_) (fun cn_6 => ?_)
        · skip
          refine lv_aload_n hx hb dX8_swap_18 rfl (lv_at hl 0 rfl) ?_
          refine lv_iload_n hx hb dX8_swap_19 rfl (lv_at hl 1 rfl) ?_
          refine lv_iload_n hx hb dX8_swap_20 rfl (lv_at hl 2 rfl) ?_
          have hPc := hP.sub (ws' := [(m0, .inr (6, [.ref w0, .ref w1, .ref w2, .int ik, .ref w3, .int (nI tx), .int he, .int fa, .ref w4, .ref w5, .int (nI cl), .ref w6, .ref w7, .ref w8, .ref w9])), (w0, .inl (E 0, 137, .inl wv))]) [0, 1] rfl
          have hDc := hD.sub (ws' := [(m0, .inr (6, [.ref w0, .ref w1, .ref w2, .int ik, .ref w3, .int (nI tx), .int he, .int fa, .ref w4, .ref w5, .int (nI cl), .ref w6, .ref w7, .ref w8, .ref w9])), (w0, .inl (E 0, 137, .inl wv))]) [0, 1] (by decide +kernel) rfl
          have hAc := zw_AA (wc := [(m0, .inr (6, [.ref w0, .ref w1, .ref w2, .int ik, .ref w3, .int (nI tx), .int he, .int fa, .ref w4, .ref w5, .int (nI cl), .ref w6, .ref w7, .ref w8, .ref w9])), (w0, .inl (E 0, 137, .inl wv))]) hD [0, 1] rfl
          refine zw_cv hAc hS (va_runV (As := [.int (nI t), .int (nI u)]) (rest := []) ⟨hx, hb, hml, hown, hts⟩ (c_X8_swaps l D E m0 w0 w1 w2 w3 w4 w5 w6 w7 w8 w9 ik tx he fa cl wv N G P t u (hvg) (by omega) (by omega)) (cwV 2 hts gX8_swap_X8_swaps rfl rfl rfl (by decide +kernel) ⟨Nat.le_of_ble_eq_true rfl, Nat.le_of_ble_eq_true rfl⟩) (zw_V hK hPc hDc (ci := 6) (q0 := 0) rfl rfl) rfl rfl hl.1 rfl (lv_room (Nat.le_of_ble_eq_true rfl)) dX8_swap_21 ⟨Nat.zero_le _, Nat.zero_le _⟩) (fun u_9 H locs hw_8 hP1 hD1 hk1 hS => ?_)
          obtain ⟨wvn_10, rfl⟩ : ∃ z, z = u_9 := ⟨_, rfl⟩
          try dsimp only at hw_8 hP1 hD1
          obtain ⟨hP, hD⟩ := zw_join (wr := []) (w1 := [(m0, .inr (6, [.ref w0, .ref w1, .ref w2, .int ik, .ref w3, .int (nI tx), .int he, .int fa, .ref w4, .ref w5, .int (nI cl), .ref w6, .ref w7, .ref w8, .ref w9])), (w0, .inl (E 0, 137, .inl wvn_10))]) (ws' := [(m0, .inr (6, [.ref w0, .ref w1, .ref w2, .int ik, .ref w3, .int (nI tx), .int he, .int fa, .ref w4, .ref w5, .int (nI cl), .ref w6, .ref w7, .ref w8, .ref w9])), (w0, .inl (E 0, 137, .inl wvn_10))]) hP hD [0, 1] [] [0, 1] rfl rfl (by decide +kernel) (by decide +kernel) hAc hk1 hP1 hD1 (by decide +kernel) rfl
          clear hP1 hD1 hk1 hPc hDc hAc
          have hnew := hw_8
          have hvn9 := hnew.1.2.1
          refine lv_aload_n hx hb dX8_swap_24 rfl (lv_at hl 0 rfl) ?_
          refine zr_ci hP hS (va_runV (As := []) (rest := []) ⟨hx, hb, hml, hown, hts⟩ (c_X8_allBreaks l D E m0 w0 w1 w2 w3 w4 w5 w6 w7 w8 w9 ik tx he fa cl wvn_10 N (zm_sw G t u) (zm_sw P t u) (hnew.1)) (cwV 0 hts gX8_swap_X8_allBreaks rfl rfl rfl (by decide +kernel) ⟨Nat.le_of_ble_eq_true rfl, Nat.le_of_ble_eq_true rfl⟩) (zr_V hK (hP.sub (ws' := [(m0, .inr (6, [.ref w0, .ref w1, .ref w2, .int ik, .ref w3, .int (nI tx), .int he, .int fa, .ref w4, .ref w5, .int (nI cl), .ref w6, .ref w7, .ref w8, .ref w9])), (w0, .inl (E 0, 137, .inl wvn_10))]) [0, 1] rfl) (ci := 6) (q0 := 0) rfl rfl) rfl rfl hl.1 rfl (lv_room (Nat.le_of_ble_eq_true rfl)) dX8_swap_25 ⟨Nat.zero_le _, Nat.zero_le _⟩) (fun r_11 H locs hw_12 hP hS => ?_)
          subst hw_12
          subst hQ; subst hAe
          exact W.iret (v := nI (zm_brs N (zm_sw P t u))) hx hb hr (fun tz htz hWz => ⟨⟨nI (zm_brs N (zm_sw P t u)), wvn_10, rfl, ⟨by simp only [cond_true, cond_false, Bool.and_true, Bool.and_false, Bool.true_and, Bool.false_and, e1, e2, q1, q2], by simp only [cond_true, cond_false, Bool.and_true, Bool.and_false, Bool.true_and, Bool.false_and, e1, e2, q1, q2]; exact zv_all_off hva hnew.1 hnew.2⟩, by rw [htz]; exact hP, hD⟩, hS.F htz⟩) hS.2.2 dX8_swap_28
        · skip
          exact absurd cn_6 (by decide)
      · skip
        have e2 : zi (N - 1) w = false := zi_f hw_5
        refine zr_ti (y := nI 0) rfl ?_
        refine lv_if_ne (tgt := 18) hx hb dX8_swap_13 (by decide) (fun cn_13 => ?_) (fun cn_13 => ?_)
        · skip
          exact absurd cn_13 (by decide)
        · skip
          refine lv_iconst (v := (-1)) hx hb dX8_swap_16 (by rfl) ?_
          subst hQ; subst hAe
          exact W.iret (v := (-1)) hx hb hr (fun tz htz hWz => ⟨⟨(-1), wv, rfl, ⟨by first | (simp only [cond_true, cond_false, Bool.and_true, Bool.and_false, Bool.true_and, Bool.false_and, e1]; done) | (simp only [cond_true, cond_false, Bool.and_true, Bool.and_false, Bool.true_and, Bool.false_and, e1, e2]; done), by first | (simp only [cond_true, cond_false, Bool.and_true, Bool.and_false, Bool.true_and, Bool.false_and, e1]; exact hva; done) | (simp only [cond_true, cond_false, Bool.and_true, Bool.and_false, Bool.true_and, Bool.false_and, e1, e2]; exact hva; done)⟩, by rw [htz]; exact hP, hD⟩, hS.F htz⟩) hS.2.2 dX8_swap_17
  · skip
    have e1 : zi (N - 1) v = false := zi_f hw_2
    refine zr_ti (y := nI 0) rfl ?_
    refine lv_if_eq (tgt := 16) hx hb dX8_swap_5 (by decide) (fun cn_14 => ?_) (fun cn_14 => ?_)
    · skip
      refine lv_iconst (v := (-1)) hx hb dX8_swap_16 (by rfl) ?_
      subst hQ; subst hAe
      exact W.iret (v := (-1)) hx hb hr (fun tz htz hWz => ⟨⟨(-1), wv, rfl, ⟨by first | (simp only [cond_true, cond_false, Bool.and_true, Bool.and_false, Bool.true_and, Bool.false_and, e1]; done) | (simp only [cond_true, cond_false, Bool.and_true, Bool.and_false, Bool.true_and, Bool.false_and, e1, e2]; done), by first | (simp only [cond_true, cond_false, Bool.and_true, Bool.and_false, Bool.true_and, Bool.false_and, e1]; exact hva; done) | (simp only [cond_true, cond_false, Bool.and_true, Bool.and_false, Bool.true_and, Bool.false_and, e1, e2]; exact hva; done)⟩, by rw [htz]; exact hP, hD⟩, hS.F htz⟩) hS.2.2 dX8_swap_17
    · skip
      exact absurd cn_14 (by decide)

set_option maxHeartbeats 4000000 in
set_option maxRecDepth 100000 in
theorem c_X8_turn (l : Launch) (D : va_G) (E : Nat → ClassId) (m0 : Nat) (w0 : Nat) (w1 : Nat) (w2 : Nat) (w3 : Nat) (w4 : Nat) (w5 : Nat) (w6 : Nat) (w7 : Nat) (w8 : Nat) (w9 : Nat) (ik : Int32) (tx : Nat) (he : Int32) (fa : Int32) (cl : Nat) (wv : Nat → Int32) (N : Nat) (G : Nat → Nat → Nat) (P : Nat → Nat → Nat) (X : Nat → Nat) (Y : Nat → Nat) (B : Nat → Nat → Nat) (R : Nat → Nat) (kd : Nat) (sn : Nat) (sT : Nat → Nat) (sR : Nat → Nat) (sH : Nat → Nat) (en : Nat) (eW : Nat → Nat) (eN : Nat → Nat) (bn : Nat) (bT : Nat → Nat) (bN : Nat → Nat) (v : Int32) (w : Int32) (hva : zv_all N G P X Y B R kd sn sT sR sH en eW eN bn bT bN wv) (hzs : zs_all N kd sn sT sR sH en eW eN bn bT bN) : Met l yX8_turn wsX8_turn ({ frames := 2, cells := 0, slots := 0, locals := 46 }) (zw_P D E [.ref m0, .int v, .int w] [(m0, .inr (6, [.ref w0, .ref w1, .ref w2, .int ik, .ref w3, .int (nI tx), .int he, .int fa, .ref w4, .ref w5, .int (nI cl), .ref w6, .ref w7, .ref w8, .ref w9])), (w0, .inl (E 0, 137, .inl wv))]) (zw_Qi D [(m0, .inr (6, [.ref w0, .ref w1, .ref w2, .int ik, .ref w3, .int (nI tx), .int he, .int fa, .ref w4, .ref w5, .int (nI cl), .ref w6, .ref w7, .ref w8, .ref w9])), (w0, .inl (E 0, 137, .inl wv))] (fun zv (u : (Nat → Int32)) => zv = cond (zi (N - 1) v && zi (N / 2) w) (nI (zm_tuG G (zq v) (zq w) (zq v) (2 * zq w))) (-1) ∧ zv_all N (cond (zi (N - 1) v && zi (N / 2) w) (zm_tuG G (zq v) (zq w)) G) (cond (zi (N - 1) v && zi (N / 2) w) (zm_tuP P (zq v) (zq w)) P) X Y B R kd sn sT sR sH en eW eN bn bT bN u) (fun (u : (Nat → Int32)) => [(m0, .inr (6, [.ref w0, .ref w1, .ref w2, .int ik, .ref w3, .int (nI tx), .int he, .int fa, .ref w4, .ref w5, .int (nI cl), .ref w6, .ref w7, .ref w8, .ref w9])), (w0, .inl (E 0, 137, .inl u))])) 0 0 (zw_A [(m0, .inr (6, [.ref w0, .ref w1, .ref w2, .int ik, .ref w3, .int (nI tx), .int he, .int fa, .ref w4, .ref w5, .int (nI cl), .ref w6, .ref w7, .ref w8, .ref w9])), (w0, .inl (E 0, 137, .inl wv))]) := by
  refine Met.ofW (cc := cX8_turn) (maxL := 3) (ret := (some .int)) (by decide) rfl ?_
  intro p e s m args below meth c s₁ Bz hml hv
  obtain ⟨rfl, hP, hK, hD0⟩ := hv
  have hx := Bz.exec
  have hb := Bz.bytes
  have hr := Bz.returns
  have hts := atoms_spec (ws := wsX8_turn) Bz.pre
  have hown : s.vm.findClass RX8 = some m.cls := findClass_of_methodNamed Bz.named
  have hlocks := Bz.notSynchronized
  have hP : va_P D vwCl [(m0, .inr (6, [.ref w0, .ref w1, .ref w2, .int ik, .ref w3, .int (nI tx), .int he, .int fa, .ref w4, .ref w5, .int (nI cl), .ref w6, .ref w7, .ref w8, .ref w9])), (w0, .inl (E 0, 137, .inl wv))] s.heap := hP
  obtain ⟨A, hAe⟩ : ∃ A : Nat → Prop, A = zw_A [(m0, .inr (6, [.ref w0, .ref w1, .ref w2, .int ik, .ref w3, .int (nI tx), .int he, .int fa, .ref w4, .ref w5, .int (nI cl), .ref w6, .ref w7, .ref w8, .ref w9])), (w0, .inl (E 0, 137, .inl wv))] := ⟨_, rfl⟩
  have hD : va_D A [(m0, .inr (6, [.ref w0, .ref w1, .ref w2, .int ik, .ref w3, .int (nI tx), .int he, .int fa, .ref w4, .ref w5, .int (nI cl), .ref w6, .ref w7, .ref w8, .ref w9])), (w0, .inl (E 0, 137, .inl wv))] := hAe ▸ zw_own hD0
  have hS : va_S A s.heap s.heap [] := va_S.rf
  have hl := lv_entry ([.ref m0, .int v, .int w]) (n := 3) (Nat.le_of_ble_eq_true rfl)
  rw [lg_entry_eq]
  generalize (lg_sl ([.ref m0, .int v, .int w]) ++ List.replicate (3 - (lg_sl ([.ref m0, .int v, .int w])).length) Slot.unset).toArray = ls at hl ⊢
  have hl : lv_has ls 3 [(0, .ref m0), (1, .int v), (2, .int w)] := hl
  refine zr_nQ (fun Q hQ => ?_)
  obtain ⟨hvg, hxy, hvb, hvr, hkv, hzc, hze, hzb, hn6, hn8, hm8⟩ := id hva
  obtain ⟨hkd, hse, hev, hbo⟩ := id hzs
  have hok := hvg.1
  have hN := hok.1
  have hvn := hvg.2.1
  have hgr := zm_gr_of hxy
  refine lv_aload_n hx hb dX8_turn_0 rfl (lv_at hl 0 rfl) ?_
  refine lv_iload_n hx hb dX8_turn_1 rfl (lv_at hl 1 rfl) ?_
  refine zr_ci hP hS (va_runV (As := [.int v]) (rest := []) ⟨hx, hb, hml, hown, hts⟩ (c_X8_isRound l D E m0 w0 w1 w2 w3 w4 w5 w6 w7 w8 w9 ik tx he fa cl wv N v (hvn) (hN)) (cwV 1 hts gX8_turn_X8_isRound rfl rfl rfl (by decide +kernel) ⟨Nat.le_of_ble_eq_true rfl, Nat.le_of_ble_eq_true rfl⟩) (zr_V hK (hP.sub (ws' := [(m0, .inr (6, [.ref w0, .ref w1, .ref w2, .int ik, .ref w3, .int (nI tx), .int he, .int fa, .ref w4, .ref w5, .int (nI cl), .ref w6, .ref w7, .ref w8, .ref w9])), (w0, .inl (E 0, 137, .inl wv))]) [0, 1] rfl) (ci := 6) (q0 := 0) rfl rfl) rfl rfl hl.1 rfl (lv_room (Nat.le_of_ble_eq_true rfl)) dX8_turn_2 ⟨Nat.zero_le _, Nat.zero_le _⟩) (fun r_1 H locs hw_2 hP hS => ?_)
  rcases hw_2 with ⟨rfl, hw_2⟩ | ⟨rfl, hw_2⟩
  · skip
    obtain ⟨t, ht, v_e⟩ := hw_2
    have e1 : zi (N - 1) v = true := v_e ▸ zi_t ht (by omega)
    have q1 : zq v = t := v_e ▸ zq_t (by omega)
    rw [v_e] at hl
    refine zr_ti (y := nI 1) rfl ?_
    refine lv_if_eq (tgt := 16) hx hb dX8_turn_5 (by decide) (fun cn_3 => ?_) (fun cn_3 => ?_)
    · skip
      exact absurd cn_3 (by decide)
    · skip
      refine lv_aload_n hx hb dX8_turn_8 rfl (lv_at hl 0 rfl) ?_
      refine lv_iload_n hx hb dX8_turn_9 rfl (lv_at hl 2 rfl) ?_
      refine zr_ci hP hS (va_runV (As := [.int w]) (rest := []) ⟨hx, hb, hml, hown, hts⟩ (c_X8_isGame l D E m0 w0 w1 w2 w3 w4 w5 w6 w7 w8 w9 ik tx he fa cl wv N w (hvn) (hN)) (cwV 1 hts gX8_turn_X8_isGame rfl rfl rfl (by decide +kernel) ⟨Nat.le_of_ble_eq_true rfl, Nat.le_of_ble_eq_true rfl⟩) (zr_V hK (hP.sub (ws' := [(m0, .inr (6, [.ref w0, .ref w1, .ref w2, .int ik, .ref w3, .int (nI tx), .int he, .int fa, .ref w4, .ref w5, .int (nI cl), .ref w6, .ref w7, .ref w8, .ref w9])), (w0, .inl (E 0, 137, .inl wv))]) [0, 1] rfl) (ci := 6) (q0 := 0) rfl rfl) rfl rfl hl.1 rfl (lv_room (Nat.le_of_ble_eq_true rfl)) dX8_turn_10 ⟨Nat.zero_le _, Nat.zero_le _⟩) (fun r_4 H locs hw_5 hP hS => ?_)
      rcases hw_5 with ⟨rfl, hw_5⟩ | ⟨rfl, hw_5⟩
      · skip
        obtain ⟨u, hu, w_e⟩ := hw_5
        have e2 : zi (N / 2) w = true := w_e ▸ zi_t hu (by omega)
        have q2 : zq w = u := w_e ▸ zq_t (by omega)
        rw [w_e] at hl
        refine zr_ti (y := nI 1) rfl ?_
        refine lv_if_ne (tgt := 18) hx hb dX8_turn_13 (by decide) (fun cn_6 => ?_) (fun cn_6 => ?_)
        · skip
          refine lv_aload_n hx hb dX8_turn_18 rfl (lv_at hl 0 rfl) ?_
          refine lv_iload_n hx hb dX8_turn_19 rfl (lv_at hl 1 rfl) ?_
          refine lv_iload_n hx hb dX8_turn_20 rfl (lv_at hl 2 rfl) ?_
          have hPc := hP.sub (ws' := [(m0, .inr (6, [.ref w0, .ref w1, .ref w2, .int ik, .ref w3, .int (nI tx), .int he, .int fa, .ref w4, .ref w5, .int (nI cl), .ref w6, .ref w7, .ref w8, .ref w9])), (w0, .inl (E 0, 137, .inl wv))]) [0, 1] rfl
          have hDc := hD.sub (ws' := [(m0, .inr (6, [.ref w0, .ref w1, .ref w2, .int ik, .ref w3, .int (nI tx), .int he, .int fa, .ref w4, .ref w5, .int (nI cl), .ref w6, .ref w7, .ref w8, .ref w9])), (w0, .inl (E 0, 137, .inl wv))]) [0, 1] (by decide +kernel) rfl
          have hAc := zw_AA (wc := [(m0, .inr (6, [.ref w0, .ref w1, .ref w2, .int ik, .ref w3, .int (nI tx), .int he, .int fa, .ref w4, .ref w5, .int (nI cl), .ref w6, .ref w7, .ref w8, .ref w9])), (w0, .inl (E 0, 137, .inl wv))]) hD [0, 1] rfl
          refine zw_cv hAc hS (va_runV (As := [.int (nI t), .int (nI u)]) (rest := []) ⟨hx, hb, hml, hown, hts⟩ (c_X8_turns l D E m0 w0 w1 w2 w3 w4 w5 w6 w7 w8 w9 ik tx he fa cl wv N G P t u (hvg) (by omega) (by omega)) (cwV 2 hts gX8_turn_X8_turns rfl rfl rfl (by decide +kernel) ⟨Nat.le_of_ble_eq_true rfl, Nat.le_of_ble_eq_true rfl⟩) (zw_V hK hPc hDc (ci := 6) (q0 := 0) rfl rfl) rfl rfl hl.1 rfl (lv_room (Nat.le_of_ble_eq_true rfl)) dX8_turn_21 ⟨Nat.zero_le _, Nat.zero_le _⟩) (fun u_9 H locs hw_8 hP1 hD1 hk1 hS => ?_)
          obtain ⟨wvn_10, rfl⟩ : ∃ z, z = u_9 := ⟨_, rfl⟩
          try dsimp only at hw_8 hP1 hD1
          obtain ⟨hP, hD⟩ := zw_join (wr := []) (w1 := [(m0, .inr (6, [.ref w0, .ref w1, .ref w2, .int ik, .ref w3, .int (nI tx), .int he, .int fa, .ref w4, .ref w5, .int (nI cl), .ref w6, .ref w7, .ref w8, .ref w9])), (w0, .inl (E 0, 137, .inl wvn_10))]) (ws' := [(m0, .inr (6, [.ref w0, .ref w1, .ref w2, .int ik, .ref w3, .int (nI tx), .int he, .int fa, .ref w4, .ref w5, .int (nI cl), .ref w6, .ref w7, .ref w8, .ref w9])), (w0, .inl (E 0, 137, .inl wvn_10))]) hP hD [0, 1] [] [0, 1] rfl rfl (by decide +kernel) (by decide +kernel) hAc hk1 hP1 hD1 (by decide +kernel) rfl
          clear hP1 hD1 hk1 hPc hDc hAc
          have hnew := hw_8
          have hvn9 := hnew.1.2.1
          refine lv_aload_n hx hb dX8_turn_24 rfl (lv_at hl 0 rfl) ?_
          refine lv_iload_n hx hb dX8_turn_25 rfl (lv_at hl 1 rfl) ?_
          refine lv_iload_n hx hb dX8_turn_26 rfl (lv_at hl 2 rfl) ?_
          refine lv_iconst (v := nI 0) hx hb dX8_turn_27 (by rfl) ?_
          refine zr_ci hP hS (va_runV (As := [.int (nI t), .int (nI u), .int (nI 0)]) (rest := []) ⟨hx, hb, hml, hown, hts⟩ (c_X8_who l D E m0 w0 w1 w2 w3 w4 w5 w6 w7 w8 w9 ik tx he fa cl wvn_10 N (zm_tuG G t u) (zm_tuP P t u) t u 0 (hnew.1) (by omega) (by omega) (by omega)) (cwV 3 hts gX8_turn_X8_who rfl rfl rfl (by decide +kernel) ⟨Nat.le_of_ble_eq_true rfl, Nat.le_of_ble_eq_true rfl⟩) (zr_V hK (hP.sub (ws' := [(m0, .inr (6, [.ref w0, .ref w1, .ref w2, .int ik, .ref w3, .int (nI tx), .int he, .int fa, .ref w4, .ref w5, .int (nI cl), .ref w6, .ref w7, .ref w8, .ref w9])), (w0, .inl (E 0, 137, .inl wvn_10))]) [0, 1] rfl) (ci := 6) (q0 := 0) rfl rfl) rfl rfl hl.1 rfl (lv_room (Nat.le_of_ble_eq_true rfl)) dX8_turn_28 ⟨Nat.zero_le _, Nat.zero_le _⟩) (fun r_11 H locs hw_12 hP hS => ?_)
          subst hw_12
          subst hQ; subst hAe
          exact W.iret (v := nI ((zm_tuG G t u) t (2 * u + 0))) hx hb hr (fun tz htz hWz => ⟨⟨nI ((zm_tuG G t u) t (2 * u + 0)), wvn_10, rfl, ⟨by simp only [cond_true, cond_false, Bool.and_true, Bool.and_false, Bool.true_and, Bool.false_and, e1, e2, q1, q2]; rfl, by simp only [cond_true, cond_false, Bool.and_true, Bool.and_false, Bool.true_and, Bool.false_and, e1, e2, q1, q2]; exact zv_all_off hva hnew.1 hnew.2⟩, by rw [htz]; exact hP, hD⟩, hS.F htz⟩) hS.2.2 dX8_turn_31
        · skip
          exact absurd cn_6 (by decide)
      · skip
        have e2 : zi (N / 2) w = false := zi_f hw_5
        refine zr_ti (y := nI 0) rfl ?_
        refine lv_if_ne (tgt := 18) hx hb dX8_turn_13 (by decide) (fun cn_13 => ?_) (fun cn_13 => ?_)
        · skip
          exact absurd cn_13 (by decide)
        · skip
          refine lv_iconst (v := (-1)) hx hb dX8_turn_16 (by rfl) ?_
          subst hQ; subst hAe
          exact W.iret (v := (-1)) hx hb hr (fun tz htz hWz => ⟨⟨(-1), wv, rfl, ⟨by first | (simp only [cond_true, cond_false, Bool.and_true, Bool.and_false, Bool.true_and, Bool.false_and, e1]; done) | (simp only [cond_true, cond_false, Bool.and_true, Bool.and_false, Bool.true_and, Bool.false_and, e1, e2]; done), by first | (simp only [cond_true, cond_false, Bool.and_true, Bool.and_false, Bool.true_and, Bool.false_and, e1]; exact hva; done) | (simp only [cond_true, cond_false, Bool.and_true, Bool.and_false, Bool.true_and, Bool.false_and, e1, e2]; exact hva; done)⟩, by rw [htz]; exact hP, hD⟩, hS.F htz⟩) hS.2.2 dX8_turn_17
  · skip
    have e1 : zi (N - 1) v = false := zi_f hw_2
    refine zr_ti (y := nI 0) rfl ?_
    refine lv_if_eq (tgt := 16) hx hb dX8_turn_5 (by decide) (fun cn_14 => ?_) (fun cn_14 => ?_)
    · skip
      refine lv_iconst (v := (-1)) hx hb dX8_turn_16 (by rfl) ?_
      subst hQ; subst hAe
      exact W.iret (v := (-1)) hx hb hr (fun tz htz hWz => ⟨⟨(-1), wv, rfl, ⟨by first | (simp only [cond_true, cond_false, Bool.and_true, Bool.and_false, Bool.true_and, Bool.false_and, e1]; done) | (simp only [cond_true, cond_false, Bool.and_true, Bool.and_false, Bool.true_and, Bool.false_and, e1, e2]; done), by first | (simp only [cond_true, cond_false, Bool.and_true, Bool.and_false, Bool.true_and, Bool.false_and, e1]; exact hva; done) | (simp only [cond_true, cond_false, Bool.and_true, Bool.and_false, Bool.true_and, Bool.false_and, e1, e2]; exact hva; done)⟩, by rw [htz]; exact hP, hD⟩, hS.F htz⟩) hS.2.2 dX8_turn_17
    · skip
      exact absurd cn_14 (by decide)

set_option maxHeartbeats 4000000 in
set_option maxRecDepth 100000 in
theorem c_X8_exchange (l : Launch) (D : va_G) (E : Nat → ClassId) (m0 : Nat) (w0 : Nat) (w1 : Nat) (w2 : Nat) (w3 : Nat) (w4 : Nat) (w5 : Nat) (w6 : Nat) (w7 : Nat) (w8 : Nat) (w9 : Nat) (ik : Int32) (tx : Nat) (he : Int32) (fa : Int32) (cl : Nat) (wv : Nat → Int32) (N : Nat) (G : Nat → Nat → Nat) (P : Nat → Nat → Nat) (X : Nat → Nat) (Y : Nat → Nat) (B : Nat → Nat → Nat) (R : Nat → Nat) (kd : Nat) (sn : Nat) (sT : Nat → Nat) (sR : Nat → Nat) (sH : Nat → Nat) (en : Nat) (eW : Nat → Nat) (eN : Nat → Nat) (bn : Nat) (bT : Nat → Nat) (bN : Nat → Nat) (v : Int32) (w : Int32) (hva : zv_all N G P X Y B R kd sn sT sR sH en eW eN bn bT bN wv) (hzs : zs_all N kd sn sT sR sH en eW eN bn bT bN) : Met l yX8_exchange wsX8_exchange ({ frames := 3, cells := 0, slots := 0, locals := 69 }) (zw_P D E [.ref m0, .int v, .int w] [(m0, .inr (6, [.ref w0, .ref w1, .ref w2, .int ik, .ref w3, .int (nI tx), .int he, .int fa, .ref w4, .ref w5, .int (nI cl), .ref w6, .ref w7, .ref w8, .ref w9])), (w0, .inl (E 0, 137, .inl wv))]) (zw_Qi D [(m0, .inr (6, [.ref w0, .ref w1, .ref w2, .int ik, .ref w3, .int (nI tx), .int he, .int fa, .ref w4, .ref w5, .int (nI cl), .ref w6, .ref w7, .ref w8, .ref w9])), (w0, .inl (E 0, 137, .inl wv))] (fun zv (u : (Nat → Int32)) => zv = cond (zi N v && zi N w) (cond (decide (zq v = zq w)) (nI (N - 1)) (zm_meet N (zm_exG G (zq v) (zq w)) (zm_exP P (zq v) (zq w)) (zq v) (zq w))) (-1) ∧ zv_all N (cond (zi N v && zi N w) (zm_exG G (zq v) (zq w)) G) (cond (zi N v && zi N w) (zm_exP P (zq v) (zq w)) P) X Y B R kd sn sT sR sH en eW eN bn bT bN u) (fun (u : (Nat → Int32)) => [(m0, .inr (6, [.ref w0, .ref w1, .ref w2, .int ik, .ref w3, .int (nI tx), .int he, .int fa, .ref w4, .ref w5, .int (nI cl), .ref w6, .ref w7, .ref w8, .ref w9])), (w0, .inl (E 0, 137, .inl u))])) 0 0 (zw_A [(m0, .inr (6, [.ref w0, .ref w1, .ref w2, .int ik, .ref w3, .int (nI tx), .int he, .int fa, .ref w4, .ref w5, .int (nI cl), .ref w6, .ref w7, .ref w8, .ref w9])), (w0, .inl (E 0, 137, .inl wv))]) := by
  refine Met.ofW (cc := cX8_exchange) (maxL := 3) (ret := (some .int)) (by decide) rfl ?_
  intro p e s m args below meth c s₁ Bz hml hv
  obtain ⟨rfl, hP, hK, hD0⟩ := hv
  have hx := Bz.exec
  have hb := Bz.bytes
  have hr := Bz.returns
  have hts := atoms_spec (ws := wsX8_exchange) Bz.pre
  have hown : s.vm.findClass RX8 = some m.cls := findClass_of_methodNamed Bz.named
  have hlocks := Bz.notSynchronized
  have hP : va_P D vwCl [(m0, .inr (6, [.ref w0, .ref w1, .ref w2, .int ik, .ref w3, .int (nI tx), .int he, .int fa, .ref w4, .ref w5, .int (nI cl), .ref w6, .ref w7, .ref w8, .ref w9])), (w0, .inl (E 0, 137, .inl wv))] s.heap := hP
  obtain ⟨A, hAe⟩ : ∃ A : Nat → Prop, A = zw_A [(m0, .inr (6, [.ref w0, .ref w1, .ref w2, .int ik, .ref w3, .int (nI tx), .int he, .int fa, .ref w4, .ref w5, .int (nI cl), .ref w6, .ref w7, .ref w8, .ref w9])), (w0, .inl (E 0, 137, .inl wv))] := ⟨_, rfl⟩
  have hD : va_D A [(m0, .inr (6, [.ref w0, .ref w1, .ref w2, .int ik, .ref w3, .int (nI tx), .int he, .int fa, .ref w4, .ref w5, .int (nI cl), .ref w6, .ref w7, .ref w8, .ref w9])), (w0, .inl (E 0, 137, .inl wv))] := hAe ▸ zw_own hD0
  have hS : va_S A s.heap s.heap [] := va_S.rf
  have hl := lv_entry ([.ref m0, .int v, .int w]) (n := 3) (Nat.le_of_ble_eq_true rfl)
  rw [lg_entry_eq]
  generalize (lg_sl ([.ref m0, .int v, .int w]) ++ List.replicate (3 - (lg_sl ([.ref m0, .int v, .int w])).length) Slot.unset).toArray = ls at hl ⊢
  have hl : lv_has ls 3 [(0, .ref m0), (1, .int v), (2, .int w)] := hl
  refine zr_nQ (fun Q hQ => ?_)
  obtain ⟨hvg, hxy, hvb, hvr, hkv, hzc, hze, hzb, hn6, hn8, hm8⟩ := id hva
  obtain ⟨hkd, hse, hev, hbo⟩ := id hzs
  have hok := hvg.1
  have hN := hok.1
  have hvn := hvg.2.1
  have hgr := zm_gr_of hxy
  refine lv_aload_n hx hb dX8_exchange_0 rfl (lv_at hl 0 rfl) ?_
  refine lv_iload_n hx hb dX8_exchange_1 rfl (lv_at hl 1 rfl) ?_
  refine zr_ci hP hS (va_runV (As := [.int v]) (rest := []) ⟨hx, hb, hml, hown, hts⟩ (c_X8_isTeam l D E m0 w0 w1 w2 w3 w4 w5 w6 w7 w8 w9 ik tx he fa cl wv N v (hvn) (hN)) (cwV 1 hts gX8_exchange_X8_isTeam rfl rfl rfl (by decide +kernel) ⟨Nat.le_of_ble_eq_true rfl, Nat.le_of_ble_eq_true rfl⟩) (zr_V hK (hP.sub (ws' := [(m0, .inr (6, [.ref w0, .ref w1, .ref w2, .int ik, .ref w3, .int (nI tx), .int he, .int fa, .ref w4, .ref w5, .int (nI cl), .ref w6, .ref w7, .ref w8, .ref w9])), (w0, .inl (E 0, 137, .inl wv))]) [0, 1] rfl) (ci := 6) (q0 := 0) rfl rfl) rfl rfl hl.1 rfl (lv_room (Nat.le_of_ble_eq_true rfl)) dX8_exchange_2 ⟨Nat.zero_le _, Nat.zero_le _⟩) (fun r_1 H locs hw_2 hP hS => ?_)
  rcases hw_2 with ⟨rfl, hw_2⟩ | ⟨rfl, hw_2⟩
  · skip
    obtain ⟨t, ht, v_e⟩ := hw_2
    have e1 : zi N v = true := v_e ▸ zi_t ht (by omega)
    have q1 : zq v = t := v_e ▸ zq_t (by omega)
    rw [v_e] at hl
    refine zr_ti (y := nI 1) rfl ?_
    refine lv_if_eq (tgt := 16) hx hb dX8_exchange_5 (by decide) (fun cn_3 => ?_) (fun cn_3 => ?_)
    · skip
      exact absurd cn_3 (by decide)
    · skip
      refine lv_aload_n hx hb dX8_exchange_8 rfl (lv_at hl 0 rfl) ?_
      refine lv_iload_n hx hb dX8_exchange_9 rfl (lv_at hl 2 rfl) ?_
      refine zr_ci hP hS (va_runV (As := [.int w]) (rest := []) ⟨hx, hb, hml, hown, hts⟩ (c_X8_isTeam l D E m0 w0 w1 w2 w3 w4 w5 w6 w7 w8 w9 ik tx he fa cl wv N w (hvn) (hN)) (cwV 1 hts gX8_exchange_X8_isTeam rfl rfl rfl (by decide +kernel) ⟨Nat.le_of_ble_eq_true rfl, Nat.le_of_ble_eq_true rfl⟩) (zr_V hK (hP.sub (ws' := [(m0, .inr (6, [.ref w0, .ref w1, .ref w2, .int ik, .ref w3, .int (nI tx), .int he, .int fa, .ref w4, .ref w5, .int (nI cl), .ref w6, .ref w7, .ref w8, .ref w9])), (w0, .inl (E 0, 137, .inl wv))]) [0, 1] rfl) (ci := 6) (q0 := 0) rfl rfl) rfl rfl hl.1 rfl (lv_room (Nat.le_of_ble_eq_true rfl)) dX8_exchange_10 ⟨Nat.zero_le _, Nat.zero_le _⟩) (fun r_4 H locs hw_5 hP hS => ?_)
      rcases hw_5 with ⟨rfl, hw_5⟩ | ⟨rfl, hw_5⟩
      · skip
        obtain ⟨u, hu, w_e⟩ := hw_5
        have e2 : zi N w = true := w_e ▸ zi_t hu (by omega)
        have q2 : zq w = u := w_e ▸ zq_t (by omega)
        rw [w_e] at hl
        refine zr_ti (y := nI 1) rfl ?_
        refine lv_if_ne (tgt := 18) hx hb dX8_exchange_13 (by decide) (fun cn_6 => ?_) (fun cn_6 => ?_)
        · skip
          refine lv_aload_n hx hb dX8_exchange_18 rfl (lv_at hl 0 rfl) ?_
          refine lv_iload_n hx hb dX8_exchange_19 rfl (lv_at hl 1 rfl) ?_
          refine lv_iload_n hx hb dX8_exchange_20 rfl (lv_at hl 2 rfl) ?_
          have hPc := hP.sub (ws' := [(m0, .inr (6, [.ref w0, .ref w1, .ref w2, .int ik, .ref w3, .int (nI tx), .int he, .int fa, .ref w4, .ref w5, .int (nI cl), .ref w6, .ref w7, .ref w8, .ref w9])), (w0, .inl (E 0, 137, .inl wv))]) [0, 1] rfl
          have hDc := hD.sub (ws' := [(m0, .inr (6, [.ref w0, .ref w1, .ref w2, .int ik, .ref w3, .int (nI tx), .int he, .int fa, .ref w4, .ref w5, .int (nI cl), .ref w6, .ref w7, .ref w8, .ref w9])), (w0, .inl (E 0, 137, .inl wv))]) [0, 1] (by decide +kernel) rfl
          have hAc := zw_AA (wc := [(m0, .inr (6, [.ref w0, .ref w1, .ref w2, .int ik, .ref w3, .int (nI tx), .int he, .int fa, .ref w4, .ref w5, .int (nI cl), .ref w6, .ref w7, .ref w8, .ref w9])), (w0, .inl (E 0, 137, .inl wv))]) hD [0, 1] rfl
          refine zw_cv hAc hS (va_runV (As := [.int (nI t), .int (nI u)]) (rest := []) ⟨hx, hb, hml, hown, hts⟩ (c_X8_stands l D E m0 w0 w1 w2 w3 w4 w5 w6 w7 w8 w9 ik tx he fa cl wv N G P t u (hvg) (by omega) (by omega)) (cwV 2 hts gX8_exchange_X8_stands rfl rfl rfl (by decide +kernel) ⟨Nat.le_of_ble_eq_true rfl, Nat.le_of_ble_eq_true rfl⟩) (zw_V hK hPc hDc (ci := 6) (q0 := 0) rfl rfl) rfl rfl hl.1 rfl (lv_room (Nat.le_of_ble_eq_true rfl)) dX8_exchange_21 ⟨Nat.zero_le _, Nat.zero_le _⟩) (fun u_9 H locs hw_8 hP1 hD1 hk1 hS => ?_)
          obtain ⟨wvn_10, rfl⟩ : ∃ z, z = u_9 := ⟨_, rfl⟩
          try dsimp only at hw_8 hP1 hD1
          obtain ⟨hP, hD⟩ := zw_join (wr := []) (w1 := [(m0, .inr (6, [.ref w0, .ref w1, .ref w2, .int ik, .ref w3, .int (nI tx), .int he, .int fa, .ref w4, .ref w5, .int (nI cl), .ref w6, .ref w7, .ref w8, .ref w9])), (w0, .inl (E 0, 137, .inl wvn_10))]) (ws' := [(m0, .inr (6, [.ref w0, .ref w1, .ref w2, .int ik, .ref w3, .int (nI tx), .int he, .int fa, .ref w4, .ref w5, .int (nI cl), .ref w6, .ref w7, .ref w8, .ref w9])), (w0, .inl (E 0, 137, .inl wvn_10))]) hP hD [0, 1] [] [0, 1] rfl rfl (by decide +kernel) (by decide +kernel) hAc hk1 hP1 hD1 (by decide +kernel) rfl
          clear hP1 hD1 hk1 hPc hDc hAc
          have hnew := hw_8
          have hvn9 := hnew.1.2.1
          refine lv_iload_n hx hb dX8_exchange_24 rfl (lv_at hl 1 rfl) ?_
          refine lv_iload_n hx hb dX8_exchange_25 rfl (lv_at hl 2 rfl) ?_
          refine lv_icmp_ne (tgt := 40) hx hb dX8_exchange_26 (by decide) (fun cn_11 => ?_) (fun cn_11 => ?_)
          · skip
            have cn_11 : ¬ (t = u) := fun hz => cn_11 ((nI_eq (a := t) (b := u) (by omega) (by omega)).mpr hz)
            have e9 : decide (t = u) = false := decide_eq_false cn_11
            refine lv_aload_n hx hb dX8_exchange_40 rfl (lv_at hl 0 rfl) ?_
            refine lv_iload_n hx hb dX8_exchange_41 rfl (lv_at hl 1 rfl) ?_
            refine lv_iload_n hx hb dX8_exchange_42 rfl (lv_at hl 2 rfl) ?_
            refine zr_ci hP hS (va_runV (As := [.int (nI t), .int (nI u)]) (rest := []) ⟨hx, hb, hml, hown, hts⟩ (c_X8_when l D E m0 w0 w1 w2 w3 w4 w5 w6 w7 w8 w9 ik tx he fa cl wvn_10 N (zm_exG G t u) (zm_exP P t u) (nI t) (nI u) (hnew.1)) (cwV 2 hts gX8_exchange_X8_when rfl rfl rfl (by decide +kernel) ⟨Nat.le_of_ble_eq_true rfl, Nat.le_of_ble_eq_true rfl⟩) (zr_V hK (hP.sub (ws' := [(m0, .inr (6, [.ref w0, .ref w1, .ref w2, .int ik, .ref w3, .int (nI tx), .int he, .int fa, .ref w4, .ref w5, .int (nI cl), .ref w6, .ref w7, .ref w8, .ref w9])), (w0, .inl (E 0, 137, .inl wvn_10))]) [0, 1] rfl) (ci := 6) (q0 := 0) rfl rfl) rfl rfl hl.1 rfl (lv_room (Nat.le_of_ble_eq_true rfl)) dX8_exchange_43 ⟨Nat.zero_le _, Nat.zero_le _⟩) (fun r_12 H locs hw_13 hP hS => ?_)
            have hwh := hw_13
            simp only [zi_t ht (by omega), zi_t hu (by omega), zq_t (t := t) (by omega), zq_t (t := u) (by omega), e9, Bool.not_false, Bool.and_true, cond_true] at hwh
            subst hwh
            subst hQ; subst hAe
            exact W.iret (v := zm_meet N (zm_exG G t u) (zm_exP P t u) t u) hx hb hr (fun tz htz hWz => ⟨⟨zm_meet N (zm_exG G t u) (zm_exP P t u) t u, wvn_10, rfl, ⟨by simp only [cond_true, cond_false, Bool.and_true, Bool.and_false, Bool.true_and, Bool.false_and, e1, e2, q1, q2, e9], by simp only [cond_true, cond_false, Bool.and_true, Bool.and_false, Bool.true_and, Bool.false_and, e1, e2, q1, q2]; exact zv_all_off hva hnew.1 hnew.2⟩, by rw [htz]; exact hP, hD⟩, hS.F htz⟩) hS.2.2 dX8_exchange_46
          · skip
            have cn_11 : t = u := (nI_eq (a := t) (b := u) (by omega) (by omega)).mp cn_11
            have e9 : decide (t = u) = true := decide_eq_true cn_11
            refine lv_aload_n hx hb dX8_exchange_29 rfl (lv_at hl 0 rfl) ?_
            refine va_get (D := D) (ci := 6) (v := .ref w0) (C := RX8) (T := TX8) (N := 15) hx hb hts (by decide +kernel) hown hK.1 hP 0 rfl rfl 0 (by decide) (hts (.fieldLink RX8 11 "HomeRoundsModel" "w" "[I") (by decide +kernel)) (fun _ h9 => h9) rfl dX8_exchange_30 ?_
            refine lv_iconst (v := nI 0) hx hb dX8_exchange_33 (by rfl) ?_
            refine va_iald hx hb hK.1 hP 1 0 rfl rfl (vp_in_nI (by omega) (by omega)) dX8_exchange_34 ?_
            refine zr_ti (y := nI N) ((congrArg wvn_10 (nI_clamp (by omega))).trans (hvn9)) ?_
            refine lv_iconst (v := nI 1) hx hb dX8_exchange_35 (by rfl) ?_
            refine lv_isub hx hb dX8_exchange_36 ?_
            refine zr_ti (y := nI (N - 1)) (pk_sub (by omega)) ?_
            refine lv_goto (tgt := 46) hx hb dX8_exchange_37 (by decide) ?_
            subst hQ; subst hAe
            exact W.iret (v := nI (N - 1)) hx hb hr (fun tz htz hWz => ⟨⟨nI (N - 1), wvn_10, rfl, ⟨by simp only [cond_true, cond_false, Bool.and_true, Bool.and_false, Bool.true_and, Bool.false_and, e1, e2, q1, q2, e9], by simp only [cond_true, cond_false, Bool.and_true, Bool.and_false, Bool.true_and, Bool.false_and, e1, e2, q1, q2]; exact zv_all_off hva hnew.1 hnew.2⟩, by rw [htz]; exact hP, hD⟩, hS.F htz⟩) hS.2.2 dX8_exchange_46
        · skip
          exact absurd cn_6 (by decide)
      · skip
        have e2 : zi N w = false := zi_f hw_5
        refine zr_ti (y := nI 0) rfl ?_
        refine lv_if_ne (tgt := 18) hx hb dX8_exchange_13 (by decide) (fun cn_14 => ?_) (fun cn_14 => ?_)
        · skip
          exact absurd cn_14 (by decide)
        · skip
          refine lv_iconst (v := (-1)) hx hb dX8_exchange_16 (by rfl) ?_
          subst hQ; subst hAe
          exact W.iret (v := (-1)) hx hb hr (fun tz htz hWz => ⟨⟨(-1), wv, rfl, ⟨by first | (simp only [cond_true, cond_false, Bool.and_true, Bool.and_false, Bool.true_and, Bool.false_and, e1]; done) | (simp only [cond_true, cond_false, Bool.and_true, Bool.and_false, Bool.true_and, Bool.false_and, e1, e2]; done), by first | (simp only [cond_true, cond_false, Bool.and_true, Bool.and_false, Bool.true_and, Bool.false_and, e1]; exact hva; done) | (simp only [cond_true, cond_false, Bool.and_true, Bool.and_false, Bool.true_and, Bool.false_and, e1, e2]; exact hva; done)⟩, by rw [htz]; exact hP, hD⟩, hS.F htz⟩) hS.2.2 dX8_exchange_17
  · skip
    have e1 : zi N v = false := zi_f hw_2
    refine zr_ti (y := nI 0) rfl ?_
    refine lv_if_eq (tgt := 16) hx hb dX8_exchange_5 (by decide) (fun cn_15 => ?_) (fun cn_15 => ?_)
    · skip
      refine lv_iconst (v := (-1)) hx hb dX8_exchange_16 (by rfl) ?_
      subst hQ; subst hAe
      exact W.iret (v := (-1)) hx hb hr (fun tz htz hWz => ⟨⟨(-1), wv, rfl, ⟨by first | (simp only [cond_true, cond_false, Bool.and_true, Bool.and_false, Bool.true_and, Bool.false_and, e1]; done) | (simp only [cond_true, cond_false, Bool.and_true, Bool.and_false, Bool.true_and, Bool.false_and, e1, e2]; done), by first | (simp only [cond_true, cond_false, Bool.and_true, Bool.and_false, Bool.true_and, Bool.false_and, e1]; exact hva; done) | (simp only [cond_true, cond_false, Bool.and_true, Bool.and_false, Bool.true_and, Bool.false_and, e1, e2]; exact hva; done)⟩, by rw [htz]; exact hP, hD⟩, hS.F htz⟩) hS.2.2 dX8_exchange_17
    · skip
      exact absurd cn_15 (by decide)

set_option maxHeartbeats 4000000 in
set_option maxRecDepth 100000 in
theorem c_X8_bar (l : Launch) (D : va_G) (E : Nat → ClassId) (m0 : Nat) (w0 : Nat) (w1 : Nat) (w2 : Nat) (w3 : Nat) (w4 : Nat) (w5 : Nat) (w6 : Nat) (w7 : Nat) (w8 : Nat) (w9 : Nat) (ik : Int32) (tx : Nat) (he : Int32) (fa : Int32) (cl : Nat) (wv : Nat → Int32) (N : Nat) (G : Nat → Nat → Nat) (P : Nat → Nat → Nat) (X : Nat → Nat) (Y : Nat → Nat) (B : Nat → Nat → Nat) (R : Nat → Nat) (kd : Nat) (sn : Nat) (sT : Nat → Nat) (sR : Nat → Nat) (sH : Nat → Nat) (en : Nat) (eW : Nat → Nat) (eN : Nat → Nat) (bn : Nat) (bT : Nat → Nat) (bN : Nat → Nat) (v : Int32) (w : Int32) (hva : zv_all N G P X Y B R kd sn sT sR sH en eW eN bn bT bN wv) (hzs : zs_all N kd sn sT sR sH en eW eN bn bT bN) : Met l yX8_bar wsX8_bar ({ frames := 2, cells := 0, slots := 0, locals := 43 }) (zw_P D E [.ref m0, .int v, .int w] [(m0, .inr (6, [.ref w0, .ref w1, .ref w2, .int ik, .ref w3, .int (nI tx), .int he, .int fa, .ref w4, .ref w5, .int (nI cl), .ref w6, .ref w7, .ref w8, .ref w9])), (w0, .inl (E 0, 137, .inl wv))]) (zw_Qi D [(m0, .inr (6, [.ref w0, .ref w1, .ref w2, .int ik, .ref w3, .int (nI tx), .int he, .int fa, .ref w4, .ref w5, .int (nI cl), .ref w6, .ref w7, .ref w8, .ref w9])), (w0, .inl (E 0, 137, .inl wv))] (fun zv (u : (Nat → Int32)) => zv = cond (zi N v && zi (N - 1) w) (nI (1 - B (zq v) (zq w))) (-1) ∧ zv_all N G P X Y (cond (zi N v && zi (N - 1) w) (zm_fl B (zq v) (zq w)) B) R kd sn sT sR sH en eW eN bn bT bN u) (fun (u : (Nat → Int32)) => [(m0, .inr (6, [.ref w0, .ref w1, .ref w2, .int ik, .ref w3, .int (nI tx), .int he, .int fa, .ref w4, .ref w5, .int (nI cl), .ref w6, .ref w7, .ref w8, .ref w9])), (w0, .inl (E 0, 137, .inl u))])) 0 0 (zw_A [(m0, .inr (6, [.ref w0, .ref w1, .ref w2, .int ik, .ref w3, .int (nI tx), .int he, .int fa, .ref w4, .ref w5, .int (nI cl), .ref w6, .ref w7, .ref w8, .ref w9])), (w0, .inl (E 0, 137, .inl wv))]) := by
  refine Met.ofW (cc := cX8_bar) (maxL := 4) (ret := (some .int)) (by decide) rfl ?_
  intro p e s m args below meth c s₁ Bz hml hv
  obtain ⟨rfl, hP, hK, hD0⟩ := hv
  have hx := Bz.exec
  have hb := Bz.bytes
  have hr := Bz.returns
  have hts := atoms_spec (ws := wsX8_bar) Bz.pre
  have hown : s.vm.findClass RX8 = some m.cls := findClass_of_methodNamed Bz.named
  have hlocks := Bz.notSynchronized
  have hP : va_P D vwCl [(m0, .inr (6, [.ref w0, .ref w1, .ref w2, .int ik, .ref w3, .int (nI tx), .int he, .int fa, .ref w4, .ref w5, .int (nI cl), .ref w6, .ref w7, .ref w8, .ref w9])), (w0, .inl (E 0, 137, .inl wv))] s.heap := hP
  obtain ⟨A, hAe⟩ : ∃ A : Nat → Prop, A = zw_A [(m0, .inr (6, [.ref w0, .ref w1, .ref w2, .int ik, .ref w3, .int (nI tx), .int he, .int fa, .ref w4, .ref w5, .int (nI cl), .ref w6, .ref w7, .ref w8, .ref w9])), (w0, .inl (E 0, 137, .inl wv))] := ⟨_, rfl⟩
  have hD : va_D A [(m0, .inr (6, [.ref w0, .ref w1, .ref w2, .int ik, .ref w3, .int (nI tx), .int he, .int fa, .ref w4, .ref w5, .int (nI cl), .ref w6, .ref w7, .ref w8, .ref w9])), (w0, .inl (E 0, 137, .inl wv))] := hAe ▸ zw_own hD0
  have hS : va_S A s.heap s.heap [] := va_S.rf
  have hl := lv_entry ([.ref m0, .int v, .int w]) (n := 4) (Nat.le_of_ble_eq_true rfl)
  rw [lg_entry_eq]
  generalize (lg_sl ([.ref m0, .int v, .int w]) ++ List.replicate (4 - (lg_sl ([.ref m0, .int v, .int w])).length) Slot.unset).toArray = ls at hl ⊢
  have hl : lv_has ls 4 [(0, .ref m0), (1, .int v), (2, .int w)] := hl
  refine zr_nQ (fun Q hQ => ?_)
  obtain ⟨hvg, hxy, hvb, hvr, hkv, hzc, hze, hzb, hn6, hn8, hm8⟩ := id hva
  obtain ⟨hkd, hse, hev, hbo⟩ := id hzs
  have hok := hvg.1
  have hN := hok.1
  have hvn := hvg.2.1
  have hgr := zm_gr_of hxy
  refine lv_aload_n hx hb dX8_bar_0 rfl (lv_at hl 0 rfl) ?_
  refine lv_iload_n hx hb dX8_bar_1 rfl (lv_at hl 1 rfl) ?_
  refine zr_ci hP hS (va_runV (As := [.int v]) (rest := []) ⟨hx, hb, hml, hown, hts⟩ (c_X8_isTeam l D E m0 w0 w1 w2 w3 w4 w5 w6 w7 w8 w9 ik tx he fa cl wv N v (hvn) (hN)) (cwV 1 hts gX8_bar_X8_isTeam rfl rfl rfl (by decide +kernel) ⟨Nat.le_of_ble_eq_true rfl, Nat.le_of_ble_eq_true rfl⟩) (zr_V hK (hP.sub (ws' := [(m0, .inr (6, [.ref w0, .ref w1, .ref w2, .int ik, .ref w3, .int (nI tx), .int he, .int fa, .ref w4, .ref w5, .int (nI cl), .ref w6, .ref w7, .ref w8, .ref w9])), (w0, .inl (E 0, 137, .inl wv))]) [0, 1] rfl) (ci := 6) (q0 := 0) rfl rfl) rfl rfl hl.1 rfl (lv_room (Nat.le_of_ble_eq_true rfl)) dX8_bar_2 ⟨Nat.zero_le _, Nat.zero_le _⟩) (fun r_1 H locs hw_2 hP hS => ?_)
  rcases hw_2 with ⟨rfl, hw_2⟩ | ⟨rfl, hw_2⟩
  · skip
    obtain ⟨t, ht, v_e⟩ := hw_2
    have e1 : zi N v = true := v_e ▸ zi_t ht (by omega)
    have q1 : zq v = t := v_e ▸ zq_t (by omega)
    rw [v_e] at hl
    refine zr_ti (y := nI 1) rfl ?_
    refine lv_if_eq (tgt := 16) hx hb dX8_bar_5 (by decide) (fun cn_3 => ?_) (fun cn_3 => ?_)
    · skip
      exact absurd cn_3 (by decide)
    · skip
      refine lv_aload_n hx hb dX8_bar_8 rfl (lv_at hl 0 rfl) ?_
      refine lv_iload_n hx hb dX8_bar_9 rfl (lv_at hl 2 rfl) ?_
      refine zr_ci hP hS (va_runV (As := [.int w]) (rest := []) ⟨hx, hb, hml, hown, hts⟩ (c_X8_isRound l D E m0 w0 w1 w2 w3 w4 w5 w6 w7 w8 w9 ik tx he fa cl wv N w (hvn) (hN)) (cwV 1 hts gX8_bar_X8_isRound rfl rfl rfl (by decide +kernel) ⟨Nat.le_of_ble_eq_true rfl, Nat.le_of_ble_eq_true rfl⟩) (zr_V hK (hP.sub (ws' := [(m0, .inr (6, [.ref w0, .ref w1, .ref w2, .int ik, .ref w3, .int (nI tx), .int he, .int fa, .ref w4, .ref w5, .int (nI cl), .ref w6, .ref w7, .ref w8, .ref w9])), (w0, .inl (E 0, 137, .inl wv))]) [0, 1] rfl) (ci := 6) (q0 := 0) rfl rfl) rfl rfl hl.1 rfl (lv_room (Nat.le_of_ble_eq_true rfl)) dX8_bar_10 ⟨Nat.zero_le _, Nat.zero_le _⟩) (fun r_4 H locs hw_5 hP hS => ?_)
      rcases hw_5 with ⟨rfl, hw_5⟩ | ⟨rfl, hw_5⟩
      · skip
        obtain ⟨u, hu, w_e⟩ := hw_5
        have e2 : zi (N - 1) w = true := w_e ▸ zi_t hu (by omega)
        have q2 : zq w = u := w_e ▸ zq_t (by omega)
        rw [w_e] at hl
        refine zr_ti (y := nI 1) rfl ?_
        refine lv_if_ne (tgt := 18) hx hb dX8_bar_13 (by decide) (fun cn_6 => ?_) (fun cn_6 => ?_)
        · skip
          obtain ⟨hb1, hb2⟩ := hvb.1 t u (by omega) (by omega)
          refine lv_bipush (v := nI 21) hx hb dX8_bar_18 (by rfl) ?_
          refine lv_bipush (v := nI 6) hx hb dX8_bar_20 (by rfl) ?_
          refine lv_iload_n hx hb dX8_bar_22 rfl (lv_at hl 1 rfl) ?_
          refine lv_imul hx hb dX8_bar_23 ?_
          refine zr_ti (y := nI (6 * t)) (pk_mul _ _) ?_
          refine lv_iadd hx hb dX8_bar_24 ?_
          refine zr_ti (y := nI (21 + (6 * t))) (nI_add _ _) ?_
          refine lv_iload_n hx hb dX8_bar_25 rfl (lv_at hl 2 rfl) ?_
          refine lv_iadd hx hb dX8_bar_26 ?_
          refine zr_ti (y := nI ((21 + (6 * t)) + u)) (nI_add _ _) ?_
          refine lv_istore_n (lv' := [(3, .int (nI ((21 + (6 * t)) + u))), (0, .ref m0), (1, .int (nI t)), (2, .int (nI u))]) hx hb dX8_bar_27 rfl hl (by decide) rfl (fun ls hl => ?_)
          refine lv_aload_n hx hb dX8_bar_28 rfl (lv_at hl 1 rfl) ?_
          refine va_get (D := D) (ci := 6) (v := .ref w0) (C := RX8) (T := TX8) (N := 15) hx hb hts (by decide +kernel) hown hK.1 hP 0 rfl rfl 0 (by decide) (hts (.fieldLink RX8 11 "HomeRoundsModel" "w" "[I") (by decide +kernel)) (fun _ h9 => h9) rfl dX8_bar_29 ?_
          refine lv_iload_n hx hb dX8_bar_32 rfl (lv_at hl 0 rfl) ?_
          refine lv_iconst (v := nI 1) hx hb dX8_bar_33 (by rfl) ?_
          refine lv_aload_n hx hb dX8_bar_34 rfl (lv_at hl 1 rfl) ?_
          refine va_get (D := D) (ci := 6) (v := .ref w0) (C := RX8) (T := TX8) (N := 15) hx hb hts (by decide +kernel) hown hK.1 hP 0 rfl rfl 0 (by decide) (hts (.fieldLink RX8 11 "HomeRoundsModel" "w" "[I") (by decide +kernel)) (fun _ h9 => h9) rfl dX8_bar_35 ?_
          refine lv_iload_n hx hb dX8_bar_38 rfl (lv_at hl 0 rfl) ?_
          refine va_iald hx hb hK.1 hP 1 0 rfl rfl (vp_in_nI (by omega) (by omega)) dX8_bar_39 ?_
          refine zr_ti (y := nI (B t u)) ((congrArg wv (nI_clamp (by omega))).trans (hb2)) ?_
          refine lv_isub hx hb dX8_bar_40 ?_
          refine zr_ti (y := nI (1 - (B t u))) (pk_sub (by omega)) ?_
          refine va_iast hx hb hK.1 hP hD hS 1 0 rfl rfl (vp_in_nI (by omega) (by omega)) dX8_bar_41 (fun H locs hP hD hS => ?_)
          have hP : va_P D vwCl [(m0, .inr (6, [.ref w0, .ref w1, .ref w2, .int ik, .ref w3, .int (nI tx), .int he, .int fa, .ref w4, .ref w5, .int (nI cl), .ref w6, .ref w7, .ref w8, .ref w9])), (w0, .inl (E 0, 137, .inl (upd wv (nI ((21 + (6 * t)) + u)).toNatClampNeg (nI (1 - (B t u))))))] H := hP
          have hD : va_D A [(m0, .inr (6, [.ref w0, .ref w1, .ref w2, .int ik, .ref w3, .int (nI tx), .int he, .int fa, .ref w4, .ref w5, .int (nI cl), .ref w6, .ref w7, .ref w8, .ref w9])), (w0, .inl (E 0, 137, .inl (upd wv (nI ((21 + (6 * t)) + u)).toNatClampNeg (nI (1 - (B t u))))))] := hD
          have hcz : (upd wv (nI ((21 + (6 * t)) + u)).toNatClampNeg (nI (1 - (B t u)))) = (upd wv ((21 + (6 * t)) + u) (nI (1 - (B t u)))) := by rw [nI_clamp (n := (21 + (6 * t)) + u) (by omega)]
          rw [hcz] at hP hD
          refine lv_aload_n hx hb dX8_bar_42 rfl (lv_at hl 1 rfl) ?_
          refine va_get (D := D) (ci := 6) (v := .ref w0) (C := RX8) (T := TX8) (N := 15) hx hb hts (by decide +kernel) hown hK.1 hP 0 rfl rfl 0 (by decide) (hts (.fieldLink RX8 11 "HomeRoundsModel" "w" "[I") (by decide +kernel)) (fun _ h9 => h9) rfl dX8_bar_43 ?_
          refine lv_iload_n hx hb dX8_bar_46 rfl (lv_at hl 0 rfl) ?_
          refine va_iald hx hb hK.1 hP 1 0 rfl rfl (vp_in_nI (by omega) (by omega)) dX8_bar_47 ?_
          refine zr_ti (y := nI (1 - B t u)) ((congrArg (upd wv ((21 + (6 * t)) + u) (nI (1 - (B t u)))) (nI_clamp (by omega))).trans (zn_ue)) ?_
          subst hQ; subst hAe
          exact W.iret (v := nI (1 - B t u)) hx hb hr (fun tz htz hWz => ⟨⟨nI (1 - B t u), (upd wv ((21 + (6 * t)) + u) (nI (1 - (B t u)))), rfl, ⟨by simp only [cond_true, cond_false, Bool.and_true, Bool.and_false, Bool.true_and, Bool.false_and, e1, e2, q1, q2], by simp only [cond_true, cond_false, Bool.and_true, Bool.and_false, Bool.true_and, Bool.false_and, e1, e2, q1, q2]; exact zv_all_bar hva (by omega) (by omega) rfl⟩, by rw [htz]; exact hP, hD⟩, hS.F htz⟩) hS.2.2 dX8_bar_48
        · skip
          exact absurd cn_6 (by decide)
      · skip
        have e2 : zi (N - 1) w = false := zi_f hw_5
        refine zr_ti (y := nI 0) rfl ?_
        refine lv_if_ne (tgt := 18) hx hb dX8_bar_13 (by decide) (fun cn_7 => ?_) (fun cn_7 => ?_)
        · skip
          exact absurd cn_7 (by decide)
        · skip
          refine lv_iconst (v := (-1)) hx hb dX8_bar_16 (by rfl) ?_
          subst hQ; subst hAe
          exact W.iret (v := (-1)) hx hb hr (fun tz htz hWz => ⟨⟨(-1), wv, rfl, ⟨by first | (simp only [cond_true, cond_false, Bool.and_true, Bool.and_false, Bool.true_and, Bool.false_and, e1]; done) | (simp only [cond_true, cond_false, Bool.and_true, Bool.and_false, Bool.true_and, Bool.false_and, e1, e2]; done), by first | (simp only [cond_true, cond_false, Bool.and_true, Bool.and_false, Bool.true_and, Bool.false_and, e1]; exact hva; done) | (simp only [cond_true, cond_false, Bool.and_true, Bool.and_false, Bool.true_and, Bool.false_and, e1, e2]; exact hva; done)⟩, by rw [htz]; exact hP, hD⟩, hS.F htz⟩) hS.2.2 dX8_bar_17
  · skip
    have e1 : zi N v = false := zi_f hw_2
    refine zr_ti (y := nI 0) rfl ?_
    refine lv_if_eq (tgt := 16) hx hb dX8_bar_5 (by decide) (fun cn_8 => ?_) (fun cn_8 => ?_)
    · skip
      refine lv_iconst (v := (-1)) hx hb dX8_bar_16 (by rfl) ?_
      subst hQ; subst hAe
      exact W.iret (v := (-1)) hx hb hr (fun tz htz hWz => ⟨⟨(-1), wv, rfl, ⟨by first | (simp only [cond_true, cond_false, Bool.and_true, Bool.and_false, Bool.true_and, Bool.false_and, e1]; done) | (simp only [cond_true, cond_false, Bool.and_true, Bool.and_false, Bool.true_and, Bool.false_and, e1, e2]; done), by first | (simp only [cond_true, cond_false, Bool.and_true, Bool.and_false, Bool.true_and, Bool.false_and, e1]; exact hva; done) | (simp only [cond_true, cond_false, Bool.and_true, Bool.and_false, Bool.true_and, Bool.false_and, e1, e2]; exact hva; done)⟩, by rw [htz]; exact hP, hD⟩, hS.F htz⟩) hS.2.2 dX8_bar_17
    · skip
      exact absurd cn_8 (by decide)

set_option maxHeartbeats 4000000 in
set_option maxRecDepth 100000 in
theorem c_X8_rate (l : Launch) (D : va_G) (E : Nat → ClassId) (m0 : Nat) (w0 : Nat) (w1 : Nat) (w2 : Nat) (w3 : Nat) (w4 : Nat) (w5 : Nat) (w6 : Nat) (w7 : Nat) (w8 : Nat) (w9 : Nat) (ik : Int32) (tx : Nat) (he : Int32) (fa : Int32) (cl : Nat) (wv : Nat → Int32) (N : Nat) (G : Nat → Nat → Nat) (P : Nat → Nat → Nat) (X : Nat → Nat) (Y : Nat → Nat) (B : Nat → Nat → Nat) (R : Nat → Nat) (kd : Nat) (sn : Nat) (sT : Nat → Nat) (sR : Nat → Nat) (sH : Nat → Nat) (en : Nat) (eW : Nat → Nat) (eN : Nat → Nat) (bn : Nat) (bT : Nat → Nat) (bN : Nat → Nat) (v : Int32) (w : Int32) (hva : zv_all N G P X Y B R kd sn sT sR sH en eW eN bn bT bN wv) (hzs : zs_all N kd sn sT sR sH en eW eN bn bT bN) : Met l yX8_rate wsX8_rate ({ frames := 2, cells := 0, slots := 0, locals := 42 }) (zw_P D E [.ref m0, .int v, .int w] [(m0, .inr (6, [.ref w0, .ref w1, .ref w2, .int ik, .ref w3, .int (nI tx), .int he, .int fa, .ref w4, .ref w5, .int (nI cl), .ref w6, .ref w7, .ref w8, .ref w9])), (w0, .inl (E 0, 137, .inl wv))]) (zw_Qi D [(m0, .inr (6, [.ref w0, .ref w1, .ref w2, .int ik, .ref w3, .int (nI tx), .int he, .int fa, .ref w4, .ref w5, .int (nI cl), .ref w6, .ref w7, .ref w8, .ref w9])), (w0, .inl (E 0, 137, .inl wv))] (fun zv (u : (Nat → Int32)) => zv = cond (zi 4 v) (cond (zi 100 w) (nI (R (zq v))) (-2)) (-1) ∧ zv_all N G P X Y B (cond (zi 4 v && zi 100 w) (zm_up R (zq v) (zq w)) R) kd sn sT sR sH en eW eN bn bT bN u) (fun (u : (Nat → Int32)) => [(m0, .inr (6, [.ref w0, .ref w1, .ref w2, .int ik, .ref w3, .int (nI tx), .int he, .int fa, .ref w4, .ref w5, .int (nI cl), .ref w6, .ref w7, .ref w8, .ref w9])), (w0, .inl (E 0, 137, .inl u))])) 0 0 (zw_A [(m0, .inr (6, [.ref w0, .ref w1, .ref w2, .int ik, .ref w3, .int (nI tx), .int he, .int fa, .ref w4, .ref w5, .int (nI cl), .ref w6, .ref w7, .ref w8, .ref w9])), (w0, .inl (E 0, 137, .inl wv))]) := by
  refine Met.ofW (cc := cX8_rate) (maxL := 4) (ret := (some .int)) (by decide) rfl ?_
  intro p e s m args below meth c s₁ Bz hml hv
  obtain ⟨rfl, hP, hK, hD0⟩ := hv
  have hx := Bz.exec
  have hb := Bz.bytes
  have hr := Bz.returns
  have hts := atoms_spec (ws := wsX8_rate) Bz.pre
  have hown : s.vm.findClass RX8 = some m.cls := findClass_of_methodNamed Bz.named
  have hlocks := Bz.notSynchronized
  have hP : va_P D vwCl [(m0, .inr (6, [.ref w0, .ref w1, .ref w2, .int ik, .ref w3, .int (nI tx), .int he, .int fa, .ref w4, .ref w5, .int (nI cl), .ref w6, .ref w7, .ref w8, .ref w9])), (w0, .inl (E 0, 137, .inl wv))] s.heap := hP
  obtain ⟨A, hAe⟩ : ∃ A : Nat → Prop, A = zw_A [(m0, .inr (6, [.ref w0, .ref w1, .ref w2, .int ik, .ref w3, .int (nI tx), .int he, .int fa, .ref w4, .ref w5, .int (nI cl), .ref w6, .ref w7, .ref w8, .ref w9])), (w0, .inl (E 0, 137, .inl wv))] := ⟨_, rfl⟩
  have hD : va_D A [(m0, .inr (6, [.ref w0, .ref w1, .ref w2, .int ik, .ref w3, .int (nI tx), .int he, .int fa, .ref w4, .ref w5, .int (nI cl), .ref w6, .ref w7, .ref w8, .ref w9])), (w0, .inl (E 0, 137, .inl wv))] := hAe ▸ zw_own hD0
  have hS : va_S A s.heap s.heap [] := va_S.rf
  have hl := lv_entry ([.ref m0, .int v, .int w]) (n := 4) (Nat.le_of_ble_eq_true rfl)
  rw [lg_entry_eq]
  generalize (lg_sl ([.ref m0, .int v, .int w]) ++ List.replicate (4 - (lg_sl ([.ref m0, .int v, .int w])).length) Slot.unset).toArray = ls at hl ⊢
  have hl : lv_has ls 4 [(0, .ref m0), (1, .int v), (2, .int w)] := hl
  refine zr_nQ (fun Q hQ => ?_)
  obtain ⟨hvg, hxy, hvb, hvr, hkv, hzc, hze, hzb, hn6, hn8, hm8⟩ := id hva
  obtain ⟨hkd, hse, hev, hbo⟩ := id hzs
  have hok := hvg.1
  have hN := hok.1
  have hvn := hvg.2.1
  have hgr := zm_gr_of hxy
  refine lv_iload_n hx hb dX8_rate_0 rfl (lv_at hl 1 rfl) ?_
  refine lv_iconst (v := nI 0) hx hb dX8_rate_1 (by rfl) ?_
  refine lv_iconst (v := nI 3) hx hb dX8_rate_2 (by rfl) ?_
  refine zr_ci hP hS (va_runS (As := [.int v, .int (nI 0), .int (nI 3)]) (rest := []) ⟨hx, hb, hml, hown, hts⟩ (c_X8_isIn l D E v (nI 0) (nI 3) ) (va_cwS 3 hts gX8_rate_X8_isIn rfl rfl rfl (by decide +kernel) ⟨Nat.le_of_ble_eq_true rfl, Nat.le_of_ble_eq_true rfl⟩) (zr_S hK (hP.sub (ws' := []) [] rfl)) rfl rfl hl.1 rfl (lv_room (Nat.le_of_ble_eq_true rfl)) dX8_rate_3 ⟨Nat.zero_le _, Nat.zero_le _⟩) (fun r_1 H locs hw_2 hP hS => ?_)
  rcases hw_2 with ⟨rfl, hw_2⟩ | ⟨rfl, hw_2⟩
  · skip
    obtain ⟨t, ht, v_e⟩ := zn_in3 (n := 4) (by omega) (by omega) hw_2.1 hw_2.2
    have e1 : zi 4 v = true := v_e ▸ zi_t ht (by omega)
    have q1 : zq v = t := v_e ▸ zq_t (by omega)
    rw [v_e] at hl
    refine zr_ti (y := nI 1) rfl ?_
    refine lv_if_ne (tgt := 11) hx hb dX8_rate_6 (by decide) (fun cn_3 => ?_) (fun cn_3 => ?_)
    · skip
      refine lv_iload_n hx hb dX8_rate_11 rfl (lv_at hl 2 rfl) ?_
      refine zr_ci hP hS (va_runS (As := [.int w]) (rest := []) ⟨hx, hb, hml, hown, hts⟩ (c_X8_isTwo l D E w ) (va_cwS 1 hts gX8_rate_X8_isTwo rfl rfl rfl (by decide +kernel) ⟨Nat.le_of_ble_eq_true rfl, Nat.le_of_ble_eq_true rfl⟩) (zr_S hK (hP.sub (ws' := []) [] rfl)) rfl rfl hl.1 rfl (lv_room (Nat.le_of_ble_eq_true rfl)) dX8_rate_12 ⟨Nat.zero_le _, Nat.zero_le _⟩) (fun r_4 H locs hw_5 hP hS => ?_)
      rcases hw_5 with ⟨rfl, hw_5⟩ | ⟨rfl, hw_5⟩
      · skip
        obtain ⟨u, hu, w_e⟩ := hw_5
        have e2 : zi 100 w = true := w_e ▸ zi_t hu (by omega)
        have q2 : zq w = u := w_e ▸ zq_t (by omega)
        rw [w_e] at hl
        refine zr_ti (y := nI 1) rfl ?_
        refine lv_if_ne (tgt := 21) hx hb dX8_rate_15 (by decide) (fun cn_6 => ?_) (fun cn_6 => ?_)
        · skip
          obtain ⟨hR1, hR2⟩ := hvr t (by omega)
          refine lv_aload_n hx hb dX8_rate_21 rfl (lv_at hl 0 rfl) ?_
          refine va_get (D := D) (ci := 6) (v := .ref w0) (C := RX8) (T := TX8) (N := 15) hx hb hts (by decide +kernel) hown hK.1 hP 0 rfl rfl 0 (by decide) (hts (.fieldLink RX8 11 "HomeRoundsModel" "w" "[I") (by decide +kernel)) (fun _ h9 => h9) rfl dX8_rate_22 ?_
          refine lv_iconst (v := nI 5) hx hb dX8_rate_25 (by rfl) ?_
          refine lv_iload_n hx hb dX8_rate_26 rfl (lv_at hl 1 rfl) ?_
          refine lv_iadd hx hb dX8_rate_27 ?_
          refine zr_ti (y := nI (5 + t)) (nI_add _ _) ?_
          refine va_iald hx hb hK.1 hP 1 0 rfl rfl (vp_in_nI (by omega) (by omega)) dX8_rate_28 ?_
          refine zr_ti (y := nI (R t)) ((congrArg wv (nI_clamp (by omega))).trans (hR2)) ?_
          refine lv_istore_n (lv' := [(3, .int (nI (R t))), (0, .ref m0), (1, .int (nI t)), (2, .int (nI u))]) hx hb dX8_rate_29 rfl hl (by decide) rfl (fun ls hl => ?_)
          refine lv_aload_n hx hb dX8_rate_30 rfl (lv_at hl 1 rfl) ?_
          refine va_get (D := D) (ci := 6) (v := .ref w0) (C := RX8) (T := TX8) (N := 15) hx hb hts (by decide +kernel) hown hK.1 hP 0 rfl rfl 0 (by decide) (hts (.fieldLink RX8 11 "HomeRoundsModel" "w" "[I") (by decide +kernel)) (fun _ h9 => h9) rfl dX8_rate_31 ?_
          refine lv_iconst (v := nI 5) hx hb dX8_rate_34 (by rfl) ?_
          refine lv_iload_n hx hb dX8_rate_35 rfl (lv_at hl 2 rfl) ?_
          refine lv_iadd hx hb dX8_rate_36 ?_
          refine zr_ti (y := nI (5 + t)) (nI_add _ _) ?_
          refine lv_iload_n hx hb dX8_rate_37 rfl (lv_at hl 3 rfl) ?_
          refine va_iast hx hb hK.1 hP hD hS 1 0 rfl rfl (vp_in_nI (by omega) (by omega)) dX8_rate_38 (fun H locs hP hD hS => ?_)
          have hP : va_P D vwCl [(m0, .inr (6, [.ref w0, .ref w1, .ref w2, .int ik, .ref w3, .int (nI tx), .int he, .int fa, .ref w4, .ref w5, .int (nI cl), .ref w6, .ref w7, .ref w8, .ref w9])), (w0, .inl (E 0, 137, .inl (upd wv (nI (5 + t)).toNatClampNeg (nI u))))] H := hP
          have hD : va_D A [(m0, .inr (6, [.ref w0, .ref w1, .ref w2, .int ik, .ref w3, .int (nI tx), .int he, .int fa, .ref w4, .ref w5, .int (nI cl), .ref w6, .ref w7, .ref w8, .ref w9])), (w0, .inl (E 0, 137, .inl (upd wv (nI (5 + t)).toNatClampNeg (nI u))))] := hD
          have hcz : (upd wv (nI (5 + t)).toNatClampNeg (nI u)) = (upd wv (5 + t) (nI u)) := by rw [nI_clamp (n := 5 + t) (by omega)]
          rw [hcz] at hP hD
          refine lv_iload_n hx hb dX8_rate_39 rfl (lv_at hl 0 rfl) ?_
          subst hQ; subst hAe
          exact W.iret (v := nI (R t)) hx hb hr (fun tz htz hWz => ⟨⟨nI (R t), (upd wv (5 + t) (nI u)), rfl, ⟨by simp only [cond_true, cond_false, Bool.and_true, Bool.and_false, Bool.true_and, Bool.false_and, e1, e2, q1], by simp only [cond_true, cond_false, Bool.and_true, Bool.and_false, Bool.true_and, Bool.false_and, e1, e2, q1, q2]; exact zv_all_ra hva (by omega) (by omega)⟩, by rw [htz]; exact hP, hD⟩, hS.F htz⟩) hS.2.2 dX8_rate_40
        · skip
          exact absurd cn_6 (by decide)
      · skip
        have e2 : zi 100 w = false := zi_f hw_5
        refine zr_ti (y := nI 0) rfl ?_
        refine lv_if_ne (tgt := 21) hx hb dX8_rate_15 (by decide) (fun cn_7 => ?_) (fun cn_7 => ?_)
        · skip
          exact absurd cn_7 (by decide)
        · skip
          refine lv_bipush (v := (-2)) hx hb dX8_rate_18 (by rfl) ?_
          subst hQ; subst hAe
          exact W.iret (v := (-2)) hx hb hr (fun tz htz hWz => ⟨⟨(-2), wv, rfl, ⟨by simp only [cond_true, cond_false, Bool.and_true, Bool.and_false, Bool.true_and, Bool.false_and, e1, e2], by simp only [cond_true, cond_false, Bool.and_true, Bool.and_false, Bool.true_and, Bool.false_and, e1, e2]; exact hva⟩, by rw [htz]; exact hP, hD⟩, hS.F htz⟩) hS.2.2 dX8_rate_20
    · skip
      exact absurd cn_3 (by decide)
  · skip
    have e1 : zi 4 v = false := zi_f (zn_out3 (n := 4) (by omega) hw_2)
    refine zr_ti (y := nI 0) rfl ?_
    refine lv_if_ne (tgt := 11) hx hb dX8_rate_6 (by decide) (fun cn_8 => ?_) (fun cn_8 => ?_)
    · skip
      exact absurd cn_8 (by decide)
    · skip
      refine lv_iconst (v := (-1)) hx hb dX8_rate_9 (by rfl) ?_
      subst hQ; subst hAe
      exact W.iret (v := (-1)) hx hb hr (fun tz htz hWz => ⟨⟨(-1), wv, rfl, ⟨by simp only [cond_true, cond_false, Bool.and_true, Bool.and_false, Bool.true_and, Bool.false_and, e1], by simp only [cond_true, cond_false, Bool.and_true, Bool.and_false, Bool.true_and, Bool.false_and, e1]; exact hva⟩, by rw [htz]; exact hP, hD⟩, hS.F htz⟩) hS.2.2 dX8_rate_10

set_option maxHeartbeats 4000000 in
set_option maxRecDepth 100000 in
theorem c_X8_kind (l : Launch) (D : va_G) (E : Nat → ClassId) (m0 : Nat) (w0 : Nat) (w1 : Nat) (w2 : Nat) (w3 : Nat) (w4 : Nat) (w5 : Nat) (w6 : Nat) (w7 : Nat) (w8 : Nat) (w9 : Nat) (ik : Int32) (tx : Nat) (he : Int32) (fa : Int32) (cl : Nat) (wv : Nat → Int32) (N : Nat) (G : Nat → Nat → Nat) (P : Nat → Nat → Nat) (X : Nat → Nat) (Y : Nat → Nat) (B : Nat → Nat → Nat) (R : Nat → Nat) (kd : Nat) (sn : Nat) (sT : Nat → Nat) (sR : Nat → Nat) (sH : Nat → Nat) (en : Nat) (eW : Nat → Nat) (eN : Nat → Nat) (bn : Nat) (bT : Nat → Nat) (bN : Nat → Nat) (v : Int32) (hva : zv_all N G P X Y B R kd sn sT sR sH en eW eN bn bT bN wv) (hzs : zs_all N kd sn sT sR sH en eW eN bn bT bN) : Met l yX8_kind wsX8_kind ({ frames := 1, cells := 0, slots := 0, locals := 22 }) (zw_P D E [.ref m0, .int v] [(m0, .inr (6, [.ref w0, .ref w1, .ref w2, .int ik, .ref w3, .int (nI tx), .int he, .int fa, .ref w4, .ref w5, .int (nI cl), .ref w6, .ref w7, .ref w8, .ref w9])), (w0, .inl (E 0, 137, .inl wv))]) (zw_Qi D [(m0, .inr (6, [.ref w0, .ref w1, .ref w2, .int ik, .ref w3, .int (nI tx), .int he, .int fa, .ref w4, .ref w5, .int (nI cl), .ref w6, .ref w7, .ref w8, .ref w9])), (w0, .inl (E 0, 137, .inl wv))] (fun zv (u : (Nat → Int32)) => zv = cond (zi 3 v) (nI kd) (-2) ∧ zv_all N G P X Y B R (cond (zi 3 v) (zq v) kd) sn sT sR sH en eW eN bn bT bN u) (fun (u : (Nat → Int32)) => [(m0, .inr (6, [.ref w0, .ref w1, .ref w2, .int ik, .ref w3, .int (nI tx), .int he, .int fa, .ref w4, .ref w5, .int (nI cl), .ref w6, .ref w7, .ref w8, .ref w9])), (w0, .inl (E 0, 137, .inl u))])) 0 0 (zw_A [(m0, .inr (6, [.ref w0, .ref w1, .ref w2, .int ik, .ref w3, .int (nI tx), .int he, .int fa, .ref w4, .ref w5, .int (nI cl), .ref w6, .ref w7, .ref w8, .ref w9])), (w0, .inl (E 0, 137, .inl wv))]) := by
  refine Met.ofW (cc := cX8_kind) (maxL := 3) (ret := (some .int)) (by decide) rfl ?_
  intro p e s m args below meth c s₁ Bz hml hv
  obtain ⟨rfl, hP, hK, hD0⟩ := hv
  have hx := Bz.exec
  have hb := Bz.bytes
  have hr := Bz.returns
  have hts := atoms_spec (ws := wsX8_kind) Bz.pre
  have hown : s.vm.findClass RX8 = some m.cls := findClass_of_methodNamed Bz.named
  have hlocks := Bz.notSynchronized
  have hP : va_P D vwCl [(m0, .inr (6, [.ref w0, .ref w1, .ref w2, .int ik, .ref w3, .int (nI tx), .int he, .int fa, .ref w4, .ref w5, .int (nI cl), .ref w6, .ref w7, .ref w8, .ref w9])), (w0, .inl (E 0, 137, .inl wv))] s.heap := hP
  obtain ⟨A, hAe⟩ : ∃ A : Nat → Prop, A = zw_A [(m0, .inr (6, [.ref w0, .ref w1, .ref w2, .int ik, .ref w3, .int (nI tx), .int he, .int fa, .ref w4, .ref w5, .int (nI cl), .ref w6, .ref w7, .ref w8, .ref w9])), (w0, .inl (E 0, 137, .inl wv))] := ⟨_, rfl⟩
  have hD : va_D A [(m0, .inr (6, [.ref w0, .ref w1, .ref w2, .int ik, .ref w3, .int (nI tx), .int he, .int fa, .ref w4, .ref w5, .int (nI cl), .ref w6, .ref w7, .ref w8, .ref w9])), (w0, .inl (E 0, 137, .inl wv))] := hAe ▸ zw_own hD0
  have hS : va_S A s.heap s.heap [] := va_S.rf
  have hl := lv_entry ([.ref m0, .int v]) (n := 3) (Nat.le_of_ble_eq_true rfl)
  rw [lg_entry_eq]
  generalize (lg_sl ([.ref m0, .int v]) ++ List.replicate (3 - (lg_sl ([.ref m0, .int v])).length) Slot.unset).toArray = ls at hl ⊢
  have hl : lv_has ls 3 [(0, .ref m0), (1, .int v)] := hl
  refine zr_nQ (fun Q hQ => ?_)
  obtain ⟨hvg, hxy, hvb, hvr, hkv, hzc, hze, hzb, hn6, hn8, hm8⟩ := id hva
  obtain ⟨hkd, hse, hev, hbo⟩ := id hzs
  have hok := hvg.1
  have hN := hok.1
  have hvn := hvg.2.1
  have hgr := zm_gr_of hxy
  refine lv_iload_n hx hb dX8_kind_0 rfl (lv_at hl 1 rfl) ?_
  refine lv_iconst (v := nI 0) hx hb dX8_kind_1 (by rfl) ?_
  refine lv_iconst (v := nI 2) hx hb dX8_kind_2 (by rfl) ?_
  refine zr_ci hP hS (va_runS (As := [.int v, .int (nI 0), .int (nI 2)]) (rest := []) ⟨hx, hb, hml, hown, hts⟩ (c_X8_isIn l D E v (nI 0) (nI 2) ) (va_cwS 3 hts gX8_kind_X8_isIn rfl rfl rfl (by decide +kernel) ⟨Nat.le_of_ble_eq_true rfl, Nat.le_of_ble_eq_true rfl⟩) (zr_S hK (hP.sub (ws' := []) [] rfl)) rfl rfl hl.1 rfl (lv_room (Nat.le_of_ble_eq_true rfl)) dX8_kind_3 ⟨Nat.zero_le _, Nat.zero_le _⟩) (fun r_1 H locs hw_2 hP hS => ?_)
  rcases hw_2 with ⟨rfl, hw_2⟩ | ⟨rfl, hw_2⟩
  · skip
    obtain ⟨t, ht, v_e⟩ := zn_in3 (n := 3) (by omega) (by omega) hw_2.1 hw_2.2
    have e1 : zi 3 v = true := v_e ▸ zi_t ht (by omega)
    have q1 : zq v = t := v_e ▸ zq_t (by omega)
    rw [v_e] at hl
    refine zr_ti (y := nI 1) rfl ?_
    refine lv_if_ne (tgt := 12) hx hb dX8_kind_6 (by decide) (fun cn_3 => ?_) (fun cn_3 => ?_)
    · skip
      refine lv_aload_n hx hb dX8_kind_12 rfl (lv_at hl 0 rfl) ?_
      refine va_get (D := D) (ci := 6) (v := .ref w0) (C := RX8) (T := TX8) (N := 15) hx hb hts (by decide +kernel) hown hK.1 hP 0 rfl rfl 0 (by decide) (hts (.fieldLink RX8 11 "HomeRoundsModel" "w" "[I") (by decide +kernel)) (fun _ h9 => h9) rfl dX8_kind_13 ?_
      refine lv_iconst (v := nI 1) hx hb dX8_kind_16 (by rfl) ?_
      refine va_iald hx hb hK.1 hP 1 0 rfl rfl (vp_in_nI (by omega) (by omega)) dX8_kind_17 ?_
      refine zr_ti (y := nI kd) ((congrArg wv (nI_clamp (by omega))).trans (hkv)) ?_
      refine lv_istore_n (lv' := [(2, .int (nI kd)), (0, .ref m0), (1, .int (nI t))]) hx hb dX8_kind_18 rfl hl (by decide) rfl (fun ls hl => ?_)
      refine lv_aload_n hx hb dX8_kind_19 rfl (lv_at hl 1 rfl) ?_
      refine va_get (D := D) (ci := 6) (v := .ref w0) (C := RX8) (T := TX8) (N := 15) hx hb hts (by decide +kernel) hown hK.1 hP 0 rfl rfl 0 (by decide) (hts (.fieldLink RX8 11 "HomeRoundsModel" "w" "[I") (by decide +kernel)) (fun _ h9 => h9) rfl dX8_kind_20 ?_
      refine lv_iconst (v := nI 1) hx hb dX8_kind_23 (by rfl) ?_
      refine lv_iload_n hx hb dX8_kind_24 rfl (lv_at hl 2 rfl) ?_
      refine va_iast hx hb hK.1 hP hD hS 1 0 rfl rfl (vp_in_nI (by omega) (by omega)) dX8_kind_25 (fun H locs hP hD hS => ?_)
      have hP : va_P D vwCl [(m0, .inr (6, [.ref w0, .ref w1, .ref w2, .int ik, .ref w3, .int (nI tx), .int he, .int fa, .ref w4, .ref w5, .int (nI cl), .ref w6, .ref w7, .ref w8, .ref w9])), (w0, .inl (E 0, 137, .inl (upd wv (nI 1).toNatClampNeg (nI t))))] H := hP
      have hD : va_D A [(m0, .inr (6, [.ref w0, .ref w1, .ref w2, .int ik, .ref w3, .int (nI tx), .int he, .int fa, .ref w4, .ref w5, .int (nI cl), .ref w6, .ref w7, .ref w8, .ref w9])), (w0, .inl (E 0, 137, .inl (upd wv (nI 1).toNatClampNeg (nI t))))] := hD
      have hcz : (upd wv (nI 1).toNatClampNeg (nI t)) = (upd wv 1 (nI t)) := by rw [nI_clamp (n := 1) (by omega)]
      rw [hcz] at hP hD
      refine lv_iload_n hx hb dX8_kind_26 rfl (lv_at hl 0 rfl) ?_
      subst hQ; subst hAe
      exact W.iret (v := nI kd) hx hb hr (fun tz htz hWz => ⟨⟨nI kd, (upd wv 1 (nI t)), rfl, ⟨by simp only [cond_true, cond_false, Bool.and_true, Bool.and_false, Bool.true_and, Bool.false_and, e1], by simp only [cond_true, cond_false, Bool.and_true, Bool.and_false, Bool.true_and, Bool.false_and, e1, q1]; exact zv_all_ki hva⟩, by rw [htz]; exact hP, hD⟩, hS.F htz⟩) hS.2.2 dX8_kind_27
    · skip
      exact absurd cn_3 (by decide)
  · skip
    have e1 : zi 3 v = false := zi_f (zn_out3 (n := 3) (by omega) hw_2)
    refine zr_ti (y := nI 0) rfl ?_
    refine lv_if_ne (tgt := 12) hx hb dX8_kind_6 (by decide) (fun cn_4 => ?_) (fun cn_4 => ?_)
    · skip
      exact absurd cn_4 (by decide)
    · skip
      refine lv_bipush (v := (-2)) hx hb dX8_kind_9 (by rfl) ?_
      subst hQ; subst hAe
      exact W.iret (v := (-2)) hx hb hr (fun tz htz hWz => ⟨⟨(-2), wv, rfl, ⟨by simp only [cond_true, cond_false, Bool.and_true, Bool.and_false, Bool.true_and, Bool.false_and, e1], by simp only [cond_true, cond_false, Bool.and_true, Bool.and_false, Bool.true_and, Bool.false_and, e1]; exact hva⟩, by rw [htz]; exact hP, hD⟩, hS.F htz⟩) hS.2.2 dX8_kind_11

set_option maxHeartbeats 4000000 in
set_option maxRecDepth 100000 in
theorem c_X8_game (l : Launch) (D : va_G) (E : Nat → ClassId) (m0 : Nat) (w0 : Nat) (w1 : Nat) (w2 : Nat) (w3 : Nat) (w4 : Nat) (w5 : Nat) (w6 : Nat) (w7 : Nat) (w8 : Nat) (w9 : Nat) (ik : Int32) (tx : Nat) (he : Int32) (fa : Int32) (cl : Nat) (wv : Nat → Int32) (N : Nat) (G : Nat → Nat → Nat) (P : Nat → Nat → Nat) (X : Nat → Nat) (Y : Nat → Nat) (B : Nat → Nat → Nat) (R : Nat → Nat) (kd : Nat) (sn : Nat) (sT : Nat → Nat) (sR : Nat → Nat) (sH : Nat → Nat) (en : Nat) (eW : Nat → Nat) (eN : Nat → Nat) (bn : Nat) (bT : Nat → Nat) (bN : Nat → Nat) (v : Int32) (w : Int32) (y : Int32) (hva : zv_all N G P X Y B R kd sn sT sR sH en eW eN bn bT bN wv) (hzs : zs_all N kd sn sT sR sH en eW eN bn bT bN) : Met l yX8_game wsX8_game ({ frames := 2, cells := 0, slots := 0, locals := 46 }) (zr_P D E [.ref m0, .int v, .int w, .int y] [(m0, .inr (6, [.ref w0, .ref w1, .ref w2, .int ik, .ref w3, .int (nI tx), .int he, .int fa, .ref w4, .ref w5, .int (nI cl), .ref w6, .ref w7, .ref w8, .ref w9])), (w0, .inl (E 0, 137, .inl wv))]) (zr_Qi (fun zv => zv = cond (zi (N - 1) v && zi (N / 2) w && zi 2 y) (nI (G (zq v) (2 * zq w + zq y))) (-1))) 0 0 (fun _ => False) := by
  refine Met.ofW (cc := cX8_game) (maxL := 4) (ret := (some .int)) (by decide) rfl ?_
  intro p e s m args below meth c s₁ Bz hml hv
  obtain ⟨rfl, hP, hK⟩ := hv
  have hx := Bz.exec
  have hb := Bz.bytes
  have hr := Bz.returns
  have hts := atoms_spec (ws := wsX8_game) Bz.pre
  have hown : s.vm.findClass RX8 = some m.cls := findClass_of_methodNamed Bz.named
  have hlocks := Bz.notSynchronized
  have hP : va_P D vwCl [(m0, .inr (6, [.ref w0, .ref w1, .ref w2, .int ik, .ref w3, .int (nI tx), .int he, .int fa, .ref w4, .ref w5, .int (nI cl), .ref w6, .ref w7, .ref w8, .ref w9])), (w0, .inl (E 0, 137, .inl wv))] s.heap := hP
  have hS : va_S (fun _ : Nat => False) s.heap s.heap [] := va_S.rf
  have hl := lv_entry ([.ref m0, .int v, .int w, .int y]) (n := 4) (Nat.le_of_ble_eq_true rfl)
  rw [lg_entry_eq]
  generalize (lg_sl ([.ref m0, .int v, .int w, .int y]) ++ List.replicate (4 - (lg_sl ([.ref m0, .int v, .int w, .int y])).length) Slot.unset).toArray = ls at hl ⊢
  have hl : lv_has ls 4 [(0, .ref m0), (1, .int v), (2, .int w), (3, .int y)] := hl
  refine zr_nQ (fun Q hQ => ?_)
  obtain ⟨hvg, hxy, hvb, hvr, hkv, hzc, hze, hzb, hn6, hn8, hm8⟩ := id hva
  obtain ⟨hkd, hse, hev, hbo⟩ := id hzs
  have hok := hvg.1
  have hN := hok.1
  have hvn := hvg.2.1
  have hgr := zm_gr_of hxy
  refine lv_aload_n hx hb dX8_game_0 rfl (lv_at hl 0 rfl) ?_
  refine lv_iload_n hx hb dX8_game_1 rfl (lv_at hl 1 rfl) ?_
  refine zr_ci hP hS (va_runV (As := [.int v]) (rest := []) ⟨hx, hb, hml, hown, hts⟩ (c_X8_isRound l D E m0 w0 w1 w2 w3 w4 w5 w6 w7 w8 w9 ik tx he fa cl wv N v (hvn) (hN)) (cwV 1 hts gX8_game_X8_isRound rfl rfl rfl (by decide +kernel) ⟨Nat.le_of_ble_eq_true rfl, Nat.le_of_ble_eq_true rfl⟩) (zr_V hK (hP.sub (ws' := [(m0, .inr (6, [.ref w0, .ref w1, .ref w2, .int ik, .ref w3, .int (nI tx), .int he, .int fa, .ref w4, .ref w5, .int (nI cl), .ref w6, .ref w7, .ref w8, .ref w9])), (w0, .inl (E 0, 137, .inl wv))]) [0, 1] rfl) (ci := 6) (q0 := 0) rfl rfl) rfl rfl hl.1 rfl (lv_room (Nat.le_of_ble_eq_true rfl)) dX8_game_2 ⟨Nat.zero_le _, Nat.zero_le _⟩) (fun r_1 H locs hw_2 hP hS => ?_)
  rcases hw_2 with ⟨rfl, hw_2⟩ | ⟨rfl, hw_2⟩
  · skip
    obtain ⟨t, ht, v_e⟩ := hw_2
    have e1 : zi (N - 1) v = true := v_e ▸ zi_t ht (by omega)
    have q1 : zq v = t := v_e ▸ zq_t (by omega)
    rw [v_e] at hl
    refine zr_ti (y := nI 1) rfl ?_
    refine lv_if_eq (tgt := 35) hx hb dX8_game_5 (by decide) (fun cn_3 => ?_) (fun cn_3 => ?_)
    · skip
      exact absurd cn_3 (by decide)
    · skip
      refine lv_aload_n hx hb dX8_game_8 rfl (lv_at hl 0 rfl) ?_
      refine lv_iload_n hx hb dX8_game_9 rfl (lv_at hl 2 rfl) ?_
      refine zr_ci hP hS (va_runV (As := [.int w]) (rest := []) ⟨hx, hb, hml, hown, hts⟩ (c_X8_isGame l D E m0 w0 w1 w2 w3 w4 w5 w6 w7 w8 w9 ik tx he fa cl wv N w (hvn) (hN)) (cwV 1 hts gX8_game_X8_isGame rfl rfl rfl (by decide +kernel) ⟨Nat.le_of_ble_eq_true rfl, Nat.le_of_ble_eq_true rfl⟩) (zr_V hK (hP.sub (ws' := [(m0, .inr (6, [.ref w0, .ref w1, .ref w2, .int ik, .ref w3, .int (nI tx), .int he, .int fa, .ref w4, .ref w5, .int (nI cl), .ref w6, .ref w7, .ref w8, .ref w9])), (w0, .inl (E 0, 137, .inl wv))]) [0, 1] rfl) (ci := 6) (q0 := 0) rfl rfl) rfl rfl hl.1 rfl (lv_room (Nat.le_of_ble_eq_true rfl)) dX8_game_10 ⟨Nat.zero_le _, Nat.zero_le _⟩) (fun r_4 H locs hw_5 hP hS => ?_)
      rcases hw_5 with ⟨rfl, hw_5⟩ | ⟨rfl, hw_5⟩
      · skip
        obtain ⟨u, hu, w_e⟩ := hw_5
        have e2 : zi (N / 2) w = true := w_e ▸ zi_t hu (by omega)
        have q2 : zq w = u := w_e ▸ zq_t (by omega)
        rw [w_e] at hl
        refine zr_ti (y := nI 1) rfl ?_
        refine lv_if_eq (tgt := 35) hx hb dX8_game_13 (by decide) (fun cn_6 => ?_) (fun cn_6 => ?_)
        · skip
          exact absurd cn_6 (by decide)
        · skip
          refine lv_iload_n hx hb dX8_game_16 rfl (lv_at hl 3 rfl) ?_
          refine lv_iconst (v := nI 0) hx hb dX8_game_17 (by rfl) ?_
          refine lv_iconst (v := nI 1) hx hb dX8_game_18 (by rfl) ?_
          refine zr_ci hP hS (va_runS (As := [.int y, .int (nI 0), .int (nI 1)]) (rest := []) ⟨hx, hb, hml, hown, hts⟩ (c_X8_isIn l D E y (nI 0) (nI 1) ) (va_cwS 3 hts gX8_game_X8_isIn rfl rfl rfl (by decide +kernel) ⟨Nat.le_of_ble_eq_true rfl, Nat.le_of_ble_eq_true rfl⟩) (zr_S hK (hP.sub (ws' := []) [] rfl)) rfl rfl hl.1 rfl (lv_room (Nat.le_of_ble_eq_true rfl)) dX8_game_19 ⟨Nat.zero_le _, Nat.zero_le _⟩) (fun r_7 H locs hw_8 hP hS => ?_)
          rcases hw_8 with ⟨rfl, hw_8⟩ | ⟨rfl, hw_8⟩
          · skip
            obtain ⟨z, hz, y_e⟩ := zn_in3 (n := 2) (by omega) (by omega) hw_8.1 hw_8.2
            have e3 : zi 2 y = true := y_e ▸ zi_t hz (by omega)
            have q3 : zq y = z := y_e ▸ zq_t (by omega)
            rw [y_e] at hl
            refine zr_ti (y := nI 1) rfl ?_
            refine lv_if_eq (tgt := 35) hx hb dX8_game_22 (by decide) (fun cn_9 => ?_) (fun cn_9 => ?_)
            · skip
              exact absurd cn_9 (by decide)
            · skip
              refine lv_aload_n hx hb dX8_game_25 rfl (lv_at hl 0 rfl) ?_
              refine lv_iload_n hx hb dX8_game_26 rfl (lv_at hl 1 rfl) ?_
              refine lv_iload_n hx hb dX8_game_27 rfl (lv_at hl 2 rfl) ?_
              refine lv_iload_n hx hb dX8_game_28 rfl (lv_at hl 3 rfl) ?_
              refine zr_ci hP hS (va_runV (As := [.int (nI t), .int (nI u), .int (nI z)]) (rest := []) ⟨hx, hb, hml, hown, hts⟩ (c_X8_who l D E m0 w0 w1 w2 w3 w4 w5 w6 w7 w8 w9 ik tx he fa cl wv N G P t u z (hvg) (by omega) (by omega) (by omega)) (cwV 3 hts gX8_game_X8_who rfl rfl rfl (by decide +kernel) ⟨Nat.le_of_ble_eq_true rfl, Nat.le_of_ble_eq_true rfl⟩) (zr_V hK (hP.sub (ws' := [(m0, .inr (6, [.ref w0, .ref w1, .ref w2, .int ik, .ref w3, .int (nI tx), .int he, .int fa, .ref w4, .ref w5, .int (nI cl), .ref w6, .ref w7, .ref w8, .ref w9])), (w0, .inl (E 0, 137, .inl wv))]) [0, 1] rfl) (ci := 6) (q0 := 0) rfl rfl) rfl rfl hl.1 rfl (lv_room (Nat.le_of_ble_eq_true rfl)) dX8_game_29 ⟨Nat.zero_le _, Nat.zero_le _⟩) (fun r_10 H locs hw_11 hP hS => ?_)
              subst hw_11
              refine lv_goto (tgt := 36) hx hb dX8_game_32 (by decide) ?_
              subst hQ
              exact W.iret (v := nI (G t (2 * u + z))) hx hb hr (fun tz htz hWz => ⟨⟨nI (G t (2 * u + z)), (), rfl, by first | (simp only [cond_true, cond_false, Bool.and_true, Bool.and_false, Bool.true_and, Bool.false_and, e1, e2, e3, q1, q2, q3]; done) | (simp only [cond_true, cond_false, Bool.and_true, Bool.and_false, Bool.true_and, Bool.false_and, e1]; done) | (simp only [cond_true, cond_false, Bool.and_true, Bool.and_false, Bool.true_and, Bool.false_and, e1, e2]; done) | (simp only [cond_true, cond_false, Bool.and_true, Bool.and_false, Bool.true_and, Bool.false_and, e1, e2, e3]; done), trivial⟩, hS.F htz⟩) hS.2.2 dX8_game_36
          · skip
            have e3 : zi 2 y = false := zi_f (zn_out3 (n := 2) (by omega) hw_8)
            refine zr_ti (y := nI 0) rfl ?_
            refine lv_if_eq (tgt := 35) hx hb dX8_game_22 (by decide) (fun cn_12 => ?_) (fun cn_12 => ?_)
            · skip
              refine lv_iconst (v := (-1)) hx hb dX8_game_35 (by rfl) ?_
              subst hQ
              exact W.iret (v := (-1)) hx hb hr (fun tz htz hWz => ⟨⟨(-1), (), rfl, by first | (simp only [cond_true, cond_false, Bool.and_true, Bool.and_false, Bool.true_and, Bool.false_and, e1, e2, e3, q1, q2, q3]; done) | (simp only [cond_true, cond_false, Bool.and_true, Bool.and_false, Bool.true_and, Bool.false_and, e1]; done) | (simp only [cond_true, cond_false, Bool.and_true, Bool.and_false, Bool.true_and, Bool.false_and, e1, e2]; done) | (simp only [cond_true, cond_false, Bool.and_true, Bool.and_false, Bool.true_and, Bool.false_and, e1, e2, e3]; done), trivial⟩, hS.F htz⟩) hS.2.2 dX8_game_36
            · skip
              exact absurd cn_12 (by decide)
      · skip
        have e2 : zi (N / 2) w = false := zi_f hw_5
        refine zr_ti (y := nI 0) rfl ?_
        refine lv_if_eq (tgt := 35) hx hb dX8_game_13 (by decide) (fun cn_13 => ?_) (fun cn_13 => ?_)
        · skip
          refine lv_iconst (v := (-1)) hx hb dX8_game_35 (by rfl) ?_
          subst hQ
          exact W.iret (v := (-1)) hx hb hr (fun tz htz hWz => ⟨⟨(-1), (), rfl, by first | (simp only [cond_true, cond_false, Bool.and_true, Bool.and_false, Bool.true_and, Bool.false_and, e1, e2, e3, q1, q2, q3]; done) | (simp only [cond_true, cond_false, Bool.and_true, Bool.and_false, Bool.true_and, Bool.false_and, e1]; done) | (simp only [cond_true, cond_false, Bool.and_true, Bool.and_false, Bool.true_and, Bool.false_and, e1, e2]; done) | (simp only [cond_true, cond_false, Bool.and_true, Bool.and_false, Bool.true_and, Bool.false_and, e1, e2, e3]; done), trivial⟩, hS.F htz⟩) hS.2.2 dX8_game_36
        · skip
          exact absurd cn_13 (by decide)
  · skip
    have e1 : zi (N - 1) v = false := zi_f hw_2
    refine zr_ti (y := nI 0) rfl ?_
    refine lv_if_eq (tgt := 35) hx hb dX8_game_5 (by decide) (fun cn_14 => ?_) (fun cn_14 => ?_)
    · skip
      refine lv_iconst (v := (-1)) hx hb dX8_game_35 (by rfl) ?_
      subst hQ
      exact W.iret (v := (-1)) hx hb hr (fun tz htz hWz => ⟨⟨(-1), (), rfl, by first | (simp only [cond_true, cond_false, Bool.and_true, Bool.and_false, Bool.true_and, Bool.false_and, e1, e2, e3, q1, q2, q3]; done) | (simp only [cond_true, cond_false, Bool.and_true, Bool.and_false, Bool.true_and, Bool.false_and, e1]; done) | (simp only [cond_true, cond_false, Bool.and_true, Bool.and_false, Bool.true_and, Bool.false_and, e1, e2]; done) | (simp only [cond_true, cond_false, Bool.and_true, Bool.and_false, Bool.true_and, Bool.false_and, e1, e2, e3]; done), trivial⟩, hS.F htz⟩) hS.2.2 dX8_game_36
    · skip
      exact absurd cn_14 (by decide)

set_option maxHeartbeats 4000000 in
set_option maxRecDepth 100000 in
theorem c_X8_of (l : Launch) (D : va_G) (E : Nat → ClassId) (m0 : Nat) (w0 : Nat) (w1 : Nat) (w2 : Nat) (w3 : Nat) (w4 : Nat) (w5 : Nat) (w6 : Nat) (w7 : Nat) (w8 : Nat) (w9 : Nat) (ik : Int32) (tx : Nat) (he : Int32) (fa : Int32) (cl : Nat) (wv : Nat → Int32) (N : Nat) (G : Nat → Nat → Nat) (P : Nat → Nat → Nat) (X : Nat → Nat) (Y : Nat → Nat) (B : Nat → Nat → Nat) (R : Nat → Nat) (kd : Nat) (sn : Nat) (sT : Nat → Nat) (sR : Nat → Nat) (sH : Nat → Nat) (en : Nat) (eW : Nat → Nat) (eN : Nat → Nat) (bn : Nat) (bT : Nat → Nat) (bN : Nat → Nat) (v : Int32) (w : Int32) (y : Int32) (hva : zv_all N G P X Y B R kd sn sT sR sH en eW eN bn bT bN wv) (hzs : zs_all N kd sn sT sR sH en eW eN bn bT bN) : Met l yX8_of wsX8_of ({ frames := 2, cells := 0, slots := 0, locals := 46 }) (zr_P D E [.ref m0, .int v, .int w, .int y] [(m0, .inr (6, [.ref w0, .ref w1, .ref w2, .int ik, .ref w3, .int (nI tx), .int he, .int fa, .ref w4, .ref w5, .int (nI cl), .ref w6, .ref w7, .ref w8, .ref w9])), (w0, .inl (E 0, 137, .inl wv))]) (zr_Qi (fun zv => zv = cond (zi N v && zi (N - 1) w) (zo_of G P B (zq v) (zq w) (zw 4 y)) (-1))) 0 0 (fun _ => False) := by
  refine Met.ofW (cc := cX8_of) (maxL := 4) (ret := (some .int)) (by decide) rfl ?_
  intro p e s m args below meth c s₁ Bz hml hv
  obtain ⟨rfl, hP, hK⟩ := hv
  have hx := Bz.exec
  have hb := Bz.bytes
  have hr := Bz.returns
  have hts := atoms_spec (ws := wsX8_of) Bz.pre
  have hown : s.vm.findClass RX8 = some m.cls := findClass_of_methodNamed Bz.named
  have hlocks := Bz.notSynchronized
  have hP : va_P D vwCl [(m0, .inr (6, [.ref w0, .ref w1, .ref w2, .int ik, .ref w3, .int (nI tx), .int he, .int fa, .ref w4, .ref w5, .int (nI cl), .ref w6, .ref w7, .ref w8, .ref w9])), (w0, .inl (E 0, 137, .inl wv))] s.heap := hP
  have hS : va_S (fun _ : Nat => False) s.heap s.heap [] := va_S.rf
  have hl := lv_entry ([.ref m0, .int v, .int w, .int y]) (n := 4) (Nat.le_of_ble_eq_true rfl)
  rw [lg_entry_eq]
  generalize (lg_sl ([.ref m0, .int v, .int w, .int y]) ++ List.replicate (4 - (lg_sl ([.ref m0, .int v, .int w, .int y])).length) Slot.unset).toArray = ls at hl ⊢
  have hl : lv_has ls 4 [(0, .ref m0), (1, .int v), (2, .int w), (3, .int y)] := hl
  refine zr_nQ (fun Q hQ => ?_)
  obtain ⟨hvg, hxy, hvb, hvr, hkv, hzc, hze, hzb, hn6, hn8, hm8⟩ := id hva
  obtain ⟨hkd, hse, hev, hbo⟩ := id hzs
  have hok := hvg.1
  have hN := hok.1
  have hvn := hvg.2.1
  have hgr := zm_gr_of hxy
  refine lv_aload_n hx hb dX8_of_0 rfl (lv_at hl 0 rfl) ?_
  refine lv_iload_n hx hb dX8_of_1 rfl (lv_at hl 1 rfl) ?_
  refine zr_ci hP hS (va_runV (As := [.int v]) (rest := []) ⟨hx, hb, hml, hown, hts⟩ (c_X8_isTeam l D E m0 w0 w1 w2 w3 w4 w5 w6 w7 w8 w9 ik tx he fa cl wv N v (hvn) (hN)) (cwV 1 hts gX8_of_X8_isTeam rfl rfl rfl (by decide +kernel) ⟨Nat.le_of_ble_eq_true rfl, Nat.le_of_ble_eq_true rfl⟩) (zr_V hK (hP.sub (ws' := [(m0, .inr (6, [.ref w0, .ref w1, .ref w2, .int ik, .ref w3, .int (nI tx), .int he, .int fa, .ref w4, .ref w5, .int (nI cl), .ref w6, .ref w7, .ref w8, .ref w9])), (w0, .inl (E 0, 137, .inl wv))]) [0, 1] rfl) (ci := 6) (q0 := 0) rfl rfl) rfl rfl hl.1 rfl (lv_room (Nat.le_of_ble_eq_true rfl)) dX8_of_2 ⟨Nat.zero_le _, Nat.zero_le _⟩) (fun r_1 H locs hw_2 hP hS => ?_)
  rcases hw_2 with ⟨rfl, hw_2⟩ | ⟨rfl, hw_2⟩
  · skip
    obtain ⟨t, ht, v_e⟩ := hw_2
    have e1 : zi N v = true := v_e ▸ zi_t ht (by omega)
    have q1 : zq v = t := v_e ▸ zq_t (by omega)
    rw [v_e] at hl
    refine zr_ti (y := nI 1) rfl ?_
    refine lv_if_eq (tgt := 16) hx hb dX8_of_5 (by decide) (fun cn_3 => ?_) (fun cn_3 => ?_)
    · skip
      exact absurd cn_3 (by decide)
    · skip
      refine lv_aload_n hx hb dX8_of_8 rfl (lv_at hl 0 rfl) ?_
      refine lv_iload_n hx hb dX8_of_9 rfl (lv_at hl 2 rfl) ?_
      refine zr_ci hP hS (va_runV (As := [.int w]) (rest := []) ⟨hx, hb, hml, hown, hts⟩ (c_X8_isRound l D E m0 w0 w1 w2 w3 w4 w5 w6 w7 w8 w9 ik tx he fa cl wv N w (hvn) (hN)) (cwV 1 hts gX8_of_X8_isRound rfl rfl rfl (by decide +kernel) ⟨Nat.le_of_ble_eq_true rfl, Nat.le_of_ble_eq_true rfl⟩) (zr_V hK (hP.sub (ws' := [(m0, .inr (6, [.ref w0, .ref w1, .ref w2, .int ik, .ref w3, .int (nI tx), .int he, .int fa, .ref w4, .ref w5, .int (nI cl), .ref w6, .ref w7, .ref w8, .ref w9])), (w0, .inl (E 0, 137, .inl wv))]) [0, 1] rfl) (ci := 6) (q0 := 0) rfl rfl) rfl rfl hl.1 rfl (lv_room (Nat.le_of_ble_eq_true rfl)) dX8_of_10 ⟨Nat.zero_le _, Nat.zero_le _⟩) (fun r_4 H locs hw_5 hP hS => ?_)
      rcases hw_5 with ⟨rfl, hw_5⟩ | ⟨rfl, hw_5⟩
      · skip
        obtain ⟨u, hu, w_e⟩ := hw_5
        have e2 : zi (N - 1) w = true := w_e ▸ zi_t hu (by omega)
        have q2 : zq w = u := w_e ▸ zq_t (by omega)
        rw [w_e] at hl
        refine zr_ti (y := nI 1) rfl ?_
        refine lv_if_ne (tgt := 18) hx hb dX8_of_13 (by decide) (fun cn_6 => ?_) (fun cn_6 => ?_)
        · skip
          refine lv_iload_n hx hb dX8_of_18 rfl (lv_at hl 3 rfl) ?_
          rcases zn_sw y 4 with hsw | hsw
          · obtain ⟨kz, hkz, hxz⟩ := hsw
            have hsw : kz = 0 ∨ kz = 1 ∨ kz = 2 ∨ kz = 3 := by omega
            rcases hsw with hsw | hsw | hsw | hsw
            · skip
              rw [hsw] at hxz; clear hsw hkz
              have hz : zw 4 y = 0 := by rw [hxz]; exact zw_t (by omega)
              refine zr_ti (y := nI 0) (hxz) ?_
              refine lv_tableIn (x := nI 0) (off := 29) (tgt := 48) hx hb dX8_of_19 (by decide +kernel) (by decide +kernel) (by decide +kernel) (by decide) ?_
              refine lv_aload_n hx hb dX8_of_48 rfl (lv_at hl 0 rfl) ?_
              refine lv_iload_n hx hb dX8_of_49 rfl (lv_at hl 1 rfl) ?_
              refine lv_iload_n hx hb dX8_of_50 rfl (lv_at hl 2 rfl) ?_
              refine zr_ci hP hS (va_runV (As := [.int (nI t), .int (nI u)]) (rest := []) ⟨hx, hb, hml, hown, hts⟩ (c_X8_meets l D E m0 w0 w1 w2 w3 w4 w5 w6 w7 w8 w9 ik tx he fa cl wv N G P t u (hvg) (by omega) (by omega)) (cwV 2 hts gX8_of_X8_meets rfl rfl rfl (by decide +kernel) ⟨Nat.le_of_ble_eq_true rfl, Nat.le_of_ble_eq_true rfl⟩) (zr_V hK (hP.sub (ws' := [(m0, .inr (6, [.ref w0, .ref w1, .ref w2, .int ik, .ref w3, .int (nI tx), .int he, .int fa, .ref w4, .ref w5, .int (nI cl), .ref w6, .ref w7, .ref w8, .ref w9])), (w0, .inl (E 0, 137, .inl wv))]) [0, 1] rfl) (ci := 6) (q0 := 0) rfl rfl) rfl rfl hl.1 rfl (lv_room (Nat.le_of_ble_eq_true rfl)) dX8_of_51 ⟨Nat.zero_le _, Nat.zero_le _⟩) (fun r_7 H locs hw_8 hP hS => ?_)
              subst hw_8
              subst hQ
              exact W.iret (v := nI (zm_rv G P t u)) hx hb hr (fun tz htz hWz => ⟨⟨nI (zm_rv G P t u), (), rfl, by simp only [cond_true, cond_false, Bool.and_true, Bool.and_false, Bool.true_and, Bool.false_and, e1, e2, q1, q2, hz]; rfl, trivial⟩, hS.F htz⟩) hS.2.2 dX8_of_54
            · skip
              rw [hsw] at hxz; clear hsw hkz
              have hz : zw 4 y = 1 := by rw [hxz]; exact zw_t (by omega)
              refine zr_ti (y := nI 1) (hxz) ?_
              refine lv_tableIn (x := nI 1) (off := 36) (tgt := 55) hx hb dX8_of_19 (by decide +kernel) (by decide +kernel) (by decide +kernel) (by decide) ?_
              refine lv_aload_n hx hb dX8_of_55 rfl (lv_at hl 0 rfl) ?_
              refine lv_iload_n hx hb dX8_of_56 rfl (lv_at hl 1 rfl) ?_
              refine lv_iload_n hx hb dX8_of_57 rfl (lv_at hl 2 rfl) ?_
              refine zr_ci hP hS (va_runV (As := [.int (nI t), .int (nI u)]) (rest := []) ⟨hx, hb, hml, hown, hts⟩ (c_X8_isHome l D E m0 w0 w1 w2 w3 w4 w5 w6 w7 w8 w9 ik tx he fa cl wv N G P t u (hvg) (by omega) (by omega)) (cwV 2 hts gX8_of_X8_isHome rfl rfl rfl (by decide +kernel) ⟨Nat.le_of_ble_eq_true rfl, Nat.le_of_ble_eq_true rfl⟩) (zr_V hK (hP.sub (ws' := [(m0, .inr (6, [.ref w0, .ref w1, .ref w2, .int ik, .ref w3, .int (nI tx), .int he, .int fa, .ref w4, .ref w5, .int (nI cl), .ref w6, .ref w7, .ref w8, .ref w9])), (w0, .inl (E 0, 137, .inl wv))]) [0, 1] rfl) (ci := 6) (q0 := 0) rfl rfl) rfl rfl hl.1 rfl (lv_room (Nat.le_of_ble_eq_true rfl)) dX8_of_58 ⟨Nat.zero_le _, Nat.zero_le _⟩) (fun r_9 H locs hw_10 hP hS => ?_)
              rcases hw_10 with ⟨rfl, hw_10⟩ | ⟨rfl, hw_10⟩
              · skip
                have hA := hw_10
                refine zr_ti (y := nI 1) rfl ?_
                refine lv_if_eq (tgt := 68) hx hb dX8_of_61 (by decide) (fun cn_11 => ?_) (fun cn_11 => ?_)
                · skip
                  exact absurd cn_11 (by decide)
                · skip
                  refine lv_iconst (v := nI 1) hx hb dX8_of_64 (by rfl) ?_
                  refine lv_goto (tgt := 69) hx hb dX8_of_65 (by decide) ?_
                  subst hQ
                  exact W.iret (v := nI 1) hx hb hr (fun tz htz hWz => ⟨⟨nI 1, (), rfl, by simp only [cond_true, cond_false, Bool.and_true, Bool.and_false, Bool.true_and, Bool.false_and, e1, e2, q1, q2, hz]; exact congrArg nI hA.symm, trivial⟩, hS.F htz⟩) hS.2.2 dX8_of_69
              · skip
                have hA := hw_10
                refine zr_ti (y := nI 0) rfl ?_
                refine lv_if_eq (tgt := 68) hx hb dX8_of_61 (by decide) (fun cn_12 => ?_) (fun cn_12 => ?_)
                · skip
                  refine lv_iconst (v := nI 0) hx hb dX8_of_68 (by rfl) ?_
                  subst hQ
                  exact W.iret (v := nI 0) hx hb hr (fun tz htz hWz => ⟨⟨nI 0, (), rfl, by simp only [cond_true, cond_false, Bool.and_true, Bool.and_false, Bool.true_and, Bool.false_and, e1, e2, q1, q2, hz]; exact congrArg nI hA.symm, trivial⟩, hS.F htz⟩) hS.2.2 dX8_of_69
                · skip
                  exact absurd cn_12 (by decide)
            · skip
              rw [hsw] at hxz; clear hsw hkz
              have hz : zw 4 y = 2 := by rw [hxz]; exact zw_t (by omega)
              refine zr_ti (y := nI 2) (hxz) ?_
              refine lv_tableIn (x := nI 2) (off := 51) (tgt := 70) hx hb dX8_of_19 (by decide +kernel) (by decide +kernel) (by decide +kernel) (by decide) ?_
              obtain ⟨hp1, -⟩ := hok.2.2 u t hu ht
              refine lv_aload_n hx hb dX8_of_70 rfl (lv_at hl 0 rfl) ?_
              refine lv_iload_n hx hb dX8_of_71 rfl (lv_at hl 1 rfl) ?_
              refine lv_iload_n hx hb dX8_of_72 rfl (lv_at hl 2 rfl) ?_
              refine zr_ci hP hS (va_runV (As := [.int (nI t), .int (nI u)]) (rest := []) ⟨hx, hb, hml, hown, hts⟩ (c_X8_placeOf l D E m0 w0 w1 w2 w3 w4 w5 w6 w7 w8 w9 ik tx he fa cl wv N G P t u (hvg) (by omega) (by omega)) (cwV 2 hts gX8_of_X8_placeOf rfl rfl rfl (by decide +kernel) ⟨Nat.le_of_ble_eq_true rfl, Nat.le_of_ble_eq_true rfl⟩) (zr_V hK (hP.sub (ws' := [(m0, .inr (6, [.ref w0, .ref w1, .ref w2, .int ik, .ref w3, .int (nI tx), .int he, .int fa, .ref w4, .ref w5, .int (nI cl), .ref w6, .ref w7, .ref w8, .ref w9])), (w0, .inl (E 0, 137, .inl wv))]) [0, 1] rfl) (ci := 6) (q0 := 0) rfl rfl) rfl rfl hl.1 rfl (lv_room (Nat.le_of_ble_eq_true rfl)) dX8_of_73 ⟨Nat.zero_le _, Nat.zero_le _⟩) (fun r_13 H locs hw_14 hP hS => ?_)
              subst hw_14
              refine lv_iconst (v := nI 2) hx hb dX8_of_76 (by rfl) ?_
              refine lv_idiv hx hb dX8_of_77 (by decide) ?_
              refine zr_ti (y := nI ((P u t) / 2)) (pk_div (by omega) (by omega) (by omega)) ?_
              subst hQ
              exact W.iret (v := nI ((P u t) / 2)) hx hb hr (fun tz htz hWz => ⟨⟨nI ((P u t) / 2), (), rfl, by simp only [cond_true, cond_false, Bool.and_true, Bool.and_false, Bool.true_and, Bool.false_and, e1, e2, q1, q2, hz]; rfl, trivial⟩, hS.F htz⟩) hS.2.2 dX8_of_78
            · skip
              rw [hsw] at hxz; clear hsw hkz
              have hz : zw 4 y = 3 := by rw [hxz]; exact zw_t (by omega)
              refine zr_ti (y := nI 3) (hxz) ?_
              refine lv_tableIn (x := nI 3) (off := 60) (tgt := 79) hx hb dX8_of_19 (by decide +kernel) (by decide +kernel) (by decide +kernel) (by decide) ?_
              obtain ⟨hb1, hb2⟩ := hvb.1 t u (by omega) (by omega)
              refine lv_aload_n hx hb dX8_of_79 rfl (lv_at hl 0 rfl) ?_
              refine va_get (D := D) (ci := 6) (v := .ref w0) (C := RX8) (T := TX8) (N := 15) hx hb hts (by decide +kernel) hown hK.1 hP 0 rfl rfl 0 (by decide) (hts (.fieldLink RX8 11 "HomeRoundsModel" "w" "[I") (by decide +kernel)) (fun _ h9 => h9) rfl dX8_of_80 ?_
              refine lv_bipush (v := nI 21) hx hb dX8_of_83 (by rfl) ?_
              refine lv_bipush (v := nI 6) hx hb dX8_of_85 (by rfl) ?_
              refine lv_iload_n hx hb dX8_of_87 rfl (lv_at hl 1 rfl) ?_
              refine lv_imul hx hb dX8_of_88 ?_
              refine zr_ti (y := nI (6 * t)) (pk_mul _ _) ?_
              refine lv_iadd hx hb dX8_of_89 ?_
              refine zr_ti (y := nI (21 + (6 * t))) (nI_add _ _) ?_
              refine lv_iload_n hx hb dX8_of_90 rfl (lv_at hl 2 rfl) ?_
              refine lv_iadd hx hb dX8_of_91 ?_
              refine zr_ti (y := nI ((21 + (6 * t)) + u)) (nI_add _ _) ?_
              refine va_iald hx hb hK.1 hP 1 0 rfl rfl (vp_in_nI (by omega) (by omega)) dX8_of_92 ?_
              refine zr_ti (y := nI (B t u)) ((congrArg wv (nI_clamp (by omega))).trans (hb2)) ?_
              subst hQ
              exact W.iret (v := nI (B t u)) hx hb hr (fun tz htz hWz => ⟨⟨nI (B t u), (), rfl, by simp only [cond_true, cond_false, Bool.and_true, Bool.and_false, Bool.true_and, Bool.false_and, e1, e2, q1, q2, hz]; rfl, trivial⟩, hS.F htz⟩) hS.2.2 dX8_of_93
          · skip
            have hz : zw 4 y = 4 := zw_o (by omega) (by simpa using hsw)
            refine lv_tableOut (tgt := 94) hx hb dX8_of_19 (by simpa using hsw) (by decide) ?_
            refine lv_iconst (v := (-1)) hx hb dX8_of_94 (by rfl) ?_
            subst hQ
            exact W.iret (v := (-1)) hx hb hr (fun tz htz hWz => ⟨⟨(-1), (), rfl, by simp only [cond_true, cond_false, Bool.and_true, Bool.and_false, Bool.true_and, Bool.false_and, e1, e2, q1, q2, hz]; rfl, trivial⟩, hS.F htz⟩) hS.2.2 dX8_of_95
        · skip
          exact absurd cn_6 (by decide)
      · skip
        have e2 : zi (N - 1) w = false := zi_f hw_5
        refine zr_ti (y := nI 0) rfl ?_
        refine lv_if_ne (tgt := 18) hx hb dX8_of_13 (by decide) (fun cn_15 => ?_) (fun cn_15 => ?_)
        · skip
          exact absurd cn_15 (by decide)
        · skip
          refine lv_iconst (v := (-1)) hx hb dX8_of_16 (by rfl) ?_
          subst hQ
          exact W.iret (v := (-1)) hx hb hr (fun tz htz hWz => ⟨⟨(-1), (), rfl, by first | (simp only [cond_true, cond_false, Bool.and_true, Bool.and_false, Bool.true_and, Bool.false_and, e1]; done) | (simp only [cond_true, cond_false, Bool.and_true, Bool.and_false, Bool.true_and, Bool.false_and, e1, e2]; done), trivial⟩, hS.F htz⟩) hS.2.2 dX8_of_17
  · skip
    have e1 : zi N v = false := zi_f hw_2
    refine zr_ti (y := nI 0) rfl ?_
    refine lv_if_eq (tgt := 16) hx hb dX8_of_5 (by decide) (fun cn_16 => ?_) (fun cn_16 => ?_)
    · skip
      refine lv_iconst (v := (-1)) hx hb dX8_of_16 (by rfl) ?_
      subst hQ
      exact W.iret (v := (-1)) hx hb hr (fun tz htz hWz => ⟨⟨(-1), (), rfl, by first | (simp only [cond_true, cond_false, Bool.and_true, Bool.and_false, Bool.true_and, Bool.false_and, e1]; done) | (simp only [cond_true, cond_false, Bool.and_true, Bool.and_false, Bool.true_and, Bool.false_and, e1, e2]; done), trivial⟩, hS.F htz⟩) hS.2.2 dX8_of_17
    · skip
      exact absurd cn_16 (by decide)

set_option maxHeartbeats 4000000 in
set_option maxRecDepth 100000 in
theorem c_X8_season (l : Launch) (D : va_G) (E : Nat → ClassId) (m0 : Nat) (w0 : Nat) (w1 : Nat) (w2 : Nat) (w3 : Nat) (w4 : Nat) (w5 : Nat) (w6 : Nat) (w7 : Nat) (w8 : Nat) (w9 : Nat) (ik : Int32) (tx : Nat) (he : Int32) (fa : Int32) (cl : Nat) (wv : Nat → Int32) (N : Nat) (G : Nat → Nat → Nat) (P : Nat → Nat → Nat) (X : Nat → Nat) (Y : Nat → Nat) (B : Nat → Nat → Nat) (R : Nat → Nat) (kd : Nat) (sn : Nat) (sT : Nat → Nat) (sR : Nat → Nat) (sH : Nat → Nat) (en : Nat) (eW : Nat → Nat) (eN : Nat → Nat) (bn : Nat) (bT : Nat → Nat) (bN : Nat → Nat) (v : Int32) (w : Int32) (y : Int32) (hva : zv_all N G P X Y B R kd sn sT sR sH en eW eN bn bT bN wv) (hzs : zs_all N kd sn sT sR sH en eW eN bn bT bN) : Met l yX8_season wsX8_season ({ frames := 3, cells := 0, slots := 0, locals := 68 }) (zr_P D E [.ref m0, .int v, .int w, .int y] [(m0, .inr (6, [.ref w0, .ref w1, .ref w2, .int ik, .ref w3, .int (nI tx), .int he, .int fa, .ref w4, .ref w5, .int (nI cl), .ref w6, .ref w7, .ref w8, .ref w9])), (w0, .inl (E 0, 137, .inl wv))]) (zr_Qi (fun zv => zv = cond (zi N v && zi (2 * (N - 1)) w) (zo_season N G P kd (zq v) (zq w) (zw 2 y)) (-1))) 0 0 (fun _ => False) := by
  refine Met.ofW (cc := cX8_season) (maxL := 4) (ret := (some .int)) (by decide) rfl ?_
  intro p e s m args below meth c s₁ Bz hml hv
  obtain ⟨rfl, hP, hK⟩ := hv
  have hx := Bz.exec
  have hb := Bz.bytes
  have hr := Bz.returns
  have hts := atoms_spec (ws := wsX8_season) Bz.pre
  have hown : s.vm.findClass RX8 = some m.cls := findClass_of_methodNamed Bz.named
  have hlocks := Bz.notSynchronized
  have hP : va_P D vwCl [(m0, .inr (6, [.ref w0, .ref w1, .ref w2, .int ik, .ref w3, .int (nI tx), .int he, .int fa, .ref w4, .ref w5, .int (nI cl), .ref w6, .ref w7, .ref w8, .ref w9])), (w0, .inl (E 0, 137, .inl wv))] s.heap := hP
  have hS : va_S (fun _ : Nat => False) s.heap s.heap [] := va_S.rf
  have hl := lv_entry ([.ref m0, .int v, .int w, .int y]) (n := 4) (Nat.le_of_ble_eq_true rfl)
  rw [lg_entry_eq]
  generalize (lg_sl ([.ref m0, .int v, .int w, .int y]) ++ List.replicate (4 - (lg_sl ([.ref m0, .int v, .int w, .int y])).length) Slot.unset).toArray = ls at hl ⊢
  have hl : lv_has ls 4 [(0, .ref m0), (1, .int v), (2, .int w), (3, .int y)] := hl
  refine zr_nQ (fun Q hQ => ?_)
  obtain ⟨hvg, hxy, hvb, hvr, hkv, hzc, hze, hzb, hn6, hn8, hm8⟩ := id hva
  obtain ⟨hkd, hse, hev, hbo⟩ := id hzs
  have hok := hvg.1
  have hN := hok.1
  have hvn := hvg.2.1
  have hgr := zm_gr_of hxy
  refine lv_aload_n hx hb dX8_season_0 rfl (lv_at hl 0 rfl) ?_
  refine lv_iload_n hx hb dX8_season_1 rfl (lv_at hl 1 rfl) ?_
  refine zr_ci hP hS (va_runV (As := [.int v]) (rest := []) ⟨hx, hb, hml, hown, hts⟩ (c_X8_isTeam l D E m0 w0 w1 w2 w3 w4 w5 w6 w7 w8 w9 ik tx he fa cl wv N v (hvn) (hN)) (cwV 1 hts gX8_season_X8_isTeam rfl rfl rfl (by decide +kernel) ⟨Nat.le_of_ble_eq_true rfl, Nat.le_of_ble_eq_true rfl⟩) (zr_V hK (hP.sub (ws' := [(m0, .inr (6, [.ref w0, .ref w1, .ref w2, .int ik, .ref w3, .int (nI tx), .int he, .int fa, .ref w4, .ref w5, .int (nI cl), .ref w6, .ref w7, .ref w8, .ref w9])), (w0, .inl (E 0, 137, .inl wv))]) [0, 1] rfl) (ci := 6) (q0 := 0) rfl rfl) rfl rfl hl.1 rfl (lv_room (Nat.le_of_ble_eq_true rfl)) dX8_season_2 ⟨Nat.zero_le _, Nat.zero_le _⟩) (fun r_1 H locs hw_2 hP hS => ?_)
  rcases hw_2 with ⟨rfl, hw_2⟩ | ⟨rfl, hw_2⟩
  · skip
    obtain ⟨t, ht, v_e⟩ := hw_2
    have e1 : zi N v = true := v_e ▸ zi_t ht (by omega)
    have q1 : zq v = t := v_e ▸ zq_t (by omega)
    rw [v_e] at hl
    refine zr_ti (y := nI 1) rfl ?_
    refine lv_if_eq (tgt := 33) hx hb dX8_season_5 (by decide) (fun cn_3 => ?_) (fun cn_3 => ?_)
    · skip
      exact absurd cn_3 (by decide)
    · skip
      refine lv_iload_n hx hb dX8_season_8 rfl (lv_at hl 2 rfl) ?_
      refine lv_iconst (v := nI 0) hx hb dX8_season_9 (by rfl) ?_
      refine lv_iconst (v := nI 2) hx hb dX8_season_10 (by rfl) ?_
      refine lv_aload_n hx hb dX8_season_11 rfl (lv_at hl 0 rfl) ?_
      refine zr_ci hP hS (va_runV (As := []) (rest := [.int (nI 2), .int (nI 0), .int w]) ⟨hx, hb, hml, hown, hts⟩ (c_X8_rounds l D E m0 w0 w1 w2 w3 w4 w5 w6 w7 w8 w9 ik tx he fa cl wv N (hvn) (hN)) (cwV 0 hts gX8_season_X8_rounds rfl rfl rfl (by decide +kernel) ⟨Nat.le_of_ble_eq_true rfl, Nat.le_of_ble_eq_true rfl⟩) (zr_V hK (hP.sub (ws' := [(m0, .inr (6, [.ref w0, .ref w1, .ref w2, .int ik, .ref w3, .int (nI tx), .int he, .int fa, .ref w4, .ref w5, .int (nI cl), .ref w6, .ref w7, .ref w8, .ref w9])), (w0, .inl (E 0, 137, .inl wv))]) [0, 1] rfl) (ci := 6) (q0 := 0) rfl rfl) rfl rfl hl.1 rfl (lv_room (Nat.le_of_ble_eq_true rfl)) dX8_season_12 ⟨Nat.zero_le _, Nat.zero_le _⟩) (fun r_4 H locs hw_5 hP hS => ?_)
      subst hw_5
      refine lv_imul hx hb dX8_season_15 ?_
      refine zr_ti (y := nI (2 * (N - 1))) (pk_mul _ _) ?_
      refine lv_iconst (v := nI 1) hx hb dX8_season_16 (by rfl) ?_
      refine lv_isub hx hb dX8_season_17 ?_
      refine zr_ti (y := nI ((2 * (N - 1)) - 1)) (pk_sub (by omega)) ?_
      refine zr_ci hP hS (va_runS (As := [.int w, .int (nI 0), .int (nI ((2 * (N - 1)) - 1))]) (rest := []) ⟨hx, hb, hml, hown, hts⟩ (c_X8_isIn l D E w (nI 0) (nI ((2 * (N - 1)) - 1)) ) (va_cwS 3 hts gX8_season_X8_isIn rfl rfl rfl (by decide +kernel) ⟨Nat.le_of_ble_eq_true rfl, Nat.le_of_ble_eq_true rfl⟩) (zr_S hK (hP.sub (ws' := []) [] rfl)) rfl rfl hl.1 rfl (lv_room (Nat.le_of_ble_eq_true rfl)) dX8_season_18 ⟨Nat.zero_le _, Nat.zero_le _⟩) (fun r_6 H locs hw_7 hP hS => ?_)
      rcases hw_7 with ⟨rfl, hw_7⟩ | ⟨rfl, hw_7⟩
      · skip
        obtain ⟨u, hu, w_e⟩ := zn_in3 (n := 2 * (N - 1)) (by omega) (by omega) hw_7.1 hw_7.2
        have e2 : zi (2 * (N - 1)) w = true := w_e ▸ zi_t hu (by omega)
        have q2 : zq w = u := w_e ▸ zq_t (by omega)
        rw [w_e] at hl
        refine zr_ti (y := nI 1) rfl ?_
        refine lv_if_eq (tgt := 33) hx hb dX8_season_21 (by decide) (fun cn_8 => ?_) (fun cn_8 => ?_)
        · skip
          exact absurd cn_8 (by decide)
        · skip
          refine lv_iload_n hx hb dX8_season_24 rfl (lv_at hl 3 rfl) ?_
          refine lv_iconst (v := nI 0) hx hb dX8_season_25 (by rfl) ?_
          refine lv_iconst (v := nI 1) hx hb dX8_season_26 (by rfl) ?_
          refine zr_ci hP hS (va_runS (As := [.int y, .int (nI 0), .int (nI 1)]) (rest := []) ⟨hx, hb, hml, hown, hts⟩ (c_X8_isIn l D E y (nI 0) (nI 1) ) (va_cwS 3 hts gX8_season_X8_isIn rfl rfl rfl (by decide +kernel) ⟨Nat.le_of_ble_eq_true rfl, Nat.le_of_ble_eq_true rfl⟩) (zr_S hK (hP.sub (ws' := []) [] rfl)) rfl rfl hl.1 rfl (lv_room (Nat.le_of_ble_eq_true rfl)) dX8_season_27 ⟨Nat.zero_le _, Nat.zero_le _⟩) (fun r_9 H locs hw_10 hP hS => ?_)
          rcases hw_10 with ⟨rfl, hw_10⟩ | ⟨rfl, hw_10⟩
          · skip
            obtain ⟨z, hz, y_e⟩ := zn_in3 (n := 2) (by omega) (by omega) hw_10.1 hw_10.2
            have e3 : zi 2 y = true := y_e ▸ zi_t hz (by omega)
            have q3 : zq y = z := y_e ▸ zq_t (by omega)
            rw [y_e] at hl
            refine zr_ti (y := nI 1) rfl ?_
            refine lv_if_ne (tgt := 35) hx hb dX8_season_30 (by decide) (fun cn_11 => ?_) (fun cn_11 => ?_)
            · skip
              refine lv_iload_n hx hb dX8_season_35 rfl (lv_at hl 3 rfl) ?_
              refine lv_if_ne (tgt := 58) hx hb dX8_season_36 (by decide) (fun cn_12 => ?_) (fun cn_12 => ?_)
              · skip
                have cn_12 : ¬ (z = 0) := fun hz => cn_12 ((nI_eq (a := z) (b := 0) (by omega) (by omega)).mpr hz)
                have hz : zw 2 y = 1 := by rw [y_e, show z = 1 from by omega]; exact zw_t (by omega)
                refine lv_aload_n hx hb dX8_season_58 rfl (lv_at hl 0 rfl) ?_
                refine lv_iload_n hx hb dX8_season_59 rfl (lv_at hl 1 rfl) ?_
                refine lv_iload_n hx hb dX8_season_60 rfl (lv_at hl 2 rfl) ?_
                refine lv_aload_n hx hb dX8_season_61 rfl (lv_at hl 0 rfl) ?_
                refine va_get (D := D) (ci := 6) (v := .ref w0) (C := RX8) (T := TX8) (N := 15) hx hb hts (by decide +kernel) hown hK.1 hP 0 rfl rfl 0 (by decide) (hts (.fieldLink RX8 11 "HomeRoundsModel" "w" "[I") (by decide +kernel)) (fun _ h9 => h9) rfl dX8_season_62 ?_
                refine lv_iconst (v := nI 1) hx hb dX8_season_65 (by rfl) ?_
                refine va_iald hx hb hK.1 hP 1 0 rfl rfl (vp_in_nI (by omega) (by omega)) dX8_season_66 ?_
                refine zr_ti (y := nI kd) ((congrArg wv (nI_clamp (by omega))).trans (hkv)) ?_
                refine zr_ci hP hS (va_runV (As := [.int (nI t), .int (nI u), .int (nI kd)]) (rest := []) ⟨hx, hb, hml, hown, hts⟩ (c_X8_isHomeIn l D E m0 w0 w1 w2 w3 w4 w5 w6 w7 w8 w9 ik tx he fa cl wv N G P t u kd (hvg) (by omega) (by omega) (by omega)) (cwV 3 hts gX8_season_X8_isHomeIn rfl rfl rfl (by decide +kernel) ⟨Nat.le_of_ble_eq_true rfl, Nat.le_of_ble_eq_true rfl⟩) (zr_V hK (hP.sub (ws' := [(m0, .inr (6, [.ref w0, .ref w1, .ref w2, .int ik, .ref w3, .int (nI tx), .int he, .int fa, .ref w4, .ref w5, .int (nI cl), .ref w6, .ref w7, .ref w8, .ref w9])), (w0, .inl (E 0, 137, .inl wv))]) [0, 1] rfl) (ci := 6) (q0 := 0) rfl rfl) rfl rfl hl.1 rfl (lv_room (Nat.le_of_ble_eq_true rfl)) dX8_season_67 ⟨Nat.zero_le _, Nat.zero_le _⟩) (fun r_13 H locs hw_14 hP hS => ?_)
                rcases hw_14 with ⟨rfl, hw_14⟩ | ⟨rfl, hw_14⟩
                · skip
                  have hA := hw_14
                  refine zr_ti (y := nI 1) rfl ?_
                  refine lv_if_eq (tgt := 77) hx hb dX8_season_70 (by decide) (fun cn_15 => ?_) (fun cn_15 => ?_)
                  · skip
                    exact absurd cn_15 (by decide)
                  · skip
                    refine lv_iconst (v := nI 1) hx hb dX8_season_73 (by rfl) ?_
                    refine lv_goto (tgt := 78) hx hb dX8_season_74 (by decide) ?_
                    subst hQ
                    exact W.iret (v := nI 1) hx hb hr (fun tz htz hWz => ⟨⟨nI 1, (), rfl, by first | (simp only [cond_true, cond_false, Bool.and_true, Bool.and_false, Bool.true_and, Bool.false_and, e1, e2, q1, q2, hz]; rfl; done) | (simp only [cond_true, cond_false, Bool.and_true, Bool.and_false, Bool.true_and, Bool.false_and, e1, e2, q1, q2, hz]; exact congrArg nI hA.symm; done), trivial⟩, hS.F htz⟩) hS.2.2 dX8_season_78
                · skip
                  have hA := hw_14
                  refine zr_ti (y := nI 0) rfl ?_
                  refine lv_if_eq (tgt := 77) hx hb dX8_season_70 (by decide) (fun cn_16 => ?_) (fun cn_16 => ?_)
                  · skip
                    refine lv_iconst (v := nI 0) hx hb dX8_season_77 (by rfl) ?_
                    subst hQ
                    exact W.iret (v := nI 0) hx hb hr (fun tz htz hWz => ⟨⟨nI 0, (), rfl, by first | (simp only [cond_true, cond_false, Bool.and_true, Bool.and_false, Bool.true_and, Bool.false_and, e1, e2, q1, q2, hz]; rfl; done) | (simp only [cond_true, cond_false, Bool.and_true, Bool.and_false, Bool.true_and, Bool.false_and, e1, e2, q1, q2, hz]; exact congrArg nI hA.symm; done), trivial⟩, hS.F htz⟩) hS.2.2 dX8_season_78
                  · skip
                    exact absurd cn_16 (by decide)
              · skip
                have cn_12 : z = 0 := (nI_eq (a := z) (b := 0) (by omega) (by omega)).mp cn_12
                have hz : zw 2 y = 0 := by rw [y_e, show z = 0 from by omega]; exact zw_t (by omega)
                have hh := zm_half_lt (kd := kd) hN hu
                refine lv_aload_n hx hb dX8_season_39 rfl (lv_at hl 0 rfl) ?_
                refine lv_iload_n hx hb dX8_season_40 rfl (lv_at hl 1 rfl) ?_
                refine lv_aload_n hx hb dX8_season_41 rfl (lv_at hl 0 rfl) ?_
                refine lv_iload_n hx hb dX8_season_42 rfl (lv_at hl 2 rfl) ?_
                refine lv_aload_n hx hb dX8_season_43 rfl (lv_at hl 0 rfl) ?_
                refine va_get (D := D) (ci := 6) (v := .ref w0) (C := RX8) (T := TX8) (N := 15) hx hb hts (by decide +kernel) hown hK.1 hP 0 rfl rfl 0 (by decide) (hts (.fieldLink RX8 11 "HomeRoundsModel" "w" "[I") (by decide +kernel)) (fun _ h9 => h9) rfl dX8_season_44 ?_
                refine lv_iconst (v := nI 1) hx hb dX8_season_47 (by rfl) ?_
                refine va_iald hx hb hK.1 hP 1 0 rfl rfl (vp_in_nI (by omega) (by omega)) dX8_season_48 ?_
                refine zr_ti (y := nI kd) ((congrArg wv (nI_clamp (by omega))).trans (hkv)) ?_
                refine zr_ci hP hS (va_runV (As := [.int (nI u), .int (nI kd)]) (rest := [.int (nI t), .ref m0]) ⟨hx, hb, hml, hown, hts⟩ (c_X8_baseOf l D E m0 w0 w1 w2 w3 w4 w5 w6 w7 w8 w9 ik tx he fa cl wv N u kd (hvn) (hN) (by omega) (by omega)) (cwV 2 hts gX8_season_X8_baseOf rfl rfl rfl (by decide +kernel) ⟨Nat.le_of_ble_eq_true rfl, Nat.le_of_ble_eq_true rfl⟩) (zr_V hK (hP.sub (ws' := [(m0, .inr (6, [.ref w0, .ref w1, .ref w2, .int ik, .ref w3, .int (nI tx), .int he, .int fa, .ref w4, .ref w5, .int (nI cl), .ref w6, .ref w7, .ref w8, .ref w9])), (w0, .inl (E 0, 137, .inl wv))]) [0, 1] rfl) (ci := 6) (q0 := 0) rfl rfl) rfl rfl hl.1 rfl (lv_room (Nat.le_of_ble_eq_true rfl)) dX8_season_49 ⟨Nat.zero_le _, Nat.zero_le _⟩) (fun r_17 H locs hw_18 hP hS => ?_)
                subst hw_18
                refine zr_ci hP hS (va_runV (As := [.int (nI t), .int (nI (zm_half N kd u))]) (rest := []) ⟨hx, hb, hml, hown, hts⟩ (c_X8_meets l D E m0 w0 w1 w2 w3 w4 w5 w6 w7 w8 w9 ik tx he fa cl wv N G P t (zm_half N kd u) (hvg) (by omega) (by omega)) (cwV 2 hts gX8_season_X8_meets rfl rfl rfl (by decide +kernel) ⟨Nat.le_of_ble_eq_true rfl, Nat.le_of_ble_eq_true rfl⟩) (zr_V hK (hP.sub (ws' := [(m0, .inr (6, [.ref w0, .ref w1, .ref w2, .int ik, .ref w3, .int (nI tx), .int he, .int fa, .ref w4, .ref w5, .int (nI cl), .ref w6, .ref w7, .ref w8, .ref w9])), (w0, .inl (E 0, 137, .inl wv))]) [0, 1] rfl) (ci := 6) (q0 := 0) rfl rfl) rfl rfl hl.1 rfl (lv_room (Nat.le_of_ble_eq_true rfl)) dX8_season_52 ⟨Nat.zero_le _, Nat.zero_le _⟩) (fun r_19 H locs hw_20 hP hS => ?_)
                subst hw_20
                refine lv_goto (tgt := 78) hx hb dX8_season_55 (by decide) ?_
                subst hQ
                exact W.iret (v := nI (zm_rv G P t (zm_half N kd u))) hx hb hr (fun tz htz hWz => ⟨⟨nI (zm_rv G P t (zm_half N kd u)), (), rfl, by first | (simp only [cond_true, cond_false, Bool.and_true, Bool.and_false, Bool.true_and, Bool.false_and, e1, e2, q1, q2, hz]; rfl; done) | (simp only [cond_true, cond_false, Bool.and_true, Bool.and_false, Bool.true_and, Bool.false_and, e1, e2, q1, q2, hz]; exact congrArg nI hA.symm; done), trivial⟩, hS.F htz⟩) hS.2.2 dX8_season_78
            · skip
              exact absurd cn_11 (by decide)
          · skip
            have e3 : zw 2 y = 2 := zw_f (zi_f (zn_out3 (n := 2) (by omega) hw_10))
            refine zr_ti (y := nI 0) rfl ?_
            refine lv_if_ne (tgt := 35) hx hb dX8_season_30 (by decide) (fun cn_21 => ?_) (fun cn_21 => ?_)
            · skip
              exact absurd cn_21 (by decide)
            · skip
              refine lv_iconst (v := (-1)) hx hb dX8_season_33 (by rfl) ?_
              subst hQ
              exact W.iret (v := (-1)) hx hb hr (fun tz htz hWz => ⟨⟨(-1), (), rfl, by first | (simp only [cond_true, cond_false, Bool.and_true, Bool.and_false, Bool.true_and, Bool.false_and, e1]; done) | (simp only [cond_true, cond_false, Bool.and_true, Bool.and_false, Bool.true_and, Bool.false_and, e1, e2]; done) | (simp only [cond_true, cond_false, Bool.and_true, Bool.and_false, Bool.true_and, Bool.false_and, e1, e2, e3]; rfl; done), trivial⟩, hS.F htz⟩) hS.2.2 dX8_season_34
      · skip
        have e2 : zi (2 * (N - 1)) w = false := zi_f (zn_out3 (n := 2 * (N - 1)) (by omega) hw_7)
        refine zr_ti (y := nI 0) rfl ?_
        refine lv_if_eq (tgt := 33) hx hb dX8_season_21 (by decide) (fun cn_22 => ?_) (fun cn_22 => ?_)
        · skip
          refine lv_iconst (v := (-1)) hx hb dX8_season_33 (by rfl) ?_
          subst hQ
          exact W.iret (v := (-1)) hx hb hr (fun tz htz hWz => ⟨⟨(-1), (), rfl, by first | (simp only [cond_true, cond_false, Bool.and_true, Bool.and_false, Bool.true_and, Bool.false_and, e1]; done) | (simp only [cond_true, cond_false, Bool.and_true, Bool.and_false, Bool.true_and, Bool.false_and, e1, e2]; done) | (simp only [cond_true, cond_false, Bool.and_true, Bool.and_false, Bool.true_and, Bool.false_and, e1, e2, e3]; rfl; done), trivial⟩, hS.F htz⟩) hS.2.2 dX8_season_34
        · skip
          exact absurd cn_22 (by decide)
  · skip
    have e1 : zi N v = false := zi_f hw_2
    refine zr_ti (y := nI 0) rfl ?_
    refine lv_if_eq (tgt := 33) hx hb dX8_season_5 (by decide) (fun cn_23 => ?_) (fun cn_23 => ?_)
    · skip
      refine lv_iconst (v := (-1)) hx hb dX8_season_33 (by rfl) ?_
      subst hQ
      exact W.iret (v := (-1)) hx hb hr (fun tz htz hWz => ⟨⟨(-1), (), rfl, by first | (simp only [cond_true, cond_false, Bool.and_true, Bool.and_false, Bool.true_and, Bool.false_and, e1]; done) | (simp only [cond_true, cond_false, Bool.and_true, Bool.and_false, Bool.true_and, Bool.false_and, e1, e2]; done) | (simp only [cond_true, cond_false, Bool.and_true, Bool.and_false, Bool.true_and, Bool.false_and, e1, e2, e3]; rfl; done), trivial⟩, hS.F htz⟩) hS.2.2 dX8_season_34
    · skip
      exact absurd cn_23 (by decide)

set_option maxHeartbeats 4000000 in
set_option maxRecDepth 100000 in
theorem c_X8_about (l : Launch) (D : va_G) (E : Nat → ClassId) (m0 : Nat) (w0 : Nat) (w1 : Nat) (w2 : Nat) (w3 : Nat) (w4 : Nat) (w5 : Nat) (w6 : Nat) (w7 : Nat) (w8 : Nat) (w9 : Nat) (ik : Int32) (tx : Nat) (he : Int32) (fa : Int32) (cl : Nat) (wv : Nat → Int32) (N : Nat) (G : Nat → Nat → Nat) (P : Nat → Nat → Nat) (X : Nat → Nat) (Y : Nat → Nat) (B : Nat → Nat → Nat) (R : Nat → Nat) (kd : Nat) (sn : Nat) (sT : Nat → Nat) (sR : Nat → Nat) (sH : Nat → Nat) (en : Nat) (eW : Nat → Nat) (eN : Nat → Nat) (bn : Nat) (bT : Nat → Nat) (bN : Nat → Nat) (v : Int32) (w : Int32) (hva : zv_all N G P X Y B R kd sn sT sR sH en eW eN bn bT bN wv) (hzs : zs_all N kd sn sT sR sH en eW eN bn bT bN) : Met l yX8_about wsX8_about ({ frames := 5, cells := 0, slots := 0, locals := 113 }) (zr_P D E [.ref m0, .int v, .int w] [(m0, .inr (6, [.ref w0, .ref w1, .ref w2, .int ik, .ref w3, .int (nI tx), .int he, .int fa, .ref w4, .ref w5, .int (nI cl), .ref w6, .ref w7, .ref w8, .ref w9])), (w0, .inl (E 0, 137, .inl wv))]) (zr_Qi (fun zv => zv = cond (zi N v) (zo_about N G P X Y kd (zq v) (zw 7 w)) (-1))) 0 0 (fun _ => False) := by
  refine Met.ofW (cc := cX8_about) (maxL := 3) (ret := (some .int)) (by decide) rfl ?_
  intro p e s m args below meth c s₁ Bz hml hv
  obtain ⟨rfl, hP, hK⟩ := hv
  have hx := Bz.exec
  have hb := Bz.bytes
  have hr := Bz.returns
  have hts := atoms_spec (ws := wsX8_about) Bz.pre
  have hown : s.vm.findClass RX8 = some m.cls := findClass_of_methodNamed Bz.named
  have hlocks := Bz.notSynchronized
  have hP : va_P D vwCl [(m0, .inr (6, [.ref w0, .ref w1, .ref w2, .int ik, .ref w3, .int (nI tx), .int he, .int fa, .ref w4, .ref w5, .int (nI cl), .ref w6, .ref w7, .ref w8, .ref w9])), (w0, .inl (E 0, 137, .inl wv))] s.heap := hP
  have hS : va_S (fun _ : Nat => False) s.heap s.heap [] := va_S.rf
  have hl := lv_entry ([.ref m0, .int v, .int w]) (n := 3) (Nat.le_of_ble_eq_true rfl)
  rw [lg_entry_eq]
  generalize (lg_sl ([.ref m0, .int v, .int w]) ++ List.replicate (3 - (lg_sl ([.ref m0, .int v, .int w])).length) Slot.unset).toArray = ls at hl ⊢
  have hl : lv_has ls 3 [(0, .ref m0), (1, .int v), (2, .int w)] := hl
  refine zr_nQ (fun Q hQ => ?_)
  obtain ⟨hvg, hxy, hvb, hvr, hkv, hzc, hze, hzb, hn6, hn8, hm8⟩ := id hva
  obtain ⟨hkd, hse, hev, hbo⟩ := id hzs
  have hok := hvg.1
  have hN := hok.1
  have hvn := hvg.2.1
  have hgr := zm_gr_of hxy
  refine lv_aload_n hx hb dX8_about_0 rfl (lv_at hl 0 rfl) ?_
  refine lv_iload_n hx hb dX8_about_1 rfl (lv_at hl 1 rfl) ?_
  refine zr_ci hP hS (va_runV (As := [.int v]) (rest := []) ⟨hx, hb, hml, hown, hts⟩ (c_X8_isTeam l D E m0 w0 w1 w2 w3 w4 w5 w6 w7 w8 w9 ik tx he fa cl wv N v (hvn) (hN)) (cwV 1 hts gX8_about_X8_isTeam rfl rfl rfl (by decide +kernel) ⟨Nat.le_of_ble_eq_true rfl, Nat.le_of_ble_eq_true rfl⟩) (zr_V hK (hP.sub (ws' := [(m0, .inr (6, [.ref w0, .ref w1, .ref w2, .int ik, .ref w3, .int (nI tx), .int he, .int fa, .ref w4, .ref w5, .int (nI cl), .ref w6, .ref w7, .ref w8, .ref w9])), (w0, .inl (E 0, 137, .inl wv))]) [0, 1] rfl) (ci := 6) (q0 := 0) rfl rfl) rfl rfl hl.1 rfl (lv_room (Nat.le_of_ble_eq_true rfl)) dX8_about_2 ⟨Nat.zero_le _, Nat.zero_le _⟩) (fun r_1 H locs hw_2 hP hS => ?_)
  rcases hw_2 with ⟨rfl, hw_2⟩ | ⟨rfl, hw_2⟩
  · skip
    obtain ⟨t, ht, v_e⟩ := hw_2
    have e1 : zi N v = true := v_e ▸ zi_t ht (by omega)
    have q1 : zq v = t := v_e ▸ zq_t (by omega)
    rw [v_e] at hl
    refine zr_ti (y := nI 1) rfl ?_
    refine lv_if_ne (tgt := 10) hx hb dX8_about_5 (by decide) (fun cn_3 => ?_) (fun cn_3 => ?_)
    · skip
      refine lv_iload_n hx hb dX8_about_10 rfl (lv_at hl 2 rfl) ?_
      rcases zn_sw w 7 with hsw | hsw
      · obtain ⟨kz, hkz, hxz⟩ := hsw
        have hsw : kz = 0 ∨ kz = 1 ∨ kz = 2 ∨ kz = 3 ∨ kz = 4 ∨ kz = 5 ∨ kz = 6 := by omega
        rcases hsw with hsw | hsw | hsw | hsw | hsw | hsw | hsw
        · skip
          rw [hsw] at hxz; clear hsw hkz
          have hz : zw 7 w = 0 := by rw [hxz]; exact zw_t (by omega)
          refine zr_ti (y := nI 0) (hxz) ?_
          refine lv_tableIn (x := nI 0) (off := 41) (tgt := 52) hx hb dX8_about_11 (by decide +kernel) (by decide +kernel) (by decide +kernel) (by decide) ?_
          refine lv_aload_n hx hb dX8_about_52 rfl (lv_at hl 0 rfl) ?_
          refine lv_iload_n hx hb dX8_about_53 rfl (lv_at hl 1 rfl) ?_
          refine zr_ci hP hS (va_runV (As := [.int (nI t)]) (rest := []) ⟨hx, hb, hml, hown, hts⟩ (c_X8_pattern l D E m0 w0 w1 w2 w3 w4 w5 w6 w7 w8 w9 ik tx he fa cl wv N G P t (hvg) (by omega)) (cwV 1 hts gX8_about_X8_pattern rfl rfl rfl (by decide +kernel) ⟨Nat.le_of_ble_eq_true rfl, Nat.le_of_ble_eq_true rfl⟩) (zr_V hK (hP.sub (ws' := [(m0, .inr (6, [.ref w0, .ref w1, .ref w2, .int ik, .ref w3, .int (nI tx), .int he, .int fa, .ref w4, .ref w5, .int (nI cl), .ref w6, .ref w7, .ref w8, .ref w9])), (w0, .inl (E 0, 137, .inl wv))]) [0, 1] rfl) (ci := 6) (q0 := 0) rfl rfl) rfl rfl hl.1 rfl (lv_room (Nat.le_of_ble_eq_true rfl)) dX8_about_54 ⟨Nat.zero_le _, Nat.zero_le _⟩) (fun r_4 H locs hw_5 hP hS => ?_)
          subst hw_5
          subst hQ
          exact W.iret (v := zm_pat P t (N - 1)) hx hb hr (fun tz htz hWz => ⟨⟨zm_pat P t (N - 1), (), rfl, by simp only [cond_true, cond_false, Bool.and_true, Bool.and_false, Bool.true_and, Bool.false_and, e1, q1, hz]; rfl, trivial⟩, hS.F htz⟩) hS.2.2 dX8_about_57
        · skip
          rw [hsw] at hxz; clear hsw hkz
          have hz : zw 7 w = 1 := by rw [hxz]; exact zw_t (by omega)
          refine zr_ti (y := nI 1) (hxz) ?_
          refine lv_tableIn (x := nI 1) (off := 47) (tgt := 58) hx hb dX8_about_11 (by decide +kernel) (by decide +kernel) (by decide +kernel) (by decide) ?_
          refine lv_aload_n hx hb dX8_about_58 rfl (lv_at hl 0 rfl) ?_
          refine lv_iload_n hx hb dX8_about_59 rfl (lv_at hl 1 rfl) ?_
          refine zr_ci hP hS (va_runV (As := [.int (nI t)]) (rest := []) ⟨hx, hb, hml, hown, hts⟩ (c_X8_breaksOf l D E m0 w0 w1 w2 w3 w4 w5 w6 w7 w8 w9 ik tx he fa cl wv N G P t (hvg) (by omega)) (cwV 1 hts gX8_about_X8_breaksOf rfl rfl rfl (by decide +kernel) ⟨Nat.le_of_ble_eq_true rfl, Nat.le_of_ble_eq_true rfl⟩) (zr_V hK (hP.sub (ws' := [(m0, .inr (6, [.ref w0, .ref w1, .ref w2, .int ik, .ref w3, .int (nI tx), .int he, .int fa, .ref w4, .ref w5, .int (nI cl), .ref w6, .ref w7, .ref w8, .ref w9])), (w0, .inl (E 0, 137, .inl wv))]) [0, 1] rfl) (ci := 6) (q0 := 0) rfl rfl) rfl rfl hl.1 rfl (lv_room (Nat.le_of_ble_eq_true rfl)) dX8_about_60 ⟨Nat.zero_le _, Nat.zero_le _⟩) (fun r_6 H locs hw_7 hP hS => ?_)
          subst hw_7
          subst hQ
          exact W.iret (v := nI (zm_br N P t)) hx hb hr (fun tz htz hWz => ⟨⟨nI (zm_br N P t), (), rfl, by simp only [cond_true, cond_false, Bool.and_true, Bool.and_false, Bool.true_and, Bool.false_and, e1, q1, hz]; rfl, trivial⟩, hS.F htz⟩) hS.2.2 dX8_about_63
        · skip
          rw [hsw] at hxz; clear hsw hkz
          have hz : zw 7 w = 2 := by rw [hxz]; exact zw_t (by omega)
          refine zr_ti (y := nI 2) (hxz) ?_
          refine lv_tableIn (x := nI 2) (off := 53) (tgt := 64) hx hb dX8_about_11 (by decide +kernel) (by decide +kernel) (by decide +kernel) (by decide) ?_
          refine lv_aload_n hx hb dX8_about_64 rfl (lv_at hl 0 rfl) ?_
          refine lv_iload_n hx hb dX8_about_65 rfl (lv_at hl 1 rfl) ?_
          refine zr_ci hP hS (va_runV (As := [.int (nI t)]) (rest := []) ⟨hx, hb, hml, hown, hts⟩ (c_X8_otherOf l D E m0 w0 w1 w2 w3 w4 w5 w6 w7 w8 w9 ik tx he fa cl wv N G P t (hvg) (by omega)) (cwV 1 hts gX8_about_X8_otherOf rfl rfl rfl (by decide +kernel) ⟨Nat.le_of_ble_eq_true rfl, Nat.le_of_ble_eq_true rfl⟩) (zr_V hK (hP.sub (ws' := [(m0, .inr (6, [.ref w0, .ref w1, .ref w2, .int ik, .ref w3, .int (nI tx), .int he, .int fa, .ref w4, .ref w5, .int (nI cl), .ref w6, .ref w7, .ref w8, .ref w9])), (w0, .inl (E 0, 137, .inl wv))]) [0, 1] rfl) (ci := 6) (q0 := 0) rfl rfl) rfl rfl hl.1 rfl (lv_room (Nat.le_of_ble_eq_true rfl)) dX8_about_66 ⟨Nat.zero_le _, Nat.zero_le _⟩) (fun r_8 H locs hw_9 hP hS => ?_)
          subst hw_9
          subst hQ
          exact W.iret (v := zm_oth N P t) hx hb hr (fun tz htz hWz => ⟨⟨zm_oth N P t, (), rfl, by simp only [cond_true, cond_false, Bool.and_true, Bool.and_false, Bool.true_and, Bool.false_and, e1, q1, hz]; rfl, trivial⟩, hS.F htz⟩) hS.2.2 dX8_about_69
        · skip
          rw [hsw] at hxz; clear hsw hkz
          have hz : zw 7 w = 3 := by rw [hxz]; exact zw_t (by omega)
          refine zr_ti (y := nI 3) (hxz) ?_
          refine lv_tableIn (x := nI 3) (off := 59) (tgt := 70) hx hb dX8_about_11 (by decide +kernel) (by decide +kernel) (by decide +kernel) (by decide) ?_
          refine lv_aload_n hx hb dX8_about_70 rfl (lv_at hl 0 rfl) ?_
          refine lv_iload_n hx hb dX8_about_71 rfl (lv_at hl 1 rfl) ?_
          refine zr_ci hP hS (va_runV (As := [.int (nI t)]) (rest := []) ⟨hx, hb, hml, hown, hts⟩ (c_X8_milesOf l D E m0 w0 w1 w2 w3 w4 w5 w6 w7 w8 w9 ik tx he fa cl wv N G P X Y t (hvg) (hxy) (by omega)) (cwV 1 hts gX8_about_X8_milesOf rfl rfl rfl (by decide +kernel) ⟨Nat.le_of_ble_eq_true rfl, Nat.le_of_ble_eq_true rfl⟩) (zr_V hK (hP.sub (ws' := [(m0, .inr (6, [.ref w0, .ref w1, .ref w2, .int ik, .ref w3, .int (nI tx), .int he, .int fa, .ref w4, .ref w5, .int (nI cl), .ref w6, .ref w7, .ref w8, .ref w9])), (w0, .inl (E 0, 137, .inl wv))]) [0, 1] rfl) (ci := 6) (q0 := 0) rfl rfl) rfl rfl hl.1 rfl (lv_room (Nat.le_of_ble_eq_true rfl)) dX8_about_72 ⟨Nat.zero_le _, Nat.zero_le _⟩) (fun r_10 H locs hw_11 hP hS => ?_)
          subst hw_11
          subst hQ
          exact W.iret (v := nI (zm_miles N G P X Y t)) hx hb hr (fun tz htz hWz => ⟨⟨nI (zm_miles N G P X Y t), (), rfl, by simp only [cond_true, cond_false, Bool.and_true, Bool.and_false, Bool.true_and, Bool.false_and, e1, q1, hz]; rfl, trivial⟩, hS.F htz⟩) hS.2.2 dX8_about_75
        · skip
          rw [hsw] at hxz; clear hsw hkz
          have hz : zw 7 w = 4 := by rw [hxz]; exact zw_t (by omega)
          refine zr_ti (y := nI 4) (hxz) ?_
          refine lv_tableIn (x := nI 4) (off := 65) (tgt := 76) hx hb dX8_about_11 (by decide +kernel) (by decide +kernel) (by decide +kernel) (by decide) ?_
          rw [hxz] at hl
          obtain ⟨hx1, hx2, hx3, hx4⟩ := hxy t (by omega)
          refine lv_aload_n hx hb dX8_about_76 rfl (lv_at hl 0 rfl) ?_
          refine va_get (D := D) (ci := 6) (v := .ref w0) (C := RX8) (T := TX8) (N := 15) hx hb hts (by decide +kernel) hown hK.1 hP 0 rfl rfl 0 (by decide) (hts (.fieldLink RX8 11 "HomeRoundsModel" "w" "[I") (by decide +kernel)) (fun _ h9 => h9) rfl dX8_about_77 ?_
          refine lv_bipush (v := nI 9) hx hb dX8_about_80 (by rfl) ?_
          refine lv_iconst (v := nI 2) hx hb dX8_about_82 (by rfl) ?_
          refine lv_iload_n hx hb dX8_about_83 rfl (lv_at hl 1 rfl) ?_
          refine lv_imul hx hb dX8_about_84 ?_
          refine zr_ti (y := nI (2 * t)) (pk_mul _ _) ?_
          refine lv_iadd hx hb dX8_about_85 ?_
          refine zr_ti (y := nI (9 + (2 * t))) (nI_add _ _) ?_
          refine lv_iload_n hx hb dX8_about_86 rfl (lv_at hl 2 rfl) ?_
          refine lv_iadd hx hb dX8_about_87 ?_
          refine zr_ti (y := nI ((9 + (2 * t)) + 4)) (nI_add _ _) ?_
          refine lv_iconst (v := nI 4) hx hb dX8_about_88 (by rfl) ?_
          refine lv_isub hx hb dX8_about_89 ?_
          refine zr_ti (y := nI (((9 + (2 * t)) + 4) - 4)) (pk_sub (by omega)) ?_
          refine va_iald hx hb hK.1 hP 1 0 rfl rfl (vp_in_nI (by omega) (by omega)) dX8_about_90 ?_
          refine zr_ti (y := nI (X t)) ((congrArg wv (nI_clamp (by omega))).trans (hx3)) ?_
          subst hQ
          exact W.iret (v := nI (X t)) hx hb hr (fun tz htz hWz => ⟨⟨nI (X t), (), rfl, by simp only [cond_true, cond_false, Bool.and_true, Bool.and_false, Bool.true_and, Bool.false_and, e1, q1, hz]; rfl, trivial⟩, hS.F htz⟩) hS.2.2 dX8_about_91
        · skip
          rw [hsw] at hxz; clear hsw hkz
          have hz : zw 7 w = 5 := by rw [hxz]; exact zw_t (by omega)
          refine zr_ti (y := nI 5) (hxz) ?_
          refine lv_tableIn (x := nI 5) (off := 65) (tgt := 76) hx hb dX8_about_11 (by decide +kernel) (by decide +kernel) (by decide +kernel) (by decide) ?_
          rw [hxz] at hl
          obtain ⟨hx1, hx2, hx3, hx4⟩ := hxy t (by omega)
          refine lv_aload_n hx hb dX8_about_76 rfl (lv_at hl 0 rfl) ?_
          refine va_get (D := D) (ci := 6) (v := .ref w0) (C := RX8) (T := TX8) (N := 15) hx hb hts (by decide +kernel) hown hK.1 hP 0 rfl rfl 0 (by decide) (hts (.fieldLink RX8 11 "HomeRoundsModel" "w" "[I") (by decide +kernel)) (fun _ h9 => h9) rfl dX8_about_77 ?_
          refine lv_bipush (v := nI 9) hx hb dX8_about_80 (by rfl) ?_
          refine lv_iconst (v := nI 2) hx hb dX8_about_82 (by rfl) ?_
          refine lv_iload_n hx hb dX8_about_83 rfl (lv_at hl 1 rfl) ?_
          refine lv_imul hx hb dX8_about_84 ?_
          refine zr_ti (y := nI (2 * t)) (pk_mul _ _) ?_
          refine lv_iadd hx hb dX8_about_85 ?_
          refine zr_ti (y := nI (9 + (2 * t))) (nI_add _ _) ?_
          refine lv_iload_n hx hb dX8_about_86 rfl (lv_at hl 2 rfl) ?_
          refine lv_iadd hx hb dX8_about_87 ?_
          refine zr_ti (y := nI ((9 + (2 * t)) + 5)) (nI_add _ _) ?_
          refine lv_iconst (v := nI 4) hx hb dX8_about_88 (by rfl) ?_
          refine lv_isub hx hb dX8_about_89 ?_
          refine zr_ti (y := nI (((9 + (2 * t)) + 5) - 4)) (pk_sub (by omega)) ?_
          refine va_iald hx hb hK.1 hP 1 0 rfl rfl (vp_in_nI (by omega) (by omega)) dX8_about_90 ?_
          refine zr_ti (y := nI (Y t)) ((congrArg wv (nI_clamp (by omega))).trans (hx4)) ?_
          subst hQ
          exact W.iret (v := nI (Y t)) hx hb hr (fun tz htz hWz => ⟨⟨nI (Y t), (), rfl, by simp only [cond_true, cond_false, Bool.and_true, Bool.and_false, Bool.true_and, Bool.false_and, e1, q1, hz]; rfl, trivial⟩, hS.F htz⟩) hS.2.2 dX8_about_91
        · skip
          rw [hsw] at hxz; clear hsw hkz
          have hz : zw 7 w = 6 := by rw [hxz]; exact zw_t (by omega)
          refine zr_ti (y := nI 6) (hxz) ?_
          refine lv_tableIn (x := nI 6) (off := 81) (tgt := 92) hx hb dX8_about_11 (by decide +kernel) (by decide +kernel) (by decide +kernel) (by decide) ?_
          refine lv_aload_n hx hb dX8_about_92 rfl (lv_at hl 0 rfl) ?_
          refine lv_iload_n hx hb dX8_about_93 rfl (lv_at hl 1 rfl) ?_
          refine zr_ci hP hS (va_runV (As := [.int (nI t)]) (rest := []) ⟨hx, hb, hml, hown, hts⟩ (c_X8_seasonBreaks l D E m0 w0 w1 w2 w3 w4 w5 w6 w7 w8 w9 ik tx he fa cl wv N G P t kd (hvg) (by omega) (by omega) (hkv)) (cwV 1 hts gX8_about_X8_seasonBreaks rfl rfl rfl (by decide +kernel) ⟨Nat.le_of_ble_eq_true rfl, Nat.le_of_ble_eq_true rfl⟩) (zr_V hK (hP.sub (ws' := [(m0, .inr (6, [.ref w0, .ref w1, .ref w2, .int ik, .ref w3, .int (nI tx), .int he, .int fa, .ref w4, .ref w5, .int (nI cl), .ref w6, .ref w7, .ref w8, .ref w9])), (w0, .inl (E 0, 137, .inl wv))]) [0, 1] rfl) (ci := 6) (q0 := 0) rfl rfl) rfl rfl hl.1 rfl (lv_room (Nat.le_of_ble_eq_true rfl)) dX8_about_94 ⟨Nat.zero_le _, Nat.zero_le _⟩) (fun r_12 H locs hw_13 hP hS => ?_)
          subst hw_13
          subst hQ
          exact W.iret (v := nI (zm_sb N P kd t)) hx hb hr (fun tz htz hWz => ⟨⟨nI (zm_sb N P kd t), (), rfl, by simp only [cond_true, cond_false, Bool.and_true, Bool.and_false, Bool.true_and, Bool.false_and, e1, q1, hz]; rfl, trivial⟩, hS.F htz⟩) hS.2.2 dX8_about_97
      · skip
        have hz : zw 7 w = 7 := zw_o (by omega) (by simpa using hsw)
        refine lv_tableOut (tgt := 98) hx hb dX8_about_11 (by simpa using hsw) (by decide) ?_
        refine lv_iconst (v := (-1)) hx hb dX8_about_98 (by rfl) ?_
        subst hQ
        exact W.iret (v := (-1)) hx hb hr (fun tz htz hWz => ⟨⟨(-1), (), rfl, by simp only [cond_true, cond_false, Bool.and_true, Bool.and_false, Bool.true_and, Bool.false_and, e1, q1, hz]; rfl, trivial⟩, hS.F htz⟩) hS.2.2 dX8_about_99
    · skip
      exact absurd cn_3 (by decide)
  · skip
    have e1 : zi N v = false := zi_f hw_2
    refine zr_ti (y := nI 0) rfl ?_
    refine lv_if_ne (tgt := 10) hx hb dX8_about_5 (by decide) (fun cn_14 => ?_) (fun cn_14 => ?_)
    · skip
      exact absurd cn_14 (by decide)
    · skip
      refine lv_iconst (v := (-1)) hx hb dX8_about_8 (by rfl) ?_
      subst hQ
      exact W.iret (v := (-1)) hx hb hr (fun tz htz hWz => ⟨⟨(-1), (), rfl, by simp only [cond_true, cond_false, Bool.and_true, Bool.and_false, Bool.true_and, Bool.false_and, e1], trivial⟩, hS.F htz⟩) hS.2.2 dX8_about_9

set_option maxHeartbeats 4000000 in
set_option maxRecDepth 100000 in
theorem c_X8_carried (l : Launch) (D : va_G) (E : Nat → ClassId) (m0 : Nat) (w0 : Nat) (w1 : Nat) (w2 : Nat) (w3 : Nat) (w4 : Nat) (w5 : Nat) (w6 : Nat) (w7 : Nat) (w8 : Nat) (w9 : Nat) (ik : Int32) (tx : Nat) (he : Int32) (fa : Int32) (cl : Nat) (wv : Nat → Int32) (N : Nat) (G : Nat → Nat → Nat) (P : Nat → Nat → Nat) (X : Nat → Nat) (Y : Nat → Nat) (B : Nat → Nat → Nat) (R : Nat → Nat) (kd : Nat) (sn : Nat) (sT : Nat → Nat) (sR : Nat → Nat) (sH : Nat → Nat) (en : Nat) (eW : Nat → Nat) (eN : Nat → Nat) (bn : Nat) (bT : Nat → Nat) (bN : Nat → Nat) (v : Int32) (w : Int32) (hva : zv_all N G P X Y B R kd sn sT sR sH en eW eN bn bT bN wv) (hzs : zs_all N kd sn sT sR sH en eW eN bn bT bN) : Met l yX8_carried wsX8_carried ({ frames := 3, cells := 0, slots := 0, locals := 70 }) (zr_P D E [.ref m0, .int v, .int w] [(m0, .inr (6, [.ref w0, .ref w1, .ref w2, .int ik, .ref w3, .int (nI tx), .int he, .int fa, .ref w4, .ref w5, .int (nI cl), .ref w6, .ref w7, .ref w8, .ref w9])), (w0, .inl (E 0, 137, .inl wv))]) (zr_Qi (fun zv => zv = cond (zi N v && zi N w && !decide (zq v = zq w)) (nI (zm_kb N G P (zq v) (zq w))) (-1))) 0 0 (fun _ => False) := by
  refine Met.ofW (cc := cX8_carried) (maxL := 3) (ret := (some .int)) (by decide) rfl ?_
  intro p e s m args below meth c s₁ Bz hml hv
  obtain ⟨rfl, hP, hK⟩ := hv
  have hx := Bz.exec
  have hb := Bz.bytes
  have hr := Bz.returns
  have hts := atoms_spec (ws := wsX8_carried) Bz.pre
  have hown : s.vm.findClass RX8 = some m.cls := findClass_of_methodNamed Bz.named
  have hlocks := Bz.notSynchronized
  have hP : va_P D vwCl [(m0, .inr (6, [.ref w0, .ref w1, .ref w2, .int ik, .ref w3, .int (nI tx), .int he, .int fa, .ref w4, .ref w5, .int (nI cl), .ref w6, .ref w7, .ref w8, .ref w9])), (w0, .inl (E 0, 137, .inl wv))] s.heap := hP
  have hS : va_S (fun _ : Nat => False) s.heap s.heap [] := va_S.rf
  have hl := lv_entry ([.ref m0, .int v, .int w]) (n := 3) (Nat.le_of_ble_eq_true rfl)
  rw [lg_entry_eq]
  generalize (lg_sl ([.ref m0, .int v, .int w]) ++ List.replicate (3 - (lg_sl ([.ref m0, .int v, .int w])).length) Slot.unset).toArray = ls at hl ⊢
  have hl : lv_has ls 3 [(0, .ref m0), (1, .int v), (2, .int w)] := hl
  refine zr_nQ (fun Q hQ => ?_)
  obtain ⟨hvg, hxy, hvb, hvr, hkv, hzc, hze, hzb, hn6, hn8, hm8⟩ := id hva
  obtain ⟨hkd, hse, hev, hbo⟩ := id hzs
  have hok := hvg.1
  have hN := hok.1
  have hvn := hvg.2.1
  have hgr := zm_gr_of hxy
  refine lv_aload_n hx hb dX8_carried_0 rfl (lv_at hl 0 rfl) ?_
  refine lv_iload_n hx hb dX8_carried_1 rfl (lv_at hl 1 rfl) ?_
  refine zr_ci hP hS (va_runV (As := [.int v]) (rest := []) ⟨hx, hb, hml, hown, hts⟩ (c_X8_isTeam l D E m0 w0 w1 w2 w3 w4 w5 w6 w7 w8 w9 ik tx he fa cl wv N v (hvn) (hN)) (cwV 1 hts gX8_carried_X8_isTeam rfl rfl rfl (by decide +kernel) ⟨Nat.le_of_ble_eq_true rfl, Nat.le_of_ble_eq_true rfl⟩) (zr_V hK (hP.sub (ws' := [(m0, .inr (6, [.ref w0, .ref w1, .ref w2, .int ik, .ref w3, .int (nI tx), .int he, .int fa, .ref w4, .ref w5, .int (nI cl), .ref w6, .ref w7, .ref w8, .ref w9])), (w0, .inl (E 0, 137, .inl wv))]) [0, 1] rfl) (ci := 6) (q0 := 0) rfl rfl) rfl rfl hl.1 rfl (lv_room (Nat.le_of_ble_eq_true rfl)) dX8_carried_2 ⟨Nat.zero_le _, Nat.zero_le _⟩) (fun r_1 H locs hw_2 hP hS => ?_)
  rcases hw_2 with ⟨rfl, hw_2⟩ | ⟨rfl, hw_2⟩
  · skip
    obtain ⟨t, ht, v_e⟩ := hw_2
    have e1 : zi N v = true := v_e ▸ zi_t ht (by omega)
    have q1 : zq v = t := v_e ▸ zq_t (by omega)
    rw [v_e] at hl
    refine zr_ti (y := nI 1) rfl ?_
    refine lv_if_eq (tgt := 30) hx hb dX8_carried_5 (by decide) (fun cn_3 => ?_) (fun cn_3 => ?_)
    · skip
      exact absurd cn_3 (by decide)
    · skip
      refine lv_aload_n hx hb dX8_carried_8 rfl (lv_at hl 0 rfl) ?_
      refine lv_iload_n hx hb dX8_carried_9 rfl (lv_at hl 2 rfl) ?_
      refine zr_ci hP hS (va_runV (As := [.int w]) (rest := []) ⟨hx, hb, hml, hown, hts⟩ (c_X8_isTeam l D E m0 w0 w1 w2 w3 w4 w5 w6 w7 w8 w9 ik tx he fa cl wv N w (hvn) (hN)) (cwV 1 hts gX8_carried_X8_isTeam rfl rfl rfl (by decide +kernel) ⟨Nat.le_of_ble_eq_true rfl, Nat.le_of_ble_eq_true rfl⟩) (zr_V hK (hP.sub (ws' := [(m0, .inr (6, [.ref w0, .ref w1, .ref w2, .int ik, .ref w3, .int (nI tx), .int he, .int fa, .ref w4, .ref w5, .int (nI cl), .ref w6, .ref w7, .ref w8, .ref w9])), (w0, .inl (E 0, 137, .inl wv))]) [0, 1] rfl) (ci := 6) (q0 := 0) rfl rfl) rfl rfl hl.1 rfl (lv_room (Nat.le_of_ble_eq_true rfl)) dX8_carried_10 ⟨Nat.zero_le _, Nat.zero_le _⟩) (fun r_4 H locs hw_5 hP hS => ?_)
      rcases hw_5 with ⟨rfl, hw_5⟩ | ⟨rfl, hw_5⟩
      · skip
        obtain ⟨u, hu, w_e⟩ := hw_5
        have e2 : zi N w = true := w_e ▸ zi_t hu (by omega)
        have q2 : zq w = u := w_e ▸ zq_t (by omega)
        rw [w_e] at hl
        refine zr_ti (y := nI 1) rfl ?_
        refine lv_if_eq (tgt := 30) hx hb dX8_carried_13 (by decide) (fun cn_6 => ?_) (fun cn_6 => ?_)
        · skip
          exact absurd cn_6 (by decide)
        · skip
          refine lv_iload_n hx hb dX8_carried_16 rfl (lv_at hl 1 rfl) ?_
          refine lv_iload_n hx hb dX8_carried_17 rfl (lv_at hl 2 rfl) ?_
          refine lv_icmp_eq (tgt := 30) hx hb dX8_carried_18 (by decide) (fun cn_7 => ?_) (fun cn_7 => ?_)
          · skip
            have cn_7 : t = u := (nI_eq (a := t) (b := u) (by omega) (by omega)).mp cn_7
            have e9 : decide (t = u) = true := decide_eq_true cn_7
            refine lv_iconst (v := (-1)) hx hb dX8_carried_30 (by rfl) ?_
            subst hQ
            exact W.iret (v := (-1)) hx hb hr (fun tz htz hWz => ⟨⟨(-1), (), rfl, by first | (simp only [cond_true, cond_false, Bool.and_true, Bool.and_false, Bool.true_and, Bool.false_and, e1, e2, q1, q2, e9, Bool.not_false]; done) | (simp only [cond_true, cond_false, Bool.and_true, Bool.and_false, Bool.true_and, Bool.false_and, e1, e2, q1, q2, e9, Bool.not_true]; done) | (simp only [cond_true, cond_false, Bool.and_true, Bool.and_false, Bool.true_and, Bool.false_and, e1]; done) | (simp only [cond_true, cond_false, Bool.and_true, Bool.and_false, Bool.true_and, Bool.false_and, e1, e2]; done), trivial⟩, hS.F htz⟩) hS.2.2 dX8_carried_31
          · skip
            have cn_7 : ¬ (t = u) := fun hz => cn_7 ((nI_eq (a := t) (b := u) (by omega) (by omega)).mpr hz)
            have e9 : decide (t = u) = false := decide_eq_false cn_7
            refine lv_aload_n hx hb dX8_carried_21 rfl (lv_at hl 0 rfl) ?_
            refine lv_iload_n hx hb dX8_carried_22 rfl (lv_at hl 1 rfl) ?_
            refine lv_iload_n hx hb dX8_carried_23 rfl (lv_at hl 2 rfl) ?_
            refine zr_ci hP hS (va_runV (As := [.int (nI t), .int (nI u)]) (rest := []) ⟨hx, hb, hml, hown, hts⟩ (c_X8_carriedBy l D E m0 w0 w1 w2 w3 w4 w5 w6 w7 w8 w9 ik tx he fa cl wv N G P t u (hvg) (by omega) (by omega)) (cwV 2 hts gX8_carried_X8_carriedBy rfl rfl rfl (by decide +kernel) ⟨Nat.le_of_ble_eq_true rfl, Nat.le_of_ble_eq_true rfl⟩) (zr_V hK (hP.sub (ws' := [(m0, .inr (6, [.ref w0, .ref w1, .ref w2, .int ik, .ref w3, .int (nI tx), .int he, .int fa, .ref w4, .ref w5, .int (nI cl), .ref w6, .ref w7, .ref w8, .ref w9])), (w0, .inl (E 0, 137, .inl wv))]) [0, 1] rfl) (ci := 6) (q0 := 0) rfl rfl) rfl rfl hl.1 rfl (lv_room (Nat.le_of_ble_eq_true rfl)) dX8_carried_24 ⟨Nat.zero_le _, Nat.zero_le _⟩) (fun r_8 H locs hw_9 hP hS => ?_)
            subst hw_9
            refine lv_goto (tgt := 31) hx hb dX8_carried_27 (by decide) ?_
            subst hQ
            exact W.iret (v := nI (zm_kb N G P t u)) hx hb hr (fun tz htz hWz => ⟨⟨nI (zm_kb N G P t u), (), rfl, by first | (simp only [cond_true, cond_false, Bool.and_true, Bool.and_false, Bool.true_and, Bool.false_and, e1, e2, q1, q2, e9, Bool.not_false]; done) | (simp only [cond_true, cond_false, Bool.and_true, Bool.and_false, Bool.true_and, Bool.false_and, e1, e2, q1, q2, e9, Bool.not_true]; done) | (simp only [cond_true, cond_false, Bool.and_true, Bool.and_false, Bool.true_and, Bool.false_and, e1]; done) | (simp only [cond_true, cond_false, Bool.and_true, Bool.and_false, Bool.true_and, Bool.false_and, e1, e2]; done), trivial⟩, hS.F htz⟩) hS.2.2 dX8_carried_31
      · skip
        have e2 : zi N w = false := zi_f hw_5
        refine zr_ti (y := nI 0) rfl ?_
        refine lv_if_eq (tgt := 30) hx hb dX8_carried_13 (by decide) (fun cn_10 => ?_) (fun cn_10 => ?_)
        · skip
          refine lv_iconst (v := (-1)) hx hb dX8_carried_30 (by rfl) ?_
          subst hQ
          exact W.iret (v := (-1)) hx hb hr (fun tz htz hWz => ⟨⟨(-1), (), rfl, by first | (simp only [cond_true, cond_false, Bool.and_true, Bool.and_false, Bool.true_and, Bool.false_and, e1, e2, q1, q2, e9, Bool.not_false]; done) | (simp only [cond_true, cond_false, Bool.and_true, Bool.and_false, Bool.true_and, Bool.false_and, e1, e2, q1, q2, e9, Bool.not_true]; done) | (simp only [cond_true, cond_false, Bool.and_true, Bool.and_false, Bool.true_and, Bool.false_and, e1]; done) | (simp only [cond_true, cond_false, Bool.and_true, Bool.and_false, Bool.true_and, Bool.false_and, e1, e2]; done), trivial⟩, hS.F htz⟩) hS.2.2 dX8_carried_31
        · skip
          exact absurd cn_10 (by decide)
  · skip
    have e1 : zi N v = false := zi_f hw_2
    refine zr_ti (y := nI 0) rfl ?_
    refine lv_if_eq (tgt := 30) hx hb dX8_carried_5 (by decide) (fun cn_11 => ?_) (fun cn_11 => ?_)
    · skip
      refine lv_iconst (v := (-1)) hx hb dX8_carried_30 (by rfl) ?_
      subst hQ
      exact W.iret (v := (-1)) hx hb hr (fun tz htz hWz => ⟨⟨(-1), (), rfl, by first | (simp only [cond_true, cond_false, Bool.and_true, Bool.and_false, Bool.true_and, Bool.false_and, e1, e2, q1, q2, e9, Bool.not_false]; done) | (simp only [cond_true, cond_false, Bool.and_true, Bool.and_false, Bool.true_and, Bool.false_and, e1, e2, q1, q2, e9, Bool.not_true]; done) | (simp only [cond_true, cond_false, Bool.and_true, Bool.and_false, Bool.true_and, Bool.false_and, e1]; done) | (simp only [cond_true, cond_false, Bool.and_true, Bool.and_false, Bool.true_and, Bool.false_and, e1, e2]; done), trivial⟩, hS.F htz⟩) hS.2.2 dX8_carried_31
    · skip
      exact absurd cn_11 (by decide)

set_option maxHeartbeats 4000000 in
set_option maxRecDepth 100000 in
theorem c_X8_loop (l : Launch) (D : va_G) (E : Nat → ClassId) (m0 : Nat) (w0 : Nat) (w1 : Nat) (w2 : Nat) (w3 : Nat) (w4 : Nat) (w5 : Nat) (w6 : Nat) (w7 : Nat) (w8 : Nat) (w9 : Nat) (ik : Int32) (tx : Nat) (he : Int32) (fa : Int32) (cl : Nat) (wv : Nat → Int32) (N : Nat) (G : Nat → Nat → Nat) (P : Nat → Nat → Nat) (X : Nat → Nat) (Y : Nat → Nat) (B : Nat → Nat → Nat) (R : Nat → Nat) (kd : Nat) (sn : Nat) (sT : Nat → Nat) (sR : Nat → Nat) (sH : Nat → Nat) (en : Nat) (eW : Nat → Nat) (eN : Nat → Nat) (bn : Nat) (bT : Nat → Nat) (bN : Nat → Nat) (v : Int32) (w : Int32) (y : Int32) (hva : zv_all N G P X Y B R kd sn sT sR sH en eW eN bn bT bN wv) (hzs : zs_all N kd sn sT sR sH en eW eN bn bT bN) : Met l yX8_loop wsX8_loop ({ frames := 2, cells := 0, slots := 0, locals := 46 }) (zr_P D E [.ref m0, .int v, .int w, .int y] [(m0, .inr (6, [.ref w0, .ref w1, .ref w2, .int ik, .ref w3, .int (nI tx), .int he, .int fa, .ref w4, .ref w5, .int (nI cl), .ref w6, .ref w7, .ref w8, .ref w9])), (w0, .inl (E 0, 137, .inl wv))]) (zr_Qi (fun zv => zv = cond (zi (N - 1) v && zi (N - 1) w && !decide (zq v = zq w) && zi N y) (nI (zm_loop N G P (zq v) (zq w) (zq y))) (-1))) 0 0 (fun _ => False) := by
  refine Met.ofW (cc := cX8_loop) (maxL := 7) (ret := (some .int)) (by decide) rfl ?_
  intro p e s m args below meth c s₁ Bz hml hv
  obtain ⟨rfl, hP, hK⟩ := hv
  have hx := Bz.exec
  have hb := Bz.bytes
  have hr := Bz.returns
  have hts := atoms_spec (ws := wsX8_loop) Bz.pre
  have hown : s.vm.findClass RX8 = some m.cls := findClass_of_methodNamed Bz.named
  have hlocks := Bz.notSynchronized
  have hP : va_P D vwCl [(m0, .inr (6, [.ref w0, .ref w1, .ref w2, .int ik, .ref w3, .int (nI tx), .int he, .int fa, .ref w4, .ref w5, .int (nI cl), .ref w6, .ref w7, .ref w8, .ref w9])), (w0, .inl (E 0, 137, .inl wv))] s.heap := hP
  have hS : va_S (fun _ : Nat => False) s.heap s.heap [] := va_S.rf
  have hl := lv_entry ([.ref m0, .int v, .int w, .int y]) (n := 7) (Nat.le_of_ble_eq_true rfl)
  rw [lg_entry_eq]
  generalize (lg_sl ([.ref m0, .int v, .int w, .int y]) ++ List.replicate (7 - (lg_sl ([.ref m0, .int v, .int w, .int y])).length) Slot.unset).toArray = ls at hl ⊢
  have hl : lv_has ls 7 [(0, .ref m0), (1, .int v), (2, .int w), (3, .int y)] := hl
  refine zr_nQ (fun Q hQ => ?_)
  obtain ⟨hvg, hxy, hvb, hvr, hkv, hzc, hze, hzb, hn6, hn8, hm8⟩ := id hva
  obtain ⟨hkd, hse, hev, hbo⟩ := id hzs
  have hok := hvg.1
  have hN := hok.1
  have hvn := hvg.2.1
  have hgr := zm_gr_of hxy
  refine lv_aload_n hx hb dX8_loop_0 rfl (lv_at hl 0 rfl) ?_
  refine lv_iload_n hx hb dX8_loop_1 rfl (lv_at hl 1 rfl) ?_
  refine zr_ci hP hS (va_runV (As := [.int v]) (rest := []) ⟨hx, hb, hml, hown, hts⟩ (c_X8_isRound l D E m0 w0 w1 w2 w3 w4 w5 w6 w7 w8 w9 ik tx he fa cl wv N v (hvn) (hN)) (cwV 1 hts gX8_loop_X8_isRound rfl rfl rfl (by decide +kernel) ⟨Nat.le_of_ble_eq_true rfl, Nat.le_of_ble_eq_true rfl⟩) (zr_V hK (hP.sub (ws' := [(m0, .inr (6, [.ref w0, .ref w1, .ref w2, .int ik, .ref w3, .int (nI tx), .int he, .int fa, .ref w4, .ref w5, .int (nI cl), .ref w6, .ref w7, .ref w8, .ref w9])), (w0, .inl (E 0, 137, .inl wv))]) [0, 1] rfl) (ci := 6) (q0 := 0) rfl rfl) rfl rfl hl.1 rfl (lv_room (Nat.le_of_ble_eq_true rfl)) dX8_loop_2 ⟨Nat.zero_le _, Nat.zero_le _⟩) (fun r_1 H locs hw_2 hP hS => ?_)
  rcases hw_2 with ⟨rfl, hw_2⟩ | ⟨rfl, hw_2⟩
  · skip
    obtain ⟨t, ht, v_e⟩ := hw_2
    have e1 : zi (N - 1) v = true := v_e ▸ zi_t ht (by omega)
    have q1 : zq v = t := v_e ▸ zq_t (by omega)
    rw [v_e] at hl
    refine zr_ti (y := nI 1) rfl ?_
    refine lv_if_eq (tgt := 29) hx hb dX8_loop_5 (by decide) (fun cn_3 => ?_) (fun cn_3 => ?_)
    · skip
      exact absurd cn_3 (by decide)
    · skip
      refine lv_aload_n hx hb dX8_loop_8 rfl (lv_at hl 0 rfl) ?_
      refine lv_iload_n hx hb dX8_loop_9 rfl (lv_at hl 2 rfl) ?_
      refine zr_ci hP hS (va_runV (As := [.int w]) (rest := []) ⟨hx, hb, hml, hown, hts⟩ (c_X8_isRound l D E m0 w0 w1 w2 w3 w4 w5 w6 w7 w8 w9 ik tx he fa cl wv N w (hvn) (hN)) (cwV 1 hts gX8_loop_X8_isRound rfl rfl rfl (by decide +kernel) ⟨Nat.le_of_ble_eq_true rfl, Nat.le_of_ble_eq_true rfl⟩) (zr_V hK (hP.sub (ws' := [(m0, .inr (6, [.ref w0, .ref w1, .ref w2, .int ik, .ref w3, .int (nI tx), .int he, .int fa, .ref w4, .ref w5, .int (nI cl), .ref w6, .ref w7, .ref w8, .ref w9])), (w0, .inl (E 0, 137, .inl wv))]) [0, 1] rfl) (ci := 6) (q0 := 0) rfl rfl) rfl rfl hl.1 rfl (lv_room (Nat.le_of_ble_eq_true rfl)) dX8_loop_10 ⟨Nat.zero_le _, Nat.zero_le _⟩) (fun r_4 H locs hw_5 hP hS => ?_)
      rcases hw_5 with ⟨rfl, hw_5⟩ | ⟨rfl, hw_5⟩
      · skip
        obtain ⟨u, hu, w_e⟩ := hw_5
        have e2 : zi (N - 1) w = true := w_e ▸ zi_t hu (by omega)
        have q2 : zq w = u := w_e ▸ zq_t (by omega)
        rw [w_e] at hl
        refine zr_ti (y := nI 1) rfl ?_
        refine lv_if_eq (tgt := 29) hx hb dX8_loop_13 (by decide) (fun cn_6 => ?_) (fun cn_6 => ?_)
        · skip
          exact absurd cn_6 (by decide)
        · skip
          refine lv_iload_n hx hb dX8_loop_16 rfl (lv_at hl 1 rfl) ?_
          refine lv_iload_n hx hb dX8_loop_17 rfl (lv_at hl 2 rfl) ?_
          refine lv_icmp_eq (tgt := 29) hx hb dX8_loop_18 (by decide) (fun cn_7 => ?_) (fun cn_7 => ?_)
          · skip
            have cn_7 : t = u := (nI_eq (a := t) (b := u) (by omega) (by omega)).mp cn_7
            have e9 : decide (t = u) = true := decide_eq_true cn_7
            refine lv_iconst (v := (-1)) hx hb dX8_loop_29 (by rfl) ?_
            subst hQ
            exact W.iret (v := (-1)) hx hb hr (fun tz htz hWz => ⟨⟨(-1), (), rfl, by first | (simp only [cond_true, cond_false, Bool.and_true, Bool.and_false, Bool.true_and, Bool.false_and, e1]; done) | (simp only [cond_true, cond_false, Bool.and_true, Bool.and_false, Bool.true_and, Bool.false_and, e1, e2]; done) | (simp only [cond_true, cond_false, Bool.and_true, Bool.and_false, Bool.true_and, Bool.false_and, e1, e2, q1, q2, e9, Bool.not_true]; done) | (simp only [cond_true, cond_false, Bool.and_true, Bool.and_false, Bool.true_and, Bool.false_and, e1, e2, q1, q2, e9, e3]; done), trivial⟩, hS.F htz⟩) hS.2.2 dX8_loop_30
          · skip
            have cn_7 : ¬ (t = u) := fun hz => cn_7 ((nI_eq (a := t) (b := u) (by omega) (by omega)).mpr hz)
            have e9 : decide (t = u) = false := decide_eq_false cn_7
            refine lv_aload_n hx hb dX8_loop_21 rfl (lv_at hl 0 rfl) ?_
            refine lv_iload_n hx hb dX8_loop_22 rfl (lv_at hl 3 rfl) ?_
            refine zr_ci hP hS (va_runV (As := [.int y]) (rest := []) ⟨hx, hb, hml, hown, hts⟩ (c_X8_isTeam l D E m0 w0 w1 w2 w3 w4 w5 w6 w7 w8 w9 ik tx he fa cl wv N y (hvn) (hN)) (cwV 1 hts gX8_loop_X8_isTeam rfl rfl rfl (by decide +kernel) ⟨Nat.le_of_ble_eq_true rfl, Nat.le_of_ble_eq_true rfl⟩) (zr_V hK (hP.sub (ws' := [(m0, .inr (6, [.ref w0, .ref w1, .ref w2, .int ik, .ref w3, .int (nI tx), .int he, .int fa, .ref w4, .ref w5, .int (nI cl), .ref w6, .ref w7, .ref w8, .ref w9])), (w0, .inl (E 0, 137, .inl wv))]) [0, 1] rfl) (ci := 6) (q0 := 0) rfl rfl) rfl rfl hl.1 rfl (lv_room (Nat.le_of_ble_eq_true rfl)) dX8_loop_23 ⟨Nat.zero_le _, Nat.zero_le _⟩) (fun r_8 H locs hw_9 hP hS => ?_)
            rcases hw_9 with ⟨rfl, hw_9⟩ | ⟨rfl, hw_9⟩
            · skip
              obtain ⟨z, hz, y_e⟩ := hw_9
              have e3 : zi N y = true := y_e ▸ zi_t hz (by omega)
              have q3 : zq y = z := y_e ▸ zq_t (by omega)
              rw [y_e] at hl
              refine zr_ti (y := nI 1) rfl ?_
              refine lv_if_ne (tgt := 31) hx hb dX8_loop_26 (by decide) (fun cn_10 => ?_) (fun cn_10 => ?_)
              · skip
                refine lv_iconst (v := nI 0) hx hb dX8_loop_31 (by rfl) ?_
                refine lv_istore (lv' := [(4, .int (nI 0)), (0, .ref m0), (1, .int (nI t)), (2, .int (nI u)), (3, .int (nI z))]) hx hb dX8_loop_32 hl (by decide) rfl (fun ls hl => ?_)
                refine lv_iload_n hx hb dX8_loop_34 rfl (lv_at hl 4 rfl) ?_
                refine lv_istore (lv' := [(5, .int (nI z)), (4, .int (nI 0)), (0, .ref m0), (1, .int (nI t)), (2, .int (nI u)), (3, .int (nI z))]) hx hb dX8_loop_35 hl (by decide) rfl (fun ls hl => ?_)
                refine lv_iconst (v := nI 1) hx hb dX8_loop_37 (by rfl) ?_
                refine lv_istore (lv' := [(6, .int (nI 1)), (5, .int (nI z)), (4, .int (nI 0)), (0, .ref m0), (1, .int (nI t)), (2, .int (nI u)), (3, .int (nI z))]) hx hb dX8_loop_38 hl (by decide) rfl (fun ls hl => ?_)
                suffices KL40 : ∀ (kz : Nat) (m9 : Nat) (on : Nat) (H : Heap) (locs : List Loc) (ls : Array Slot), (N - m9 + on) < kz → (∀ j, 1 ≤ j → j < m9 → zm_it G P t u z j ≠ z) → ((on = 1 ∧ ∀ j, 1 ≤ j → j ≤ m9 → zm_it G P t u z j ≠ z) ∨ (on = 0 ∧ 1 ≤ m9 ∧ m9 ≤ N / 2 ∧ zm_it G P t u z m9 = z)) → va_P D vwCl [(m0, .inr (6, [.ref w0, .ref w1, .ref w2, .int ik, .ref w3, .int (nI tx), .int he, .int fa, .ref w4, .ref w5, .int (nI cl), .ref w6, .ref w7, .ref w8, .ref w9])), (w0, .inl (E 0, 137, .inl wv))] H → va_S (fun _ : Nat => False) s.heap H locs → lv_has ls 7 [(0, .ref m0), (1, .int (nI t)), (2, .int (nI u)), (3, .int (nI z)), (4, .int (nI (2 * m9))), (5, .int (nI (zm_it G P t u z m9))), (6, .int (nI on))] → W p l e (headSpec wsX8_loop ({ frames := 2, cells := 0, slots := 0, locals := 46 })).room s m ([.ref m0, .int v, .int w, .int y] : List Value).toArray below meth c H locs 0 0 Q (F0 m 40 ls []) from
                  KL40 _ 0 1 _ _ ls (Nat.lt_succ_self _) (fun j h1 h2 => by omega) (Or.inl ⟨rfl, fun j h1 h2 => by omega⟩) hP hS (lv_sub hl [3, 4, 5, 6, 2, 1, 0] rfl)
                clear hP hS hl
                intro kz
                induction kz with
                | zero => intro m9 on H locs ls hkz; exact absurd hkz (Nat.not_lt_zero _)
                | succ kz ih40 =>
                  intro m9 on H locs ls hkz hI hI2 hP hS hl
                  refine lv_iload hx hb dX8_loop_40 (lv_at hl 6 rfl) ?_
                  refine lv_if_eq (tgt := 78) hx hb dX8_loop_42 (by decide) (fun cn_11 => ?_) (fun cn_11 => ?_)
                  · skip
                    have cn_11 : on = 0 := (nI_eq (a := on) (b := 0) (by omega) (by omega)).mp cn_11
                    obtain ⟨-, hm1, hm2, hm3⟩ := Or.resolve_left hI2 (fun q => by omega)
                    refine lv_iload hx hb dX8_loop_78 (lv_at hl 4 rfl) ?_
                    subst hQ
                    exact W.iret (v := nI (2 * m9)) hx hb hr (fun tz htz hWz => ⟨⟨nI (2 * m9), (), rfl, by simp only [cond_true, Bool.and_true, e1, e2, e3, e9, q1, q2, q3, Bool.not_false]; rw [zm_loop_x hm1 hm2 hm3 hI], trivial⟩, hS.F htz⟩) hS.2.2 dX8_loop_80
                  · skip
                    have cn_11 : ¬ (on = 0) := fun hz => cn_11 ((nI_eq (a := on) (b := 0) (by omega) (by omega)).mpr hz)
                    obtain ⟨hon, hI3⟩ := Or.resolve_right hI2 (fun q => by omega)
                    have hm9 := zm_loop_in hok ht hu hz hI3
                    have hl1 := zm_it_lt hok (t := z) ht hu hz m9
                    have hl2 := zm_rv_lt (t := zm_it G P t u z m9) (r := t) hok ht hl1
                    have hl3 := zm_it_lt hok (t := z) ht hu hz (m9 + 1)
                    refine lv_aload_n hx hb dX8_loop_45 rfl (lv_at hl 0 rfl) ?_
                    refine lv_aload_n hx hb dX8_loop_46 rfl (lv_at hl 0 rfl) ?_
                    refine lv_iload hx hb dX8_loop_47 (lv_at hl 5 rfl) ?_
                    refine lv_iload_n hx hb dX8_loop_49 rfl (lv_at hl 1 rfl) ?_
                    refine zr_ci hP hS (va_runV (As := [.int (nI (zm_it G P t u z m9)), .int (nI t)]) (rest := [.ref m0]) ⟨hx, hb, hml, hown, hts⟩ (c_X8_meets l D E m0 w0 w1 w2 w3 w4 w5 w6 w7 w8 w9 ik tx he fa cl wv N G P (zm_it G P t u z m9) t (hvg) (by omega) (by omega)) (cwV 2 hts gX8_loop_X8_meets rfl rfl rfl (by decide +kernel) ⟨Nat.le_of_ble_eq_true rfl, Nat.le_of_ble_eq_true rfl⟩) (zr_V hK (hP.sub (ws' := [(m0, .inr (6, [.ref w0, .ref w1, .ref w2, .int ik, .ref w3, .int (nI tx), .int he, .int fa, .ref w4, .ref w5, .int (nI cl), .ref w6, .ref w7, .ref w8, .ref w9])), (w0, .inl (E 0, 137, .inl wv))]) [0, 1] rfl) (ci := 6) (q0 := 0) rfl rfl) rfl rfl hl.1 rfl (lv_room (Nat.le_of_ble_eq_true rfl)) dX8_loop_50 ⟨Nat.zero_le _, Nat.zero_le _⟩) (fun r_12 H locs hw_13 hP hS => ?_)
                    subst hw_13
                    refine lv_iload_n hx hb dX8_loop_53 rfl (lv_at hl 2 rfl) ?_
                    refine zr_ci hP hS (va_runV (As := [.int (nI (zm_rv G P (zm_it G P t u z m9) t)), .int (nI u)]) (rest := []) ⟨hx, hb, hml, hown, hts⟩ (c_X8_meets l D E m0 w0 w1 w2 w3 w4 w5 w6 w7 w8 w9 ik tx he fa cl wv N G P (zm_rv G P (zm_it G P t u z m9) t) u (hvg) (by omega) (by omega)) (cwV 2 hts gX8_loop_X8_meets rfl rfl rfl (by decide +kernel) ⟨Nat.le_of_ble_eq_true rfl, Nat.le_of_ble_eq_true rfl⟩) (zr_V hK (hP.sub (ws' := [(m0, .inr (6, [.ref w0, .ref w1, .ref w2, .int ik, .ref w3, .int (nI tx), .int he, .int fa, .ref w4, .ref w5, .int (nI cl), .ref w6, .ref w7, .ref w8, .ref w9])), (w0, .inl (E 0, 137, .inl wv))]) [0, 1] rfl) (ci := 6) (q0 := 0) rfl rfl) rfl rfl hl.1 rfl (lv_room (Nat.le_of_ble_eq_true rfl)) dX8_loop_54 ⟨Nat.zero_le _, Nat.zero_le _⟩) (fun r_14 H locs hw_15 hP hS => ?_)
                    subst hw_15
                    refine zr_ti (y := nI (zm_it G P t u z (m9 + 1))) (rfl) ?_
                    refine lv_istore (lv' := [(5, .int (nI (zm_it G P t u z (m9 + 1)))), (0, .ref m0), (1, .int (nI t)), (2, .int (nI u)), (3, .int (nI z)), (4, .int (nI (2 * m9))), (6, .int (nI on))]) hx hb dX8_loop_57 hl (by decide) rfl (fun ls hl => ?_)
                    refine lv_iinc (v := nI (2 * (m9 + 1))) (lv' := [(4, .int (nI (2 * (m9 + 1)))), (5, .int (nI (zm_it G P t u z (m9 + 1)))), (0, .ref m0), (1, .int (nI t)), (2, .int (nI u)), (3, .int (nI z)), (6, .int (nI on))]) hx hb dX8_loop_59 hl (k := 5) rfl (nI_add _ _) (by decide) rfl (fun ls hl => ?_)
                    refine lv_iload hx hb dX8_loop_62 (lv_at hl 1 rfl) ?_
                    refine lv_iload_n hx hb dX8_loop_64 rfl (lv_at hl 5 rfl) ?_
                    refine lv_icmp_eq (tgt := 72) hx hb dX8_loop_65 (by decide) (fun cn_16 => ?_) (fun cn_16 => ?_)
                    · skip
                      have cn_16 : zm_it G P t u z (m9 + 1) = z := (nI_eq (a := zm_it G P t u z (m9 + 1)) (b := z) (by omega) (by omega)).mp cn_16
                      have hbr := cn_16
                      refine lv_iconst (v := nI 0) hx hb dX8_loop_72 (by rfl) ?_
                      refine lv_istore (lv' := [(6, .int (nI 0)), (4, .int (nI (2 * (m9 + 1)))), (5, .int (nI (zm_it G P t u z (m9 + 1)))), (0, .ref m0), (1, .int (nI t)), (2, .int (nI u)), (3, .int (nI z))]) hx hb dX8_loop_73 hl (by decide) rfl (fun ls hl => ?_)
                      refine lv_goto (tgt := 40) hx hb dX8_loop_75 (by decide) ?_
                      have hl : lv_has ls 7 [(0, .ref m0), (1, .int (nI t)), (2, .int (nI u)), (3, .int (nI z)), (4, .int (nI (2 * (m9 + 1)))), (5, .int (nI (zm_it G P t u z (m9 + 1)))), (6, .int (nI 0))] := lv_sub hl [3, 4, 5, 6, 1, 2, 0] rfl
                      exact ih40 (m9 + 1) 0 H locs ls (by omega) (fun j h1 h2 => hI3 j h1 (by omega)) (by first | exact Or.inr ⟨rfl, by omega, by omega, hbr⟩ | exact Or.inl ⟨rfl, fun j h1 h2 => by rcases Nat.lt_or_ge j (m9 + 1) with q | q; exact hI3 j h1 (by omega); rw [show j = m9 + 1 from by omega]; exact hbr⟩) hP hS hl
                    · skip
                      have cn_16 : ¬ (zm_it G P t u z (m9 + 1) = z) := fun hz => cn_16 ((nI_eq (a := zm_it G P t u z (m9 + 1)) (b := z) (by omega) (by omega)).mpr hz)
                      have hbr := cn_16
                      refine lv_iconst (v := nI 1) hx hb dX8_loop_68 (by rfl) ?_
                      refine lv_goto (tgt := 73) hx hb dX8_loop_69 (by decide) ?_
                      refine lv_istore (lv' := [(6, .int (nI 1)), (4, .int (nI (2 * (m9 + 1)))), (5, .int (nI (zm_it G P t u z (m9 + 1)))), (0, .ref m0), (1, .int (nI t)), (2, .int (nI u)), (3, .int (nI z))]) hx hb dX8_loop_73 hl (by decide) rfl (fun ls hl => ?_)
                      refine lv_goto (tgt := 40) hx hb dX8_loop_75 (by decide) ?_
                      have hl : lv_has ls 7 [(0, .ref m0), (1, .int (nI t)), (2, .int (nI u)), (3, .int (nI z)), (4, .int (nI (2 * (m9 + 1)))), (5, .int (nI (zm_it G P t u z (m9 + 1)))), (6, .int (nI 1))] := lv_sub hl [3, 4, 5, 6, 1, 2, 0] rfl
                      exact ih40 (m9 + 1) 1 H locs ls (by omega) (fun j h1 h2 => hI3 j h1 (by omega)) (by first | exact Or.inr ⟨rfl, by omega, by omega, hbr⟩ | exact Or.inl ⟨rfl, fun j h1 h2 => by rcases Nat.lt_or_ge j (m9 + 1) with q | q; exact hI3 j h1 (by omega); rw [show j = m9 + 1 from by omega]; exact hbr⟩) hP hS hl
              · skip
                exact absurd cn_10 (by decide)
            · skip
              have e3 : zi N y = false := zi_f hw_9
              refine zr_ti (y := nI 0) rfl ?_
              refine lv_if_ne (tgt := 31) hx hb dX8_loop_26 (by decide) (fun cn_17 => ?_) (fun cn_17 => ?_)
              · skip
                exact absurd cn_17 (by decide)
              · skip
                refine lv_iconst (v := (-1)) hx hb dX8_loop_29 (by rfl) ?_
                subst hQ
                exact W.iret (v := (-1)) hx hb hr (fun tz htz hWz => ⟨⟨(-1), (), rfl, by first | (simp only [cond_true, cond_false, Bool.and_true, Bool.and_false, Bool.true_and, Bool.false_and, e1]; done) | (simp only [cond_true, cond_false, Bool.and_true, Bool.and_false, Bool.true_and, Bool.false_and, e1, e2]; done) | (simp only [cond_true, cond_false, Bool.and_true, Bool.and_false, Bool.true_and, Bool.false_and, e1, e2, q1, q2, e9, Bool.not_true]; done) | (simp only [cond_true, cond_false, Bool.and_true, Bool.and_false, Bool.true_and, Bool.false_and, e1, e2, q1, q2, e9, e3]; done), trivial⟩, hS.F htz⟩) hS.2.2 dX8_loop_30
      · skip
        have e2 : zi (N - 1) w = false := zi_f hw_5
        refine zr_ti (y := nI 0) rfl ?_
        refine lv_if_eq (tgt := 29) hx hb dX8_loop_13 (by decide) (fun cn_18 => ?_) (fun cn_18 => ?_)
        · skip
          refine lv_iconst (v := (-1)) hx hb dX8_loop_29 (by rfl) ?_
          subst hQ
          exact W.iret (v := (-1)) hx hb hr (fun tz htz hWz => ⟨⟨(-1), (), rfl, by first | (simp only [cond_true, cond_false, Bool.and_true, Bool.and_false, Bool.true_and, Bool.false_and, e1]; done) | (simp only [cond_true, cond_false, Bool.and_true, Bool.and_false, Bool.true_and, Bool.false_and, e1, e2]; done) | (simp only [cond_true, cond_false, Bool.and_true, Bool.and_false, Bool.true_and, Bool.false_and, e1, e2, q1, q2, e9, Bool.not_true]; done) | (simp only [cond_true, cond_false, Bool.and_true, Bool.and_false, Bool.true_and, Bool.false_and, e1, e2, q1, q2, e9, e3]; done), trivial⟩, hS.F htz⟩) hS.2.2 dX8_loop_30
        · skip
          exact absurd cn_18 (by decide)
  · skip
    have e1 : zi (N - 1) v = false := zi_f hw_2
    refine zr_ti (y := nI 0) rfl ?_
    refine lv_if_eq (tgt := 29) hx hb dX8_loop_5 (by decide) (fun cn_19 => ?_) (fun cn_19 => ?_)
    · skip
      refine lv_iconst (v := (-1)) hx hb dX8_loop_29 (by rfl) ?_
      subst hQ
      exact W.iret (v := (-1)) hx hb hr (fun tz htz hWz => ⟨⟨(-1), (), rfl, by first | (simp only [cond_true, cond_false, Bool.and_true, Bool.and_false, Bool.true_and, Bool.false_and, e1]; done) | (simp only [cond_true, cond_false, Bool.and_true, Bool.and_false, Bool.true_and, Bool.false_and, e1, e2]; done) | (simp only [cond_true, cond_false, Bool.and_true, Bool.and_false, Bool.true_and, Bool.false_and, e1, e2, q1, q2, e9, Bool.not_true]; done) | (simp only [cond_true, cond_false, Bool.and_true, Bool.and_false, Bool.true_and, Bool.false_and, e1, e2, q1, q2, e9, e3]; done), trivial⟩, hS.F htz⟩) hS.2.2 dX8_loop_30
    · skip
      exact absurd cn_19 (by decide)

set_option maxHeartbeats 4000000 in
set_option maxRecDepth 100000 in
theorem c_X8_told (l : Launch) (D : va_G) (E : Nat → ClassId) (m0 : Nat) (w0 : Nat) (w1 : Nat) (w2 : Nat) (w3 : Nat) (w4 : Nat) (w5 : Nat) (w6 : Nat) (w7 : Nat) (w8 : Nat) (w9 : Nat) (ik : Int32) (tx : Nat) (he : Int32) (fa : Int32) (cl : Nat) (wv : Nat → Int32) (N : Nat) (G : Nat → Nat → Nat) (P : Nat → Nat → Nat) (X : Nat → Nat) (Y : Nat → Nat) (B : Nat → Nat → Nat) (R : Nat → Nat) (kd : Nat) (sn : Nat) (sT : Nat → Nat) (sR : Nat → Nat) (sH : Nat → Nat) (en : Nat) (eW : Nat → Nat) (eN : Nat → Nat) (bn : Nat) (bT : Nat → Nat) (bN : Nat → Nat) (v : Int32) (hva : zv_all N G P X Y B R kd sn sT sR sH en eW eN bn bT bN wv) (hzs : zs_all N kd sn sT sR sH en eW eN bn bT bN) : Met l yX8_told wsX8_told ({ frames := 6, cells := 0, slots := 0, locals := 136 }) (zr_P D E [.ref m0, .int v] [(m0, .inr (6, [.ref w0, .ref w1, .ref w2, .int ik, .ref w3, .int (nI tx), .int he, .int fa, .ref w4, .ref w5, .int (nI cl), .ref w6, .ref w7, .ref w8, .ref w9])), (w0, .inl (E 0, 137, .inl wv))]) (zr_Qi (fun zv => zv = zo_told N G P B X Y kd (zw 10 v))) 0 0 (fun _ => False) := by
  refine Met.ofW (cc := cX8_told) (maxL := 2) (ret := (some .int)) (by decide) rfl ?_
  intro p e s m args below meth c s₁ Bz hml hv
  obtain ⟨rfl, hP, hK⟩ := hv
  have hx := Bz.exec
  have hb := Bz.bytes
  have hr := Bz.returns
  have hts := atoms_spec (ws := wsX8_told) Bz.pre
  have hown : s.vm.findClass RX8 = some m.cls := findClass_of_methodNamed Bz.named
  have hlocks := Bz.notSynchronized
  have hP : va_P D vwCl [(m0, .inr (6, [.ref w0, .ref w1, .ref w2, .int ik, .ref w3, .int (nI tx), .int he, .int fa, .ref w4, .ref w5, .int (nI cl), .ref w6, .ref w7, .ref w8, .ref w9])), (w0, .inl (E 0, 137, .inl wv))] s.heap := hP
  have hS : va_S (fun _ : Nat => False) s.heap s.heap [] := va_S.rf
  have hl := lv_entry ([.ref m0, .int v]) (n := 2) (Nat.le_of_ble_eq_true rfl)
  rw [lg_entry_eq]
  generalize (lg_sl ([.ref m0, .int v]) ++ List.replicate (2 - (lg_sl ([.ref m0, .int v])).length) Slot.unset).toArray = ls at hl ⊢
  have hl : lv_has ls 2 [(0, .ref m0), (1, .int v)] := hl
  refine zr_nQ (fun Q hQ => ?_)
  obtain ⟨hvg, hxy, hvb, hvr, hkv, hzc, hze, hzb, hn6, hn8, hm8⟩ := id hva
  obtain ⟨hkd, hse, hev, hbo⟩ := id hzs
  have hok := hvg.1
  have hN := hok.1
  have hvn := hvg.2.1
  have hgr := zm_gr_of hxy
  refine lv_iload_n hx hb dX8_told_0 rfl (lv_at hl 1 rfl) ?_
  rcases zn_sw v 10 with hsw | hsw
  · obtain ⟨kz, hkz, hxz⟩ := hsw
    have hsw : kz = 0 ∨ kz = 1 ∨ kz = 2 ∨ kz = 3 ∨ kz = 4 ∨ kz = 5 ∨ kz = 6 ∨ kz = 7 ∨ kz = 8 ∨ kz = 9 := by omega
    rcases hsw with hsw | hsw | hsw | hsw | hsw | hsw | hsw | hsw | hsw | hsw
    · skip
      rw [hsw] at hxz; clear hsw hkz
      have hz : zw 10 v = 0 := by rw [hxz]; exact zw_t (by omega)
      refine zr_ti (y := nI 0) (hxz) ?_
      refine lv_tableIn (x := nI 0) (off := 55) (tgt := 56) hx hb dX8_told_1 (by decide +kernel) (by decide +kernel) (by decide +kernel) (by decide) ?_
      refine lv_aload_n hx hb dX8_told_56 rfl (lv_at hl 0 rfl) ?_
      refine va_get (D := D) (ci := 6) (v := .ref w0) (C := RX8) (T := TX8) (N := 15) hx hb hts (by decide +kernel) hown hK.1 hP 0 rfl rfl 0 (by decide) (hts (.fieldLink RX8 11 "HomeRoundsModel" "w" "[I") (by decide +kernel)) (fun _ h9 => h9) rfl dX8_told_57 ?_
      refine lv_iconst (v := nI 0) hx hb dX8_told_60 (by rfl) ?_
      refine va_iald hx hb hK.1 hP 1 0 rfl rfl (vp_in_nI (by omega) (by omega)) dX8_told_61 ?_
      refine zr_ti (y := nI N) ((congrArg wv (nI_clamp (by omega))).trans (hvn)) ?_
      subst hQ
      exact W.iret (v := nI N) hx hb hr (fun tz htz hWz => ⟨⟨nI N, (), rfl, by simp only [cond_true, cond_false, Bool.and_true, Bool.and_false, Bool.true_and, Bool.false_and, hz]; rfl, trivial⟩, hS.F htz⟩) hS.2.2 dX8_told_62
    · skip
      rw [hsw] at hxz; clear hsw hkz
      have hz : zw 10 v = 1 := by rw [hxz]; exact zw_t (by omega)
      refine zr_ti (y := nI 1) (hxz) ?_
      refine lv_tableIn (x := nI 1) (off := 62) (tgt := 63) hx hb dX8_told_1 (by decide +kernel) (by decide +kernel) (by decide +kernel) (by decide) ?_
      refine lv_aload_n hx hb dX8_told_63 rfl (lv_at hl 0 rfl) ?_
      refine zr_ci hP hS (va_runV (As := []) (rest := []) ⟨hx, hb, hml, hown, hts⟩ (c_X8_allBreaks l D E m0 w0 w1 w2 w3 w4 w5 w6 w7 w8 w9 ik tx he fa cl wv N G P (hvg)) (cwV 0 hts gX8_told_X8_allBreaks rfl rfl rfl (by decide +kernel) ⟨Nat.le_of_ble_eq_true rfl, Nat.le_of_ble_eq_true rfl⟩) (zr_V hK (hP.sub (ws' := [(m0, .inr (6, [.ref w0, .ref w1, .ref w2, .int ik, .ref w3, .int (nI tx), .int he, .int fa, .ref w4, .ref w5, .int (nI cl), .ref w6, .ref w7, .ref w8, .ref w9])), (w0, .inl (E 0, 137, .inl wv))]) [0, 1] rfl) (ci := 6) (q0 := 0) rfl rfl) rfl rfl hl.1 rfl (lv_room (Nat.le_of_ble_eq_true rfl)) dX8_told_64 ⟨Nat.zero_le _, Nat.zero_le _⟩) (fun r_1 H locs hw_2 hP hS => ?_)
      subst hw_2
      subst hQ
      exact W.iret (v := nI (zm_brs N P)) hx hb hr (fun tz htz hWz => ⟨⟨nI (zm_brs N P), (), rfl, by simp only [cond_true, cond_false, Bool.and_true, Bool.and_false, Bool.true_and, Bool.false_and, hz]; rfl, trivial⟩, hS.F htz⟩) hS.2.2 dX8_told_67
    · skip
      rw [hsw] at hxz; clear hsw hkz
      have hz : zw 10 v = 2 := by rw [hxz]; exact zw_t (by omega)
      refine zr_ti (y := nI 2) (hxz) ?_
      refine lv_tableIn (x := nI 2) (off := 67) (tgt := 68) hx hb dX8_told_1 (by decide +kernel) (by decide +kernel) (by decide +kernel) (by decide) ?_
      refine lv_aload_n hx hb dX8_told_68 rfl (lv_at hl 0 rfl) ?_
      refine zr_ci hP hS (va_runV (As := []) (rest := []) ⟨hx, hb, hml, hown, hts⟩ (c_X8_violated l D E m0 w0 w1 w2 w3 w4 w5 w6 w7 w8 w9 ik tx he fa cl wv N G P B (hvg) (hvb)) (cwV 0 hts gX8_told_X8_violated rfl rfl rfl (by decide +kernel) ⟨Nat.le_of_ble_eq_true rfl, Nat.le_of_ble_eq_true rfl⟩) (zr_V hK (hP.sub (ws' := [(m0, .inr (6, [.ref w0, .ref w1, .ref w2, .int ik, .ref w3, .int (nI tx), .int he, .int fa, .ref w4, .ref w5, .int (nI cl), .ref w6, .ref w7, .ref w8, .ref w9])), (w0, .inl (E 0, 137, .inl wv))]) [0, 1] rfl) (ci := 6) (q0 := 0) rfl rfl) rfl rfl hl.1 rfl (lv_room (Nat.le_of_ble_eq_true rfl)) dX8_told_69 ⟨Nat.zero_le _, Nat.zero_le _⟩) (fun r_3 H locs hw_4 hP hS => ?_)
      subst hw_4
      refine zr_ti (y := nI (zm_vio N G B)) (congrArg nI (zm_vio_eq5 hok (fun t r h1 h2 => (hvb.1 t r h1 (by omega)).1))) ?_
      subst hQ
      exact W.iret (v := nI (zm_vio N G B)) hx hb hr (fun tz htz hWz => ⟨⟨nI (zm_vio N G B), (), rfl, by simp only [cond_true, cond_false, Bool.and_true, Bool.and_false, Bool.true_and, Bool.false_and, hz]; rfl, trivial⟩, hS.F htz⟩) hS.2.2 dX8_told_72
    · skip
      rw [hsw] at hxz; clear hsw hkz
      have hz : zw 10 v = 3 := by rw [hxz]; exact zw_t (by omega)
      refine zr_ti (y := nI 3) (hxz) ?_
      refine lv_tableIn (x := nI 3) (off := 72) (tgt := 73) hx hb dX8_told_1 (by decide +kernel) (by decide +kernel) (by decide +kernel) (by decide) ?_
      refine lv_aload_n hx hb dX8_told_73 rfl (lv_at hl 0 rfl) ?_
      refine zr_ci hP hS (va_runV (As := []) (rest := []) ⟨hx, hb, hml, hown, hts⟩ (c_X8_carry l D E m0 w0 w1 w2 w3 w4 w5 w6 w7 w8 w9 ik tx he fa cl wv N G P (hvg)) (cwV 0 hts gX8_told_X8_carry rfl rfl rfl (by decide +kernel) ⟨Nat.le_of_ble_eq_true rfl, Nat.le_of_ble_eq_true rfl⟩) (zr_V hK (hP.sub (ws' := [(m0, .inr (6, [.ref w0, .ref w1, .ref w2, .int ik, .ref w3, .int (nI tx), .int he, .int fa, .ref w4, .ref w5, .int (nI cl), .ref w6, .ref w7, .ref w8, .ref w9])), (w0, .inl (E 0, 137, .inl wv))]) [0, 1] rfl) (ci := 6) (q0 := 0) rfl rfl) rfl rfl hl.1 rfl (lv_room (Nat.le_of_ble_eq_true rfl)) dX8_told_74 ⟨Nat.zero_le _, Nat.zero_le _⟩) (fun r_5 H locs hw_6 hP hS => ?_)
      subst hw_6
      subst hQ
      exact W.iret (v := nI (zm_car N G P)) hx hb hr (fun tz htz hWz => ⟨⟨nI (zm_car N G P), (), rfl, by simp only [cond_true, cond_false, Bool.and_true, Bool.and_false, Bool.true_and, Bool.false_and, hz]; rfl, trivial⟩, hS.F htz⟩) hS.2.2 dX8_told_77
    · skip
      rw [hsw] at hxz; clear hsw hkz
      have hz : zw 10 v = 4 := by rw [hxz]; exact zw_t (by omega)
      refine zr_ti (y := nI 4) (hxz) ?_
      refine lv_tableIn (x := nI 4) (off := 77) (tgt := 78) hx hb dX8_told_1 (by decide +kernel) (by decide +kernel) (by decide +kernel) (by decide) ?_
      refine lv_aload_n hx hb dX8_told_78 rfl (lv_at hl 0 rfl) ?_
      refine zr_ci hP hS (va_runV (As := []) (rest := []) ⟨hx, hb, hml, hown, hts⟩ (c_X8_allMiles l D E m0 w0 w1 w2 w3 w4 w5 w6 w7 w8 w9 ik tx he fa cl wv N G P X Y (hvg) (hxy)) (cwV 0 hts gX8_told_X8_allMiles rfl rfl rfl (by decide +kernel) ⟨Nat.le_of_ble_eq_true rfl, Nat.le_of_ble_eq_true rfl⟩) (zr_V hK (hP.sub (ws' := [(m0, .inr (6, [.ref w0, .ref w1, .ref w2, .int ik, .ref w3, .int (nI tx), .int he, .int fa, .ref w4, .ref w5, .int (nI cl), .ref w6, .ref w7, .ref w8, .ref w9])), (w0, .inl (E 0, 137, .inl wv))]) [0, 1] rfl) (ci := 6) (q0 := 0) rfl rfl) rfl rfl hl.1 rfl (lv_room (Nat.le_of_ble_eq_true rfl)) dX8_told_79 ⟨Nat.zero_le _, Nat.zero_le _⟩) (fun r_7 H locs hw_8 hP hS => ?_)
      subst hw_8
      subst hQ
      exact W.iret (v := nI (zm_amiles N G P X Y)) hx hb hr (fun tz htz hWz => ⟨⟨nI (zm_amiles N G P X Y), (), rfl, by simp only [cond_true, cond_false, Bool.and_true, Bool.and_false, Bool.true_and, Bool.false_and, hz]; rfl, trivial⟩, hS.F htz⟩) hS.2.2 dX8_told_82
    · skip
      rw [hsw] at hxz; clear hsw hkz
      have hz : zw 10 v = 5 := by rw [hxz]; exact zw_t (by omega)
      refine zr_ti (y := nI 5) (hxz) ?_
      refine lv_tableIn (x := nI 5) (off := 82) (tgt := 83) hx hb dX8_told_1 (by decide +kernel) (by decide +kernel) (by decide +kernel) (by decide) ?_
      refine lv_aload_n hx hb dX8_told_83 rfl (lv_at hl 0 rfl) ?_
      refine zr_ci hP hS (va_runV (As := []) (rest := []) ⟨hx, hb, hml, hown, hts⟩ (c_X8_mostWorn l D E m0 w0 w1 w2 w3 w4 w5 w6 w7 w8 w9 ik tx he fa cl wv N G P X Y (hvg) (hxy)) (cwV 0 hts gX8_told_X8_mostWorn rfl rfl rfl (by decide +kernel) ⟨Nat.le_of_ble_eq_true rfl, Nat.le_of_ble_eq_true rfl⟩) (zr_V hK (hP.sub (ws' := [(m0, .inr (6, [.ref w0, .ref w1, .ref w2, .int ik, .ref w3, .int (nI tx), .int he, .int fa, .ref w4, .ref w5, .int (nI cl), .ref w6, .ref w7, .ref w8, .ref w9])), (w0, .inl (E 0, 137, .inl wv))]) [0, 1] rfl) (ci := 6) (q0 := 0) rfl rfl) rfl rfl hl.1 rfl (lv_room (Nat.le_of_ble_eq_true rfl)) dX8_told_84 ⟨Nat.zero_le _, Nat.zero_le _⟩) (fun r_9 H locs hw_10 hP hS => ?_)
      subst hw_10
      subst hQ
      exact W.iret (v := nI (zf_most (fun t => zf_wear (zm_way G P X Y t) (N - 1)) (N - 1))) hx hb hr (fun tz htz hWz => ⟨⟨nI (zf_most (fun t => zf_wear (zm_way G P X Y t) (N - 1)) (N - 1)), (), rfl, by simp only [cond_true, cond_false, Bool.and_true, Bool.and_false, Bool.true_and, Bool.false_and, hz]; rfl, trivial⟩, hS.F htz⟩) hS.2.2 dX8_told_87
    · skip
      rw [hsw] at hxz; clear hsw hkz
      have hz : zw 10 v = 6 := by rw [hxz]; exact zw_t (by omega)
      refine zr_ti (y := nI 6) (hxz) ?_
      refine lv_tableIn (x := nI 6) (off := 87) (tgt := 88) hx hb dX8_told_1 (by decide +kernel) (by decide +kernel) (by decide +kernel) (by decide) ?_
      refine lv_aload_n hx hb dX8_told_88 rfl (lv_at hl 0 rfl) ?_
      refine zr_ci hP hS (va_runV (As := []) (rest := []) ⟨hx, hb, hml, hown, hts⟩ (c_X8_bars l D E m0 w0 w1 w2 w3 w4 w5 w6 w7 w8 w9 ik tx he fa cl wv B (hvb)) (cwV 0 hts gX8_told_X8_bars rfl rfl rfl (by decide +kernel) ⟨Nat.le_of_ble_eq_true rfl, Nat.le_of_ble_eq_true rfl⟩) (zr_V hK (hP.sub (ws' := [(m0, .inr (6, [.ref w0, .ref w1, .ref w2, .int ik, .ref w3, .int (nI tx), .int he, .int fa, .ref w4, .ref w5, .int (nI cl), .ref w6, .ref w7, .ref w8, .ref w9])), (w0, .inl (E 0, 137, .inl wv))]) [0, 1] rfl) (ci := 6) (q0 := 0) rfl rfl) rfl rfl hl.1 rfl (lv_room (Nat.le_of_ble_eq_true rfl)) dX8_told_89 ⟨Nat.zero_le _, Nat.zero_le _⟩) (fun r_11 H locs hw_12 hP hS => ?_)
      subst hw_12
      subst hQ
      exact W.iret (v := nI (zm_allb B)) hx hb hr (fun tz htz hWz => ⟨⟨nI (zm_allb B), (), rfl, by simp only [cond_true, cond_false, Bool.and_true, Bool.and_false, Bool.true_and, Bool.false_and, hz]; rfl, trivial⟩, hS.F htz⟩) hS.2.2 dX8_told_92
    · skip
      rw [hsw] at hxz; clear hsw hkz
      have hz : zw 10 v = 7 := by rw [hxz]; exact zw_t (by omega)
      refine zr_ti (y := nI 7) (hxz) ?_
      refine lv_tableIn (x := nI 7) (off := 92) (tgt := 93) hx hb dX8_told_1 (by decide +kernel) (by decide +kernel) (by decide +kernel) (by decide) ?_
      refine lv_aload_n hx hb dX8_told_93 rfl (lv_at hl 0 rfl) ?_
      refine va_get (D := D) (ci := 6) (v := .ref w0) (C := RX8) (T := TX8) (N := 15) hx hb hts (by decide +kernel) hown hK.1 hP 0 rfl rfl 0 (by decide) (hts (.fieldLink RX8 11 "HomeRoundsModel" "w" "[I") (by decide +kernel)) (fun _ h9 => h9) rfl dX8_told_94 ?_
      refine lv_iconst (v := nI 1) hx hb dX8_told_97 (by rfl) ?_
      refine va_iald hx hb hK.1 hP 1 0 rfl rfl (vp_in_nI (by omega) (by omega)) dX8_told_98 ?_
      refine zr_ti (y := nI kd) ((congrArg wv (nI_clamp (by omega))).trans (hkv)) ?_
      subst hQ
      exact W.iret (v := nI kd) hx hb hr (fun tz htz hWz => ⟨⟨nI kd, (), rfl, by simp only [cond_true, cond_false, Bool.and_true, Bool.and_false, Bool.true_and, Bool.false_and, hz]; rfl, trivial⟩, hS.F htz⟩) hS.2.2 dX8_told_99
    · skip
      rw [hsw] at hxz; clear hsw hkz
      have hz : zw 10 v = 8 := by rw [hxz]; exact zw_t (by omega)
      refine zr_ti (y := nI 8) (hxz) ?_
      refine lv_tableIn (x := nI 8) (off := 99) (tgt := 100) hx hb dX8_told_1 (by decide +kernel) (by decide +kernel) (by decide +kernel) (by decide) ?_
      refine lv_aload_n hx hb dX8_told_100 rfl (lv_at hl 0 rfl) ?_
      refine zr_ci hP hS (va_runV (As := []) (rest := []) ⟨hx, hb, hml, hown, hts⟩ (c_X8_allSeasonBreaks l D E m0 w0 w1 w2 w3 w4 w5 w6 w7 w8 w9 ik tx he fa cl wv N G P kd (hvg) (by omega) (hkv)) (cwV 0 hts gX8_told_X8_allSeasonBreaks rfl rfl rfl (by decide +kernel) ⟨Nat.le_of_ble_eq_true rfl, Nat.le_of_ble_eq_true rfl⟩) (zr_V hK (hP.sub (ws' := [(m0, .inr (6, [.ref w0, .ref w1, .ref w2, .int ik, .ref w3, .int (nI tx), .int he, .int fa, .ref w4, .ref w5, .int (nI cl), .ref w6, .ref w7, .ref w8, .ref w9])), (w0, .inl (E 0, 137, .inl wv))]) [0, 1] rfl) (ci := 6) (q0 := 0) rfl rfl) rfl rfl hl.1 rfl (lv_room (Nat.le_of_ble_eq_true rfl)) dX8_told_101 ⟨Nat.zero_le _, Nat.zero_le _⟩) (fun r_13 H locs hw_14 hP hS => ?_)
      subst hw_14
      subst hQ
      exact W.iret (v := nI (zm_sbs N P kd)) hx hb hr (fun tz htz hWz => ⟨⟨nI (zm_sbs N P kd), (), rfl, by simp only [cond_true, cond_false, Bool.and_true, Bool.and_false, Bool.true_and, Bool.false_and, hz]; rfl, trivial⟩, hS.F htz⟩) hS.2.2 dX8_told_104
    · skip
      rw [hsw] at hxz; clear hsw hkz
      have hz : zw 10 v = 9 := by rw [hxz]; exact zw_t (by omega)
      refine zr_ti (y := nI 9) (hxz) ?_
      refine lv_tableIn (x := nI 9) (off := 104) (tgt := 105) hx hb dX8_told_1 (by decide +kernel) (by decide +kernel) (by decide +kernel) (by decide) ?_
      refine lv_aload_n hx hb dX8_told_105 rfl (lv_at hl 0 rfl) ?_
      refine zr_ci hP hS (va_runV (As := []) (rest := []) ⟨hx, hb, hml, hown, hts⟩ (c_X8_allBreaks l D E m0 w0 w1 w2 w3 w4 w5 w6 w7 w8 w9 ik tx he fa cl wv N G P (hvg)) (cwV 0 hts gX8_told_X8_allBreaks rfl rfl rfl (by decide +kernel) ⟨Nat.le_of_ble_eq_true rfl, Nat.le_of_ble_eq_true rfl⟩) (zr_V hK (hP.sub (ws' := [(m0, .inr (6, [.ref w0, .ref w1, .ref w2, .int ik, .ref w3, .int (nI tx), .int he, .int fa, .ref w4, .ref w5, .int (nI cl), .ref w6, .ref w7, .ref w8, .ref w9])), (w0, .inl (E 0, 137, .inl wv))]) [0, 1] rfl) (ci := 6) (q0 := 0) rfl rfl) rfl rfl hl.1 rfl (lv_room (Nat.le_of_ble_eq_true rfl)) dX8_told_106 ⟨Nat.zero_le _, Nat.zero_le _⟩) (fun r_15 H locs hw_16 hP hS => ?_)
      subst hw_16
      refine lv_aload_n hx hb dX8_told_109 rfl (lv_at hl 0 rfl) ?_
      refine va_get (D := D) (ci := 6) (v := .ref w0) (C := RX8) (T := TX8) (N := 15) hx hb hts (by decide +kernel) hown hK.1 hP 0 rfl rfl 0 (by decide) (hts (.fieldLink RX8 11 "HomeRoundsModel" "w" "[I") (by decide +kernel)) (fun _ h9 => h9) rfl dX8_told_110 ?_
      refine lv_iconst (v := nI 0) hx hb dX8_told_113 (by rfl) ?_
      refine va_iald hx hb hK.1 hP 1 0 rfl rfl (vp_in_nI (by omega) (by omega)) dX8_told_114 ?_
      refine zr_ti (y := nI N) ((congrArg wv (nI_clamp (by omega))).trans (hvn)) ?_
      refine lv_iconst (v := nI 2) hx hb dX8_told_115 (by rfl) ?_
      refine lv_isub hx hb dX8_told_116 ?_
      refine zr_ti (y := nI (N - 2)) (pk_sub (by omega)) ?_
      refine lv_isub hx hb dX8_told_117 ?_
      subst hQ
      exact W.iret (v := nI (zm_brs N P) - nI (N - 2)) hx hb hr (fun tz htz hWz => ⟨⟨nI (zm_brs N P) - nI (N - 2), (), rfl, by simp only [cond_true, cond_false, Bool.and_true, Bool.and_false, Bool.true_and, Bool.false_and, hz]; rfl, trivial⟩, hS.F htz⟩) hS.2.2 dX8_told_118
  · skip
    have hz : zw 10 v = 10 := zw_o (by omega) (by simpa using hsw)
    refine lv_tableOut (tgt := 119) hx hb dX8_told_1 (by simpa using hsw) (by decide) ?_
    refine lv_iconst (v := (-1)) hx hb dX8_told_119 (by rfl) ?_
    subst hQ
    exact W.iret (v := (-1)) hx hb hr (fun tz htz hWz => ⟨⟨(-1), (), rfl, by simp only [cond_true, cond_false, Bool.and_true, Bool.and_false, Bool.true_and, Bool.false_and, hz]; rfl, trivial⟩, hS.F htz⟩) hS.2.2 dX8_told_120

set_option maxHeartbeats 4000000 in
set_option maxRecDepth 100000 in
theorem c_X8_rateOf (l : Launch) (D : va_G) (E : Nat → ClassId) (m0 : Nat) (w0 : Nat) (w1 : Nat) (w2 : Nat) (w3 : Nat) (w4 : Nat) (w5 : Nat) (w6 : Nat) (w7 : Nat) (w8 : Nat) (w9 : Nat) (ik : Int32) (tx : Nat) (he : Int32) (fa : Int32) (cl : Nat) (wv : Nat → Int32) (N : Nat) (G : Nat → Nat → Nat) (P : Nat → Nat → Nat) (X : Nat → Nat) (Y : Nat → Nat) (B : Nat → Nat → Nat) (R : Nat → Nat) (kd : Nat) (sn : Nat) (sT : Nat → Nat) (sR : Nat → Nat) (sH : Nat → Nat) (en : Nat) (eW : Nat → Nat) (eN : Nat → Nat) (bn : Nat) (bT : Nat → Nat) (bN : Nat → Nat) (v : Int32) (hva : zv_all N G P X Y B R kd sn sT sR sH en eW eN bn bT bN wv) (hzs : zs_all N kd sn sT sR sH en eW eN bn bT bN) : Met l yX8_rateOf wsX8_rateOf ({ frames := 1, cells := 0, slots := 0, locals := 22 }) (zr_P D E [.ref m0, .int v] [(m0, .inr (6, [.ref w0, .ref w1, .ref w2, .int ik, .ref w3, .int (nI tx), .int he, .int fa, .ref w4, .ref w5, .int (nI cl), .ref w6, .ref w7, .ref w8, .ref w9])), (w0, .inl (E 0, 137, .inl wv))]) (zr_Qi (fun zv => zv = cond (zi 4 v) (nI (R (zq v))) (-1))) 0 0 (fun _ => False) := by
  refine Met.ofW (cc := cX8_rateOf) (maxL := 2) (ret := (some .int)) (by decide) rfl ?_
  intro p e s m args below meth c s₁ Bz hml hv
  obtain ⟨rfl, hP, hK⟩ := hv
  have hx := Bz.exec
  have hb := Bz.bytes
  have hr := Bz.returns
  have hts := atoms_spec (ws := wsX8_rateOf) Bz.pre
  have hown : s.vm.findClass RX8 = some m.cls := findClass_of_methodNamed Bz.named
  have hlocks := Bz.notSynchronized
  have hP : va_P D vwCl [(m0, .inr (6, [.ref w0, .ref w1, .ref w2, .int ik, .ref w3, .int (nI tx), .int he, .int fa, .ref w4, .ref w5, .int (nI cl), .ref w6, .ref w7, .ref w8, .ref w9])), (w0, .inl (E 0, 137, .inl wv))] s.heap := hP
  have hS : va_S (fun _ : Nat => False) s.heap s.heap [] := va_S.rf
  have hl := lv_entry ([.ref m0, .int v]) (n := 2) (Nat.le_of_ble_eq_true rfl)
  rw [lg_entry_eq]
  generalize (lg_sl ([.ref m0, .int v]) ++ List.replicate (2 - (lg_sl ([.ref m0, .int v])).length) Slot.unset).toArray = ls at hl ⊢
  have hl : lv_has ls 2 [(0, .ref m0), (1, .int v)] := hl
  refine zr_nQ (fun Q hQ => ?_)
  obtain ⟨hvg, hxy, hvb, hvr, hkv, hzc, hze, hzb, hn6, hn8, hm8⟩ := id hva
  obtain ⟨hkd, hse, hev, hbo⟩ := id hzs
  have hok := hvg.1
  have hN := hok.1
  have hvn := hvg.2.1
  have hgr := zm_gr_of hxy
  refine lv_iload_n hx hb dX8_rateOf_0 rfl (lv_at hl 1 rfl) ?_
  refine lv_iconst (v := nI 0) hx hb dX8_rateOf_1 (by rfl) ?_
  refine lv_iconst (v := nI 3) hx hb dX8_rateOf_2 (by rfl) ?_
  refine zr_ci hP hS (va_runS (As := [.int v, .int (nI 0), .int (nI 3)]) (rest := []) ⟨hx, hb, hml, hown, hts⟩ (c_X8_isIn l D E v (nI 0) (nI 3) ) (va_cwS 3 hts gX8_rateOf_X8_isIn rfl rfl rfl (by decide +kernel) ⟨Nat.le_of_ble_eq_true rfl, Nat.le_of_ble_eq_true rfl⟩) (zr_S hK (hP.sub (ws' := []) [] rfl)) rfl rfl hl.1 rfl (lv_room (Nat.le_of_ble_eq_true rfl)) dX8_rateOf_3 ⟨Nat.zero_le _, Nat.zero_le _⟩) (fun r_1 H locs hw_2 hP hS => ?_)
  rcases hw_2 with ⟨rfl, hw_2⟩ | ⟨rfl, hw_2⟩
  · skip
    obtain ⟨t, ht, v_e⟩ := zn_in3 (n := 4) (by omega) (by omega) hw_2.1 hw_2.2
    have e1 : zi 4 v = true := v_e ▸ zi_t ht (by omega)
    have q1 : zq v = t := v_e ▸ zq_t (by omega)
    rw [v_e] at hl
    refine zr_ti (y := nI 1) rfl ?_
    refine lv_if_eq (tgt := 20) hx hb dX8_rateOf_6 (by decide) (fun cn_3 => ?_) (fun cn_3 => ?_)
    · skip
      exact absurd cn_3 (by decide)
    · skip
      obtain ⟨hR1, hR2⟩ := hvr t (by omega)
      refine lv_aload_n hx hb dX8_rateOf_9 rfl (lv_at hl 0 rfl) ?_
      refine va_get (D := D) (ci := 6) (v := .ref w0) (C := RX8) (T := TX8) (N := 15) hx hb hts (by decide +kernel) hown hK.1 hP 0 rfl rfl 0 (by decide) (hts (.fieldLink RX8 11 "HomeRoundsModel" "w" "[I") (by decide +kernel)) (fun _ h9 => h9) rfl dX8_rateOf_10 ?_
      refine lv_iconst (v := nI 5) hx hb dX8_rateOf_13 (by rfl) ?_
      refine lv_iload_n hx hb dX8_rateOf_14 rfl (lv_at hl 1 rfl) ?_
      refine lv_iadd hx hb dX8_rateOf_15 ?_
      refine zr_ti (y := nI (5 + t)) (nI_add _ _) ?_
      refine va_iald hx hb hK.1 hP 1 0 rfl rfl (vp_in_nI (by omega) (by omega)) dX8_rateOf_16 ?_
      refine zr_ti (y := nI (R t)) ((congrArg wv (nI_clamp (by omega))).trans (hR2)) ?_
      refine lv_goto (tgt := 21) hx hb dX8_rateOf_17 (by decide) ?_
      subst hQ
      exact W.iret (v := nI (R t)) hx hb hr (fun tz htz hWz => ⟨⟨nI (R t), (), rfl, by first | (simp only [cond_true, cond_false, Bool.and_true, Bool.and_false, Bool.true_and, Bool.false_and, e1]; done) | (simp only [cond_true, cond_false, Bool.and_true, Bool.and_false, Bool.true_and, Bool.false_and, e1, q1]; done), trivial⟩, hS.F htz⟩) hS.2.2 dX8_rateOf_21
  · skip
    have e1 : zi 4 v = false := zi_f (zn_out3 (n := 4) (by omega) hw_2)
    refine zr_ti (y := nI 0) rfl ?_
    refine lv_if_eq (tgt := 20) hx hb dX8_rateOf_6 (by decide) (fun cn_4 => ?_) (fun cn_4 => ?_)
    · skip
      refine lv_iconst (v := (-1)) hx hb dX8_rateOf_20 (by rfl) ?_
      subst hQ
      exact W.iret (v := (-1)) hx hb hr (fun tz htz hWz => ⟨⟨(-1), (), rfl, by first | (simp only [cond_true, cond_false, Bool.and_true, Bool.and_false, Bool.true_and, Bool.false_and, e1]; done) | (simp only [cond_true, cond_false, Bool.and_true, Bool.and_false, Bool.true_and, Bool.false_and, e1, q1]; done), trivial⟩, hS.F htz⟩) hS.2.2 dX8_rateOf_21
    · skip
      exact absurd cn_4 (by decide)

set_option maxHeartbeats 4000000 in
set_option maxRecDepth 100000 in
theorem c_X8_wear (l : Launch) (D : va_G) (E : Nat → ClassId) (m0 : Nat) (w0 : Nat) (w1 : Nat) (w2 : Nat) (w3 : Nat) (w4 : Nat) (w5 : Nat) (w6 : Nat) (w7 : Nat) (w8 : Nat) (w9 : Nat) (ik : Int32) (tx : Nat) (he : Int32) (fa : Int32) (cl : Nat) (wv : Nat → Int32) (N : Nat) (G : Nat → Nat → Nat) (P : Nat → Nat → Nat) (X : Nat → Nat) (Y : Nat → Nat) (B : Nat → Nat → Nat) (R : Nat → Nat) (kd : Nat) (sn : Nat) (sT : Nat → Nat) (sR : Nat → Nat) (sH : Nat → Nat) (en : Nat) (eW : Nat → Nat) (eN : Nat → Nat) (bn : Nat) (bT : Nat → Nat) (bN : Nat → Nat) (v : Int32) (w : Int32) (hva : zv_all N G P X Y B R kd sn sT sR sH en eW eN bn bT bN wv) (hzs : zs_all N kd sn sT sR sH en eW eN bn bT bN) : Met l yX8_wear wsX8_wear ({ frames := 5, cells := 0, slots := 0, locals := 114 }) (zr_P D E [.ref m0, .int v, .int w] [(m0, .inr (6, [.ref w0, .ref w1, .ref w2, .int ik, .ref w3, .int (nI tx), .int he, .int fa, .ref w4, .ref w5, .int (nI cl), .ref w6, .ref w7, .ref w8, .ref w9])), (w0, .inl (E 0, 137, .inl wv))]) (zr_Ql (fun zv => zv = cond (zi N v && zi (N - 1) w) (lN (zf_wear (zm_way G P X Y (zq v)) (zq w + 1)).toNat) (-9223372036854775808))) 0 0 (fun _ => False) := by
  refine Met.ofW (cc := cX8_wear) (maxL := 3) (ret := (some .long)) (by decide) rfl ?_
  intro p e s m args below meth c s₁ Bz hml hv
  obtain ⟨rfl, hP, hK⟩ := hv
  have hx := Bz.exec
  have hb := Bz.bytes
  have hr := Bz.returns
  have hts := atoms_spec (ws := wsX8_wear) Bz.pre
  have hown : s.vm.findClass RX8 = some m.cls := findClass_of_methodNamed Bz.named
  have hlocks := Bz.notSynchronized
  have hP : va_P D vwCl [(m0, .inr (6, [.ref w0, .ref w1, .ref w2, .int ik, .ref w3, .int (nI tx), .int he, .int fa, .ref w4, .ref w5, .int (nI cl), .ref w6, .ref w7, .ref w8, .ref w9])), (w0, .inl (E 0, 137, .inl wv))] s.heap := hP
  have hS : va_S (fun _ : Nat => False) s.heap s.heap [] := va_S.rf
  have hl := lv_entry ([.ref m0, .int v, .int w]) (n := 3) (Nat.le_of_ble_eq_true rfl)
  rw [lg_entry_eq]
  generalize (lg_sl ([.ref m0, .int v, .int w]) ++ List.replicate (3 - (lg_sl ([.ref m0, .int v, .int w])).length) Slot.unset).toArray = ls at hl ⊢
  have hl : lv_has ls 3 [(0, .ref m0), (1, .int v), (2, .int w)] := hl
  refine zr_nQ (fun Q hQ => ?_)
  obtain ⟨hvg, hxy, hvb, hvr, hkv, hzc, hze, hzb, hn6, hn8, hm8⟩ := id hva
  obtain ⟨hkd, hse, hev, hbo⟩ := id hzs
  have hok := hvg.1
  have hN := hok.1
  have hvn := hvg.2.1
  have hgr := zm_gr_of hxy
  refine lv_aload_n hx hb dX8_wear_0 rfl (lv_at hl 0 rfl) ?_
  refine lv_iload_n hx hb dX8_wear_1 rfl (lv_at hl 1 rfl) ?_
  refine zr_ci hP hS (va_runV (As := [.int v]) (rest := []) ⟨hx, hb, hml, hown, hts⟩ (c_X8_isTeam l D E m0 w0 w1 w2 w3 w4 w5 w6 w7 w8 w9 ik tx he fa cl wv N v (hvn) (hN)) (cwV 1 hts gX8_wear_X8_isTeam rfl rfl rfl (by decide +kernel) ⟨Nat.le_of_ble_eq_true rfl, Nat.le_of_ble_eq_true rfl⟩) (zr_V hK (hP.sub (ws' := [(m0, .inr (6, [.ref w0, .ref w1, .ref w2, .int ik, .ref w3, .int (nI tx), .int he, .int fa, .ref w4, .ref w5, .int (nI cl), .ref w6, .ref w7, .ref w8, .ref w9])), (w0, .inl (E 0, 137, .inl wv))]) [0, 1] rfl) (ci := 6) (q0 := 0) rfl rfl) rfl rfl hl.1 rfl (lv_room (Nat.le_of_ble_eq_true rfl)) dX8_wear_2 ⟨Nat.zero_le _, Nat.zero_le _⟩) (fun r_1 H locs hw_2 hP hS => ?_)
  rcases hw_2 with ⟨rfl, hw_2⟩ | ⟨rfl, hw_2⟩
  · skip
    obtain ⟨t, ht, v_e⟩ := hw_2
    have e1 : zi N v = true := v_e ▸ zi_t ht (by omega)
    have q1 : zq v = t := v_e ▸ zq_t (by omega)
    rw [v_e] at hl
    refine zr_ti (y := nI 1) rfl ?_
    refine lv_if_eq (tgt := 29) hx hb dX8_wear_5 (by decide) (fun cn_3 => ?_) (fun cn_3 => ?_)
    · skip
      exact absurd cn_3 (by decide)
    · skip
      refine lv_aload_n hx hb dX8_wear_8 rfl (lv_at hl 0 rfl) ?_
      refine lv_iload_n hx hb dX8_wear_9 rfl (lv_at hl 2 rfl) ?_
      refine zr_ci hP hS (va_runV (As := [.int w]) (rest := []) ⟨hx, hb, hml, hown, hts⟩ (c_X8_isRound l D E m0 w0 w1 w2 w3 w4 w5 w6 w7 w8 w9 ik tx he fa cl wv N w (hvn) (hN)) (cwV 1 hts gX8_wear_X8_isRound rfl rfl rfl (by decide +kernel) ⟨Nat.le_of_ble_eq_true rfl, Nat.le_of_ble_eq_true rfl⟩) (zr_V hK (hP.sub (ws' := [(m0, .inr (6, [.ref w0, .ref w1, .ref w2, .int ik, .ref w3, .int (nI tx), .int he, .int fa, .ref w4, .ref w5, .int (nI cl), .ref w6, .ref w7, .ref w8, .ref w9])), (w0, .inl (E 0, 137, .inl wv))]) [0, 1] rfl) (ci := 6) (q0 := 0) rfl rfl) rfl rfl hl.1 rfl (lv_room (Nat.le_of_ble_eq_true rfl)) dX8_wear_10 ⟨Nat.zero_le _, Nat.zero_le _⟩) (fun r_4 H locs hw_5 hP hS => ?_)
      rcases hw_5 with ⟨rfl, hw_5⟩ | ⟨rfl, hw_5⟩
      · skip
        obtain ⟨u, hu, w_e⟩ := hw_5
        have e2 : zi (N - 1) w = true := w_e ▸ zi_t hu (by omega)
        have q2 : zq w = u := w_e ▸ zq_t (by omega)
        rw [w_e] at hl
        refine zr_ti (y := nI 1) rfl ?_
        refine lv_if_eq (tgt := 29) hx hb dX8_wear_13 (by decide) (fun cn_6 => ?_) (fun cn_6 => ?_)
        · skip
          exact absurd cn_6 (by decide)
        · skip
          refine lv_aload_n hx hb dX8_wear_16 rfl (lv_at hl 0 rfl) ?_
          refine lv_iload_n hx hb dX8_wear_17 rfl (lv_at hl 1 rfl) ?_
          refine lv_iload_n hx hb dX8_wear_18 rfl (lv_at hl 2 rfl) ?_
          refine zr_cf hP hS (va_runV (As := [.int (nI t), .int (nI u)]) (rest := []) ⟨hx, hb, hml, hown, hts⟩ (c_X8_wearOf l D E m0 w0 w1 w2 w3 w4 w5 w6 w7 w8 w9 ik tx he fa cl wv N G P X Y t u (hvg) (hxy) (by omega) (by omega)) (cwV 2 hts gX8_wear_X8_wearOf rfl rfl rfl (by decide +kernel) ⟨Nat.le_of_ble_eq_true rfl, Nat.le_of_ble_eq_true rfl⟩) (zr_V hK (hP.sub (ws' := [(m0, .inr (6, [.ref w0, .ref w1, .ref w2, .int ik, .ref w3, .int (nI tx), .int he, .int fa, .ref w4, .ref w5, .int (nI cl), .ref w6, .ref w7, .ref w8, .ref w9])), (w0, .inl (E 0, 137, .inl wv))]) [0, 1] rfl) (ci := 6) (q0 := 0) rfl rfl) rfl rfl hl.1 rfl (lv_room (Nat.le_of_ble_eq_true rfl)) dX8_wear_19 ⟨Nat.zero_le _, Nat.zero_le _⟩) (fun r_7 H locs hw_8 hP hS => ?_)
          subst hw_8
          refine zr_ci hP hS (va_runS (As := [.float (zf_wear (zm_way G P X Y t) (u + 1))]) (rest := []) ⟨hx, hb, hml, hown, hts⟩ (c_Jxf58ca_floatToIntBits_5c35a l D E (zf_wear (zm_way G P X Y t) (u + 1)) 120 150 ((zf_wearF (w := zm_way G P X Y t) (u + 1) (by omega) (fun j hj => zm_way_le hok hgr (t := t) (r := j) (by omega) (by omega))).mono (by omega) (by omega))) (va_cwS 1 hts gX8_wear_Jxf58ca_floatToIntBits_5c35a rfl rfl rfl (by decide +kernel) ⟨Nat.le_of_ble_eq_true rfl, Nat.le_of_ble_eq_true rfl⟩) (zr_S hK (hP.sub (ws' := []) [] rfl)) rfl rfl hl.1 rfl (lv_room (Nat.le_of_ble_eq_true rfl)) dX8_wear_22 ⟨Nat.zero_le _, Nat.zero_le _⟩) (fun r_9 H locs hw_10 hP hS => ?_)
          subst hw_10
          refine lv_i2l (v := lN ((zf_wear (zm_way G P X Y t) (u + 1)).toNat)) hx hb dX8_wear_25 (nI_l (zf_lt31 (zf_wearF (w := zm_way G P X Y t) (u + 1) (by omega) (fun j hj => zm_way_le hok hgr (t := t) (r := j) (by omega) (by omega))))) ?_
          refine lv_goto (tgt := 32) hx hb dX8_wear_26 (by decide) ?_
          subst hQ
          exact W.lret (v := lN ((zf_wear (zm_way G P X Y t) (u + 1)).toNat)) hx hb hr (fun tz htz hWz => ⟨⟨lN ((zf_wear (zm_way G P X Y t) (u + 1)).toNat), (), rfl, by first | (simp only [cond_true, cond_false, Bool.and_true, Bool.and_false, Bool.true_and, Bool.false_and, e1, e2, q1, q2]; done) | (simp only [cond_true, cond_false, Bool.and_true, Bool.and_false, Bool.true_and, Bool.false_and, e1]; done) | (simp only [cond_true, cond_false, Bool.and_true, Bool.and_false, Bool.true_and, Bool.false_and, e1, e2]; done), trivial⟩, hS.F htz⟩) hS.2.2 dX8_wear_32
      · skip
        have e2 : zi (N - 1) w = false := zi_f hw_5
        refine zr_ti (y := nI 0) rfl ?_
        refine lv_if_eq (tgt := 29) hx hb dX8_wear_13 (by decide) (fun cn_11 => ?_) (fun cn_11 => ?_)
        · skip
          refine lv_ldc2 (v := (-9223372036854775808)) hx hb hown (hts (.constantLong RX8 247 (-9223372036854775808)) (by decide +kernel)) dX8_wear_29 ?_
          subst hQ
          exact W.lret (v := (-9223372036854775808)) hx hb hr (fun tz htz hWz => ⟨⟨(-9223372036854775808), (), rfl, by first | (simp only [cond_true, cond_false, Bool.and_true, Bool.and_false, Bool.true_and, Bool.false_and, e1, e2, q1, q2]; done) | (simp only [cond_true, cond_false, Bool.and_true, Bool.and_false, Bool.true_and, Bool.false_and, e1]; done) | (simp only [cond_true, cond_false, Bool.and_true, Bool.and_false, Bool.true_and, Bool.false_and, e1, e2]; done), trivial⟩, hS.F htz⟩) hS.2.2 dX8_wear_32
        · skip
          exact absurd cn_11 (by decide)
  · skip
    have e1 : zi N v = false := zi_f hw_2
    refine zr_ti (y := nI 0) rfl ?_
    refine lv_if_eq (tgt := 29) hx hb dX8_wear_5 (by decide) (fun cn_12 => ?_) (fun cn_12 => ?_)
    · skip
      refine lv_ldc2 (v := (-9223372036854775808)) hx hb hown (hts (.constantLong RX8 247 (-9223372036854775808)) (by decide +kernel)) dX8_wear_29 ?_
      subst hQ
      exact W.lret (v := (-9223372036854775808)) hx hb hr (fun tz htz hWz => ⟨⟨(-9223372036854775808), (), rfl, by first | (simp only [cond_true, cond_false, Bool.and_true, Bool.and_false, Bool.true_and, Bool.false_and, e1, e2, q1, q2]; done) | (simp only [cond_true, cond_false, Bool.and_true, Bool.and_false, Bool.true_and, Bool.false_and, e1]; done) | (simp only [cond_true, cond_false, Bool.and_true, Bool.and_false, Bool.true_and, Bool.false_and, e1, e2]; done), trivial⟩, hS.F htz⟩) hS.2.2 dX8_wear_32
    · skip
      exact absurd cn_12 (by decide)

set_option maxHeartbeats 4000000 in
set_option maxRecDepth 100000 in
theorem c_X8_cost (l : Launch) (D : va_G) (E : Nat → ClassId) (m0 : Nat) (w0 : Nat) (w1 : Nat) (w2 : Nat) (w3 : Nat) (w4 : Nat) (w5 : Nat) (w6 : Nat) (w7 : Nat) (w8 : Nat) (w9 : Nat) (ik : Int32) (tx : Nat) (he : Int32) (fa : Int32) (cl : Nat) (wv : Nat → Int32) (N : Nat) (G : Nat → Nat → Nat) (P : Nat → Nat → Nat) (X : Nat → Nat) (Y : Nat → Nat) (B : Nat → Nat → Nat) (R : Nat → Nat) (kd : Nat) (sn : Nat) (sT : Nat → Nat) (sR : Nat → Nat) (sH : Nat → Nat) (en : Nat) (eW : Nat → Nat) (eN : Nat → Nat) (bn : Nat) (bT : Nat → Nat) (bN : Nat → Nat) (hva : zv_all N G P X Y B R kd sn sT sR sH en eW eN bn bT bN wv) (hzs : zs_all N kd sn sT sR sH en eW eN bn bT bN) : Met l yX8_cost wsX8_cost ({ frames := 7, cells := 0, slots := 0, locals := 156 }) (zr_P D E [.ref m0] [(m0, .inr (6, [.ref w0, .ref w1, .ref w2, .int ik, .ref w3, .int (nI tx), .int he, .int fa, .ref w4, .ref w5, .int (nI cl), .ref w6, .ref w7, .ref w8, .ref w9])), (w0, .inl (E 0, 137, .inl wv))]) (zr_Ql (fun zv => zv = lN (zm_cost R B X Y N G P).toNat)) 0 0 (fun _ => False) := by
  refine Met.ofW (cc := cX8_cost) (maxL := 1) (ret := (some .long)) (by decide) rfl ?_
  intro p e s m args below meth c s₁ Bz hml hv
  obtain ⟨rfl, hP, hK⟩ := hv
  have hx := Bz.exec
  have hb := Bz.bytes
  have hr := Bz.returns
  have hts := atoms_spec (ws := wsX8_cost) Bz.pre
  have hown : s.vm.findClass RX8 = some m.cls := findClass_of_methodNamed Bz.named
  have hlocks := Bz.notSynchronized
  have hP : va_P D vwCl [(m0, .inr (6, [.ref w0, .ref w1, .ref w2, .int ik, .ref w3, .int (nI tx), .int he, .int fa, .ref w4, .ref w5, .int (nI cl), .ref w6, .ref w7, .ref w8, .ref w9])), (w0, .inl (E 0, 137, .inl wv))] s.heap := hP
  have hS : va_S (fun _ : Nat => False) s.heap s.heap [] := va_S.rf
  have hl := lv_entry ([.ref m0]) (n := 1) (Nat.le_of_ble_eq_true rfl)
  rw [lg_entry_eq]
  generalize (lg_sl ([.ref m0]) ++ List.replicate (1 - (lg_sl ([.ref m0])).length) Slot.unset).toArray = ls at hl ⊢
  have hl : lv_has ls 1 [(0, .ref m0)] := hl
  refine zr_nQ (fun Q hQ => ?_)
  obtain ⟨hvg, hxy, hvb, hvr, hkv, hzc, hze, hzb, hn6, hn8, hm8⟩ := id hva
  obtain ⟨hkd, hse, hev, hbo⟩ := id hzs
  have hok := hvg.1
  have hN := hok.1
  have hvn := hvg.2.1
  have hgr := zm_gr_of hxy
  have hcf : zf_F 123 153 (zm_cost R B X Y N G P) := (by have q1 := zm_brs_le (P := P) hN; have q2 := zm_vio_le5 (B := B) hok (fun t r h1 h2 => (hvb.1 t r h1 (by omega)).1); have q3 := zm_car_le (G := G) (P := P) hN; have q4 := zm_amiles_le hok hgr; exact zf_costF (fun k hk => (hvr k hk).1) (by omega) (by omega) (by omega) (by omega))
  refine lv_aload_n hx hb dX8_cost_0 rfl (lv_at hl 0 rfl) ?_
  refine zr_cf hP hS (va_runV (As := []) (rest := []) ⟨hx, hb, hml, hown, hts⟩ (c_X8_costs l D E m0 w0 w1 w2 w3 w4 w5 w6 w7 w8 w9 ik tx he fa cl wv N G P X Y B R (hvg) (hxy) (hvb) (hvr)) (cwV 0 hts gX8_cost_X8_costs rfl rfl rfl (by decide +kernel) ⟨Nat.le_of_ble_eq_true rfl, Nat.le_of_ble_eq_true rfl⟩) (zr_V hK (hP.sub (ws' := [(m0, .inr (6, [.ref w0, .ref w1, .ref w2, .int ik, .ref w3, .int (nI tx), .int he, .int fa, .ref w4, .ref w5, .int (nI cl), .ref w6, .ref w7, .ref w8, .ref w9])), (w0, .inl (E 0, 137, .inl wv))]) [0, 1] rfl) (ci := 6) (q0 := 0) rfl rfl) rfl rfl hl.1 rfl (lv_room (Nat.le_of_ble_eq_true rfl)) dX8_cost_1 ⟨Nat.zero_le _, Nat.zero_le _⟩) (fun r_1 H locs hw_2 hP hS => ?_)
  subst hw_2
  refine zr_ci hP hS (va_runS (As := [.float (zf_cost R (zm_brs N P) (zm_vio N G B) (zm_car N G P) (zm_amiles N G P X Y))]) (rest := []) ⟨hx, hb, hml, hown, hts⟩ (c_Jxf58ca_floatToIntBits_5c35a l D E (zf_cost R (zm_brs N P) (zm_vio N G B) (zm_car N G P) (zm_amiles N G P X Y)) 123 153 (hcf)) (va_cwS 1 hts gX8_cost_Jxf58ca_floatToIntBits_5c35a rfl rfl rfl (by decide +kernel) ⟨Nat.le_of_ble_eq_true rfl, Nat.le_of_ble_eq_true rfl⟩) (zr_S hK (hP.sub (ws' := []) [] rfl)) rfl rfl hl.1 rfl (lv_room (Nat.le_of_ble_eq_true rfl)) dX8_cost_4 ⟨Nat.zero_le _, Nat.zero_le _⟩) (fun r_3 H locs hw_4 hP hS => ?_)
  subst hw_4
  refine lv_i2l (v := lN ((zf_cost R (zm_brs N P) (zm_vio N G B) (zm_car N G P) (zm_amiles N G P X Y)).toNat)) hx hb dX8_cost_7 (nI_l (zf_lt31 hcf)) ?_
  subst hQ
  exact W.lret (v := lN ((zf_cost R (zm_brs N P) (zm_vio N G B) (zm_car N G P) (zm_amiles N G P X Y)).toNat)) hx hb hr (fun tz htz hWz => ⟨⟨lN ((zf_cost R (zm_brs N P) (zm_vio N G B) (zm_car N G P) (zm_amiles N G P X Y)).toNat), (), rfl, rfl, trivial⟩, hS.F htz⟩) hS.2.2 dX8_cost_8

set_option maxHeartbeats 4000000 in
set_option maxRecDepth 100000 in
theorem c_X8_would (l : Launch) (D : va_G) (E : Nat → ClassId) (m0 : Nat) (w0 : Nat) (w1 : Nat) (w2 : Nat) (w3 : Nat) (w4 : Nat) (w5 : Nat) (w6 : Nat) (w7 : Nat) (w8 : Nat) (w9 : Nat) (ik : Int32) (tx : Nat) (he : Int32) (fa : Int32) (cl : Nat) (wv : Nat → Int32) (N : Nat) (G : Nat → Nat → Nat) (P : Nat → Nat → Nat) (X : Nat → Nat) (Y : Nat → Nat) (B : Nat → Nat → Nat) (R : Nat → Nat) (kd : Nat) (sn : Nat) (sT : Nat → Nat) (sR : Nat → Nat) (sH : Nat → Nat) (en : Nat) (eW : Nat → Nat) (eN : Nat → Nat) (bn : Nat) (bT : Nat → Nat) (bN : Nat → Nat) (v : Int32) (w : Int32) (hva : zv_all N G P X Y B R kd sn sT sR sH en eW eN bn bT bN wv) (hzs : zs_all N kd sn sT sR sH en eW eN bn bT bN) : Met l yX8_would wsX8_would ({ frames := 7, cells := 0, slots := 0, locals := 156 }) (zw_P D E [.ref m0, .int v, .int w] [(m0, .inr (6, [.ref w0, .ref w1, .ref w2, .int ik, .ref w3, .int (nI tx), .int he, .int fa, .ref w4, .ref w5, .int (nI cl), .ref w6, .ref w7, .ref w8, .ref w9])), (w0, .inl (E 0, 137, .inl wv))]) (zw_Ql D [(m0, .inr (6, [.ref w0, .ref w1, .ref w2, .int ik, .ref w3, .int (nI tx), .int he, .int fa, .ref w4, .ref w5, .int (nI cl), .ref w6, .ref w7, .ref w8, .ref w9])), (w0, .inl (E 0, 137, .inl wv))] (fun zv (u : (Nat → Int32)) => zv = cond (zi (N - 1) v && zi (N / 2) w) (lN (zm_cost R B X Y N (zm_tuG G (zq v) (zq w)) (zm_tuP P (zq v) (zq w))).toNat) (-9223372036854775808) ∧ zv_all N G P X Y B R kd sn sT sR sH en eW eN bn bT bN u) (fun (u : (Nat → Int32)) => [(m0, .inr (6, [.ref w0, .ref w1, .ref w2, .int ik, .ref w3, .int (nI tx), .int he, .int fa, .ref w4, .ref w5, .int (nI cl), .ref w6, .ref w7, .ref w8, .ref w9])), (w0, .inl (E 0, 137, .inl u))])) 0 0 (zw_A [(m0, .inr (6, [.ref w0, .ref w1, .ref w2, .int ik, .ref w3, .int (nI tx), .int he, .int fa, .ref w4, .ref w5, .int (nI cl), .ref w6, .ref w7, .ref w8, .ref w9])), (w0, .inl (E 0, 137, .inl wv))]) := by
  refine Met.ofW (cc := cX8_would) (maxL := 4) (ret := (some .long)) (by decide) rfl ?_
  intro p e s m args below meth c s₁ Bz hml hv
  obtain ⟨rfl, hP, hK, hD0⟩ := hv
  have hx := Bz.exec
  have hb := Bz.bytes
  have hr := Bz.returns
  have hts := atoms_spec (ws := wsX8_would) Bz.pre
  have hown : s.vm.findClass RX8 = some m.cls := findClass_of_methodNamed Bz.named
  have hlocks := Bz.notSynchronized
  have hP : va_P D vwCl [(m0, .inr (6, [.ref w0, .ref w1, .ref w2, .int ik, .ref w3, .int (nI tx), .int he, .int fa, .ref w4, .ref w5, .int (nI cl), .ref w6, .ref w7, .ref w8, .ref w9])), (w0, .inl (E 0, 137, .inl wv))] s.heap := hP
  obtain ⟨A, hAe⟩ : ∃ A : Nat → Prop, A = zw_A [(m0, .inr (6, [.ref w0, .ref w1, .ref w2, .int ik, .ref w3, .int (nI tx), .int he, .int fa, .ref w4, .ref w5, .int (nI cl), .ref w6, .ref w7, .ref w8, .ref w9])), (w0, .inl (E 0, 137, .inl wv))] := ⟨_, rfl⟩
  have hD : va_D A [(m0, .inr (6, [.ref w0, .ref w1, .ref w2, .int ik, .ref w3, .int (nI tx), .int he, .int fa, .ref w4, .ref w5, .int (nI cl), .ref w6, .ref w7, .ref w8, .ref w9])), (w0, .inl (E 0, 137, .inl wv))] := hAe ▸ zw_own hD0
  have hS : va_S A s.heap s.heap [] := va_S.rf
  have hl := lv_entry ([.ref m0, .int v, .int w]) (n := 4) (Nat.le_of_ble_eq_true rfl)
  rw [lg_entry_eq]
  generalize (lg_sl ([.ref m0, .int v, .int w]) ++ List.replicate (4 - (lg_sl ([.ref m0, .int v, .int w])).length) Slot.unset).toArray = ls at hl ⊢
  have hl : lv_has ls 4 [(0, .ref m0), (1, .int v), (2, .int w)] := hl
  refine zr_nQ (fun Q hQ => ?_)
  obtain ⟨hvg, hxy, hvb, hvr, hkv, hzc, hze, hzb, hn6, hn8, hm8⟩ := id hva
  obtain ⟨hkd, hse, hev, hbo⟩ := id hzs
  have hok := hvg.1
  have hN := hok.1
  have hvn := hvg.2.1
  have hgr := zm_gr_of hxy
  refine lv_aload_n hx hb dX8_would_0 rfl (lv_at hl 0 rfl) ?_
  refine lv_iload_n hx hb dX8_would_1 rfl (lv_at hl 1 rfl) ?_
  refine zr_ci hP hS (va_runV (As := [.int v]) (rest := []) ⟨hx, hb, hml, hown, hts⟩ (c_X8_isRound l D E m0 w0 w1 w2 w3 w4 w5 w6 w7 w8 w9 ik tx he fa cl wv N v (hvn) (hN)) (cwV 1 hts gX8_would_X8_isRound rfl rfl rfl (by decide +kernel) ⟨Nat.le_of_ble_eq_true rfl, Nat.le_of_ble_eq_true rfl⟩) (zr_V hK (hP.sub (ws' := [(m0, .inr (6, [.ref w0, .ref w1, .ref w2, .int ik, .ref w3, .int (nI tx), .int he, .int fa, .ref w4, .ref w5, .int (nI cl), .ref w6, .ref w7, .ref w8, .ref w9])), (w0, .inl (E 0, 137, .inl wv))]) [0, 1] rfl) (ci := 6) (q0 := 0) rfl rfl) rfl rfl hl.1 rfl (lv_room (Nat.le_of_ble_eq_true rfl)) dX8_would_2 ⟨Nat.zero_le _, Nat.zero_le _⟩) (fun r_1 H locs hw_2 hP hS => ?_)
  rcases hw_2 with ⟨rfl, hw_2⟩ | ⟨rfl, hw_2⟩
  · skip
    obtain ⟨t, ht, v_e⟩ := hw_2
    have e1 : zi (N - 1) v = true := v_e ▸ zi_t ht (by omega)
    have q1 : zq v = t := v_e ▸ zq_t (by omega)
    rw [v_e] at hl
    refine zr_ti (y := nI 1) rfl ?_
    refine lv_if_eq (tgt := 16) hx hb dX8_would_5 (by decide) (fun cn_3 => ?_) (fun cn_3 => ?_)
    · skip
      exact absurd cn_3 (by decide)
    · skip
      refine lv_aload_n hx hb dX8_would_8 rfl (lv_at hl 0 rfl) ?_
      refine lv_iload_n hx hb dX8_would_9 rfl (lv_at hl 2 rfl) ?_
      refine zr_ci hP hS (va_runV (As := [.int w]) (rest := []) ⟨hx, hb, hml, hown, hts⟩ (c_X8_isGame l D E m0 w0 w1 w2 w3 w4 w5 w6 w7 w8 w9 ik tx he fa cl wv N w (hvn) (hN)) (cwV 1 hts gX8_would_X8_isGame rfl rfl rfl (by decide +kernel) ⟨Nat.le_of_ble_eq_true rfl, Nat.le_of_ble_eq_true rfl⟩) (zr_V hK (hP.sub (ws' := [(m0, .inr (6, [.ref w0, .ref w1, .ref w2, .int ik, .ref w3, .int (nI tx), .int he, .int fa, .ref w4, .ref w5, .int (nI cl), .ref w6, .ref w7, .ref w8, .ref w9])), (w0, .inl (E 0, 137, .inl wv))]) [0, 1] rfl) (ci := 6) (q0 := 0) rfl rfl) rfl rfl hl.1 rfl (lv_room (Nat.le_of_ble_eq_true rfl)) dX8_would_10 ⟨Nat.zero_le _, Nat.zero_le _⟩) (fun r_4 H locs hw_5 hP hS => ?_)
      rcases hw_5 with ⟨rfl, hw_5⟩ | ⟨rfl, hw_5⟩
      · skip
        obtain ⟨u, hu, w_e⟩ := hw_5
        have e2 : zi (N / 2) w = true := w_e ▸ zi_t hu (by omega)
        have q2 : zq w = u := w_e ▸ zq_t (by omega)
        rw [w_e] at hl
        refine zr_ti (y := nI 1) rfl ?_
        refine lv_if_ne (tgt := 20) hx hb dX8_would_13 (by decide) (fun cn_6 => ?_) (fun cn_6 => ?_)
        · skip
          refine lv_aload_n hx hb dX8_would_20 rfl (lv_at hl 0 rfl) ?_
          refine lv_iload_n hx hb dX8_would_21 rfl (lv_at hl 1 rfl) ?_
          refine lv_iload_n hx hb dX8_would_22 rfl (lv_at hl 2 rfl) ?_
          have hPc := hP.sub (ws' := [(m0, .inr (6, [.ref w0, .ref w1, .ref w2, .int ik, .ref w3, .int (nI tx), .int he, .int fa, .ref w4, .ref w5, .int (nI cl), .ref w6, .ref w7, .ref w8, .ref w9])), (w0, .inl (E 0, 137, .inl wv))]) [0, 1] rfl
          have hDc := hD.sub (ws' := [(m0, .inr (6, [.ref w0, .ref w1, .ref w2, .int ik, .ref w3, .int (nI tx), .int he, .int fa, .ref w4, .ref w5, .int (nI cl), .ref w6, .ref w7, .ref w8, .ref w9])), (w0, .inl (E 0, 137, .inl wv))]) [0, 1] (by decide +kernel) rfl
          have hAc := zw_AA (wc := [(m0, .inr (6, [.ref w0, .ref w1, .ref w2, .int ik, .ref w3, .int (nI tx), .int he, .int fa, .ref w4, .ref w5, .int (nI cl), .ref w6, .ref w7, .ref w8, .ref w9])), (w0, .inl (E 0, 137, .inl wv))]) hD [0, 1] rfl
          refine zw_cv hAc hS (va_runV (As := [.int (nI t), .int (nI u)]) (rest := []) ⟨hx, hb, hml, hown, hts⟩ (c_X8_turns l D E m0 w0 w1 w2 w3 w4 w5 w6 w7 w8 w9 ik tx he fa cl wv N G P t u (hvg) (by omega) (by omega)) (cwV 2 hts gX8_would_X8_turns rfl rfl rfl (by decide +kernel) ⟨Nat.le_of_ble_eq_true rfl, Nat.le_of_ble_eq_true rfl⟩) (zw_V hK hPc hDc (ci := 6) (q0 := 0) rfl rfl) rfl rfl hl.1 rfl (lv_room (Nat.le_of_ble_eq_true rfl)) dX8_would_23 ⟨Nat.zero_le _, Nat.zero_le _⟩) (fun u_9 H locs hw_8 hP1 hD1 hk1 hS => ?_)
          obtain ⟨wvn_10, rfl⟩ : ∃ z, z = u_9 := ⟨_, rfl⟩
          try dsimp only at hw_8 hP1 hD1
          obtain ⟨hP, hD⟩ := zw_join (wr := []) (w1 := [(m0, .inr (6, [.ref w0, .ref w1, .ref w2, .int ik, .ref w3, .int (nI tx), .int he, .int fa, .ref w4, .ref w5, .int (nI cl), .ref w6, .ref w7, .ref w8, .ref w9])), (w0, .inl (E 0, 137, .inl wvn_10))]) (ws' := [(m0, .inr (6, [.ref w0, .ref w1, .ref w2, .int ik, .ref w3, .int (nI tx), .int he, .int fa, .ref w4, .ref w5, .int (nI cl), .ref w6, .ref w7, .ref w8, .ref w9])), (w0, .inl (E 0, 137, .inl wvn_10))]) hP hD [0, 1] [] [0, 1] rfl rfl (by decide +kernel) (by decide +kernel) hAc hk1 hP1 hD1 (by decide +kernel) rfl
          clear hP1 hD1 hk1 hPc hDc hAc
          have hnew := hw_8
          have hokt := zm_tu_ok hok ht hu
          have hcf : zf_F 123 153 (zm_cost R B X Y N (zm_tuG G t u) (zm_tuP P t u)) := (by have q1 := zm_brs_le (P := zm_tuP P t u) hN; have q2 := zm_vio_le5 (B := B) hokt (fun t r h1 h2 => (hvb.1 t r h1 (by omega)).1); have q3 := zm_car_le (G := zm_tuG G t u) (P := zm_tuP P t u) hN; have q4 := zm_amiles_le hokt hgr; exact zf_costF (fun k hk => (hvr k hk).1) (by omega) (by omega) (by omega) (by omega))
          refine lv_aload_n hx hb dX8_would_26 rfl (lv_at hl 0 rfl) ?_
          refine zr_cf hP hS (va_runV (As := []) (rest := []) ⟨hx, hb, hml, hown, hts⟩ (c_X8_costs l D E m0 w0 w1 w2 w3 w4 w5 w6 w7 w8 w9 ik tx he fa cl wvn_10 N (zm_tuG G t u) (zm_tuP P t u) X Y B R (hnew.1) (zv_xy_off hxy hnew.2) (zv_b_off hvb hnew.2) (zv_r_off hvr hnew.2)) (cwV 0 hts gX8_would_X8_costs rfl rfl rfl (by decide +kernel) ⟨Nat.le_of_ble_eq_true rfl, Nat.le_of_ble_eq_true rfl⟩) (zr_V hK (hP.sub (ws' := [(m0, .inr (6, [.ref w0, .ref w1, .ref w2, .int ik, .ref w3, .int (nI tx), .int he, .int fa, .ref w4, .ref w5, .int (nI cl), .ref w6, .ref w7, .ref w8, .ref w9])), (w0, .inl (E 0, 137, .inl wvn_10))]) [0, 1] rfl) (ci := 6) (q0 := 0) rfl rfl) rfl rfl hl.1 rfl (lv_room (Nat.le_of_ble_eq_true rfl)) dX8_would_27 ⟨Nat.zero_le _, Nat.zero_le _⟩) (fun r_11 H locs hw_12 hP hS => ?_)
          subst hw_12
          refine lv_fstore_n (lv' := [(3, .float (zf_cost R (zm_brs N (zm_tuP P t u)) (zm_vio N (zm_tuG G t u) B) (zm_car N (zm_tuG G t u) (zm_tuP P t u)) (zm_amiles N (zm_tuG G t u) (zm_tuP P t u) X Y))), (0, .ref m0), (1, .int (nI t)), (2, .int (nI u))]) hx hb dX8_would_30 rfl hl (by decide) rfl (fun ls hl => ?_)
          refine lv_aload_n hx hb dX8_would_31 rfl (lv_at hl 1 rfl) ?_
          refine lv_iload_n hx hb dX8_would_32 rfl (lv_at hl 2 rfl) ?_
          refine lv_iload_n hx hb dX8_would_33 rfl (lv_at hl 3 rfl) ?_
          have hPc := hP.sub (ws' := [(m0, .inr (6, [.ref w0, .ref w1, .ref w2, .int ik, .ref w3, .int (nI tx), .int he, .int fa, .ref w4, .ref w5, .int (nI cl), .ref w6, .ref w7, .ref w8, .ref w9])), (w0, .inl (E 0, 137, .inl wvn_10))]) [0, 1] rfl
          have hDc := hD.sub (ws' := [(m0, .inr (6, [.ref w0, .ref w1, .ref w2, .int ik, .ref w3, .int (nI tx), .int he, .int fa, .ref w4, .ref w5, .int (nI cl), .ref w6, .ref w7, .ref w8, .ref w9])), (w0, .inl (E 0, 137, .inl wvn_10))]) [0, 1] (by decide +kernel) rfl
          have hAc := zw_AA (wc := [(m0, .inr (6, [.ref w0, .ref w1, .ref w2, .int ik, .ref w3, .int (nI tx), .int he, .int fa, .ref w4, .ref w5, .int (nI cl), .ref w6, .ref w7, .ref w8, .ref w9])), (w0, .inl (E 0, 137, .inl wvn_10))]) hD [0, 1] rfl
          refine zw_cv hAc hS (va_runV (As := [.int (nI t), .int (nI u)]) (rest := []) ⟨hx, hb, hml, hown, hts⟩ (c_X8_turns l D E m0 w0 w1 w2 w3 w4 w5 w6 w7 w8 w9 ik tx he fa cl wvn_10 N (zm_tuG G t u) (zm_tuP P t u) t u (hnew.1) (by omega) (by omega)) (cwV 2 hts gX8_would_X8_turns rfl rfl rfl (by decide +kernel) ⟨Nat.le_of_ble_eq_true rfl, Nat.le_of_ble_eq_true rfl⟩) (zw_V hK hPc hDc (ci := 6) (q0 := 0) rfl rfl) rfl rfl hl.1 rfl (lv_room (Nat.le_of_ble_eq_true rfl)) dX8_would_34 ⟨Nat.zero_le _, Nat.zero_le _⟩) (fun u_15 H locs hw_14 hP1 hD1 hk1 hS => ?_)
          obtain ⟨wvn_16, rfl⟩ : ∃ z, z = u_15 := ⟨_, rfl⟩
          try dsimp only at hw_14 hP1 hD1
          obtain ⟨hP, hD⟩ := zw_join (wr := []) (w1 := [(m0, .inr (6, [.ref w0, .ref w1, .ref w2, .int ik, .ref w3, .int (nI tx), .int he, .int fa, .ref w4, .ref w5, .int (nI cl), .ref w6, .ref w7, .ref w8, .ref w9])), (w0, .inl (E 0, 137, .inl wvn_16))]) (ws' := [(m0, .inr (6, [.ref w0, .ref w1, .ref w2, .int ik, .ref w3, .int (nI tx), .int he, .int fa, .ref w4, .ref w5, .int (nI cl), .ref w6, .ref w7, .ref w8, .ref w9])), (w0, .inl (E 0, 137, .inl wvn_16))]) hP hD [0, 1] [] [0, 1] rfl rfl (by decide +kernel) (by decide +kernel) hAc hk1 hP1 hD1 (by decide +kernel) rfl
          clear hP1 hD1 hk1 hPc hDc hAc
          have hn2 := hw_14
          refine lv_fload_n hx hb dX8_would_37 rfl (lv_at hl 0 rfl) ?_
          refine zr_ci hP hS (va_runS (As := [.float (zf_cost R (zm_brs N (zm_tuP P t u)) (zm_vio N (zm_tuG G t u) B) (zm_car N (zm_tuG G t u) (zm_tuP P t u)) (zm_amiles N (zm_tuG G t u) (zm_tuP P t u) X Y))]) (rest := []) ⟨hx, hb, hml, hown, hts⟩ (c_Jxf58ca_floatToIntBits_5c35a l D E (zf_cost R (zm_brs N (zm_tuP P t u)) (zm_vio N (zm_tuG G t u) B) (zm_car N (zm_tuG G t u) (zm_tuP P t u)) (zm_amiles N (zm_tuG G t u) (zm_tuP P t u) X Y)) 123 153 (hcf)) (va_cwS 1 hts gX8_would_Jxf58ca_floatToIntBits_5c35a rfl rfl rfl (by decide +kernel) ⟨Nat.le_of_ble_eq_true rfl, Nat.le_of_ble_eq_true rfl⟩) (zr_S hK (hP.sub (ws' := []) [] rfl)) rfl rfl hl.1 rfl (lv_room (Nat.le_of_ble_eq_true rfl)) dX8_would_38 ⟨Nat.zero_le _, Nat.zero_le _⟩) (fun r_17 H locs hw_18 hP hS => ?_)
          subst hw_18
          refine lv_i2l (v := lN ((zf_cost R (zm_brs N (zm_tuP P t u)) (zm_vio N (zm_tuG G t u) B) (zm_car N (zm_tuG G t u) (zm_tuP P t u)) (zm_amiles N (zm_tuG G t u) (zm_tuP P t u) X Y)).toNat)) hx hb dX8_would_41 (nI_l (zf_lt31 hcf)) ?_
          subst hQ; subst hAe
          exact W.lret (v := lN ((zf_cost R (zm_brs N (zm_tuP P t u)) (zm_vio N (zm_tuG G t u) B) (zm_car N (zm_tuG G t u) (zm_tuP P t u)) (zm_amiles N (zm_tuG G t u) (zm_tuP P t u) X Y)).toNat)) hx hb hr (fun tz htz hWz => ⟨⟨lN ((zf_cost R (zm_brs N (zm_tuP P t u)) (zm_vio N (zm_tuG G t u) B) (zm_car N (zm_tuG G t u) (zm_tuP P t u)) (zm_amiles N (zm_tuG G t u) (zm_tuP P t u) X Y)).toNat), wvn_16, rfl, ⟨by simp only [cond_true, cond_false, Bool.and_true, Bool.and_false, Bool.true_and, Bool.false_and, e1, e2, q1, q2]; rfl, zv_all_off hva (zv_g_eq hn2.1 (zm_tu_tuG _ _ _) (zm_tu_tuP _ _ _)) (zv_off_t hnew.2 hn2.2)⟩, by rw [htz]; exact hP, hD⟩, hS.F htz⟩) hS.2.2 dX8_would_42
        · skip
          exact absurd cn_6 (by decide)
      · skip
        have e2 : zi (N / 2) w = false := zi_f hw_5
        refine zr_ti (y := nI 0) rfl ?_
        refine lv_if_ne (tgt := 20) hx hb dX8_would_13 (by decide) (fun cn_19 => ?_) (fun cn_19 => ?_)
        · skip
          exact absurd cn_19 (by decide)
        · skip
          refine lv_ldc2 (v := (-9223372036854775808)) hx hb hown (hts (.constantLong RX8 247 (-9223372036854775808)) (by decide +kernel)) dX8_would_16 ?_
          subst hQ; subst hAe
          exact W.lret (v := (-9223372036854775808)) hx hb hr (fun tz htz hWz => ⟨⟨(-9223372036854775808), wv, rfl, ⟨by first | (simp only [cond_true, cond_false, Bool.and_true, Bool.and_false, Bool.true_and, Bool.false_and, e1]; done) | (simp only [cond_true, cond_false, Bool.and_true, Bool.and_false, Bool.true_and, Bool.false_and, e1, e2]; done), hva⟩, by rw [htz]; exact hP, hD⟩, hS.F htz⟩) hS.2.2 dX8_would_19
  · skip
    have e1 : zi (N - 1) v = false := zi_f hw_2
    refine zr_ti (y := nI 0) rfl ?_
    refine lv_if_eq (tgt := 16) hx hb dX8_would_5 (by decide) (fun cn_20 => ?_) (fun cn_20 => ?_)
    · skip
      refine lv_ldc2 (v := (-9223372036854775808)) hx hb hown (hts (.constantLong RX8 247 (-9223372036854775808)) (by decide +kernel)) dX8_would_16 ?_
      subst hQ; subst hAe
      exact W.lret (v := (-9223372036854775808)) hx hb hr (fun tz htz hWz => ⟨⟨(-9223372036854775808), wv, rfl, ⟨by first | (simp only [cond_true, cond_false, Bool.and_true, Bool.and_false, Bool.true_and, Bool.false_and, e1]; done) | (simp only [cond_true, cond_false, Bool.and_true, Bool.and_false, Bool.true_and, Bool.false_and, e1, e2]; done), hva⟩, by rw [htz]; exact hP, hD⟩, hS.F htz⟩) hS.2.2 dX8_would_19
    · skip
      exact absurd cn_20 (by decide)

set_option maxHeartbeats 4000000 in
set_option maxRecDepth 100000 in
theorem c_X8_spread (l : Launch) (D : va_G) (E : Nat → ClassId) (m0 : Nat) (w0 : Nat) (w1 : Nat) (w2 : Nat) (w3 : Nat) (w4 : Nat) (w5 : Nat) (w6 : Nat) (w7 : Nat) (w8 : Nat) (w9 : Nat) (ik : Int32) (tx : Nat) (he : Int32) (fa : Int32) (cl : Nat) (wv : Nat → Int32) (N : Nat) (G : Nat → Nat → Nat) (P : Nat → Nat → Nat) (X : Nat → Nat) (Y : Nat → Nat) (B : Nat → Nat → Nat) (R : Nat → Nat) (kd : Nat) (sn : Nat) (sT : Nat → Nat) (sR : Nat → Nat) (sH : Nat → Nat) (en : Nat) (eW : Nat → Nat) (eN : Nat → Nat) (bn : Nat) (bT : Nat → Nat) (bN : Nat → Nat) (v : Int32) (hva : zv_all N G P X Y B R kd sn sT sR sH en eW eN bn bT bN wv) (hzs : zs_all N kd sn sT sR sH en eW eN bn bT bN) : Met l yX8_spread wsX8_spread ({ frames := 5, cells := 0, slots := 0, locals := 114 }) (zr_P D E [.ref m0, .int v] [(m0, .inr (6, [.ref w0, .ref w1, .ref w2, .int ik, .ref w3, .int (nI tx), .int he, .int fa, .ref w4, .ref w5, .int (nI cl), .ref w6, .ref w7, .ref w8, .ref w9])), (w0, .inl (E 0, 137, .inl wv))]) (zr_Ql (fun zv => zv = cond (zi 2 v) (zo_part (zf_spread (fun t => zf_wear (zm_way G P X Y t) (N - 1)) N) (zq v)) (-9223372036854775808))) 0 0 (fun _ => False) := by
  refine Met.ofW (cc := cX8_spread) (maxL := 9) (ret := (some .long)) (by decide) rfl ?_
  intro p e s m args below meth c s₁ Bz hml hv
  obtain ⟨rfl, hP, hK⟩ := hv
  have hx := Bz.exec
  have hb := Bz.bytes
  have hr := Bz.returns
  have hts := atoms_spec (ws := wsX8_spread) Bz.pre
  have hown : s.vm.findClass RX8 = some m.cls := findClass_of_methodNamed Bz.named
  have hlocks := Bz.notSynchronized
  have hP : va_P D vwCl [(m0, .inr (6, [.ref w0, .ref w1, .ref w2, .int ik, .ref w3, .int (nI tx), .int he, .int fa, .ref w4, .ref w5, .int (nI cl), .ref w6, .ref w7, .ref w8, .ref w9])), (w0, .inl (E 0, 137, .inl wv))] s.heap := hP
  have hS : va_S (fun _ : Nat => False) s.heap s.heap [] := va_S.rf
  have hl := lv_entry ([.ref m0, .int v]) (n := 9) (Nat.le_of_ble_eq_true rfl)
  rw [lg_entry_eq]
  generalize (lg_sl ([.ref m0, .int v]) ++ List.replicate (9 - (lg_sl ([.ref m0, .int v])).length) Slot.unset).toArray = ls at hl ⊢
  have hl : lv_has ls 9 [(0, .ref m0), (1, .int v)] := hl
  refine zr_nQ (fun Q hQ => ?_)
  obtain ⟨hvg, hxy, hvb, hvr, hkv, hzc, hze, hzb, hn6, hn8, hm8⟩ := id hva
  obtain ⟨hkd, hse, hev, hbo⟩ := id hzs
  have hok := hvg.1
  have hN := hok.1
  have hvn := hvg.2.1
  have hgr := zm_gr_of hxy
  have hu : ∀ j, j < N → zf_F 120 150 ((fun t => zf_wear (zm_way G P X Y t) (N - 1)) j) := fun j hj => (zf_wearF (w := zm_way G P X Y j) (N - 1) (by omega) (fun r hr => zm_way_le hok hgr (t := j) (r := r) hj (by omega))).mono (by omega) (by omega)
  refine lv_iload_n hx hb dX8_spread_0 rfl (lv_at hl 1 rfl) ?_
  refine lv_iconst (v := nI 0) hx hb dX8_spread_1 (by rfl) ?_
  refine lv_iconst (v := nI 1) hx hb dX8_spread_2 (by rfl) ?_
  refine zr_ci hP hS (va_runS (As := [.int v, .int (nI 0), .int (nI 1)]) (rest := []) ⟨hx, hb, hml, hown, hts⟩ (c_X8_isIn l D E v (nI 0) (nI 1) ) (va_cwS 3 hts gX8_spread_X8_isIn rfl rfl rfl (by decide +kernel) ⟨Nat.le_of_ble_eq_true rfl, Nat.le_of_ble_eq_true rfl⟩) (zr_S hK (hP.sub (ws' := []) [] rfl)) rfl rfl hl.1 rfl (lv_room (Nat.le_of_ble_eq_true rfl)) dX8_spread_3 ⟨Nat.zero_le _, Nat.zero_le _⟩) (fun r_1 H locs hw_2 hP hS => ?_)
  rcases hw_2 with ⟨rfl, hw_2⟩ | ⟨rfl, hw_2⟩
  · skip
    obtain ⟨t, ht, v_e⟩ := zn_in3 (n := 2) (by omega) (by omega) hw_2.1 hw_2.2
    have e1 : zi 2 v = true := v_e ▸ zi_t ht (by omega)
    have q1 : zq v = t := v_e ▸ zq_t (by omega)
    rw [v_e] at hl
    refine zr_ti (y := nI 1) rfl ?_
    refine lv_if_ne (tgt := 13) hx hb dX8_spread_6 (by decide) (fun cn_3 => ?_) (fun cn_3 => ?_)
    · skip
      refine lv_dconst0 hx hb dX8_spread_13 ?_
      refine lv_dstore_n (lv' := [(2, .double FP.dconst0), (0, .ref m0), (1, .int (nI t))]) hx hb dX8_spread_14 rfl hl (by decide) rfl (fun ls hl => ?_)
      refine lv_iconst (v := nI 0) hx hb dX8_spread_15 (by rfl) ?_
      refine lv_istore (lv' := [(4, .int (nI 0)), (2, .double FP.dconst0), (0, .ref m0), (1, .int (nI t))]) hx hb dX8_spread_16 hl (by decide) rfl (fun ls hl => ?_)
      suffices KL18 : ∀ (kz : Nat) (i : Nat) (H : Heap) (locs : List Loc) (ls : Array Slot), (N - i) < kz → (i ≤ N) → va_P D vwCl [(m0, .inr (6, [.ref w0, .ref w1, .ref w2, .int ik, .ref w3, .int (nI tx), .int he, .int fa, .ref w4, .ref w5, .int (nI cl), .ref w6, .ref w7, .ref w8, .ref w9])), (w0, .inl (E 0, 137, .inl wv))] H → va_S (fun _ : Nat => False) s.heap H locs → lv_has ls 9 [(0, .ref m0), (1, .int (nI t)), (2, .double (zf_ds (fun t => zf_wear (zm_way G P X Y t) (N - 1)) i)), (4, .int (nI i))] → W p l e (headSpec wsX8_spread ({ frames := 5, cells := 0, slots := 0, locals := 114 })).room s m ([.ref m0, .int v] : List Value).toArray below meth c H locs 0 0 Q (F0 m 18 ls []) from
        KL18 _ 0 _ _ ls (Nat.lt_succ_self _) (by omega) hP hS (lv_sub hl [2, 3, 1, 0] rfl)
      clear hP hS hl
      intro kz
      induction kz with
      | zero => intro i H locs ls hkz; exact absurd hkz (Nat.not_lt_zero _)
      | succ kz ih18 =>
        intro i H locs ls hkz hi hP hS hl
        refine lv_iload hx hb dX8_spread_18 (lv_at hl 3 rfl) ?_
        refine lv_aload_n hx hb dX8_spread_20 rfl (lv_at hl 0 rfl) ?_
        refine va_get (D := D) (ci := 6) (v := .ref w0) (C := RX8) (T := TX8) (N := 15) hx hb hts (by decide +kernel) hown hK.1 hP 0 rfl rfl 0 (by decide) (hts (.fieldLink RX8 11 "HomeRoundsModel" "w" "[I") (by decide +kernel)) (fun _ h9 => h9) rfl dX8_spread_21 ?_
        refine lv_iconst (v := nI 0) hx hb dX8_spread_24 (by rfl) ?_
        refine va_iald hx hb hK.1 hP 1 0 rfl rfl (vp_in_nI (by omega) (by omega)) dX8_spread_25 ?_
        refine zr_ti (y := nI N) ((congrArg wv (nI_clamp (by omega))).trans (hvn)) ?_
        refine lv_icmp_ge (tgt := 51) hx hb dX8_spread_26 (by decide) (fun cn_4 => ?_) (fun cn_4 => ?_)
        · skip
          have cn_4 : N ≤ i := (nI_leI (a := N) (b := i) (by omega) (by omega)).mp cn_4
          have hie : i = N := by omega
          refine lv_dload_n hx hb dX8_spread_51 rfl (lv_at hl 2 rfl) ?_
          refine lv_aload_n hx hb dX8_spread_52 rfl (lv_at hl 0 rfl) ?_
          refine va_get (D := D) (ci := 6) (v := .ref w0) (C := RX8) (T := TX8) (N := 15) hx hb hts (by decide +kernel) hown hK.1 hP 0 rfl rfl 0 (by decide) (hts (.fieldLink RX8 11 "HomeRoundsModel" "w" "[I") (by decide +kernel)) (fun _ h9 => h9) rfl dX8_spread_53 ?_
          refine lv_iconst (v := nI 0) hx hb dX8_spread_56 (by rfl) ?_
          refine va_iald hx hb hK.1 hP 1 0 rfl rfl (vp_in_nI (by omega) (by omega)) dX8_spread_57 ?_
          refine zr_ti (y := nI N) ((congrArg wv (nI_clamp (by omega))).trans (hvn)) ?_
          refine lv_i2d hx hb dX8_spread_58 ?_
          refine lv_ddiv hx hb dX8_spread_59 (by rw [hie]; exact (zf_meanD (u := (fun t => zf_wear (zm_way G P X Y t) (N - 1))) hN hu).nn) ?_
          refine zr_td (y := zf_mean (fun t => zf_wear (zm_way G P X Y t) (N - 1)) N) (by rw [hie]; rfl) ?_
          refine lv_dstore_n (lv' := [(2, .double (zf_mean (fun t => zf_wear (zm_way G P X Y t) (N - 1)) N)), (0, .ref m0), (1, .int (nI t)), (4, .int (nI i))]) hx hb dX8_spread_60 rfl hl (by decide) rfl (fun ls hl => ?_)
          refine lv_dconst0 hx hb dX8_spread_61 ?_
          refine lv_dstore (lv' := [(4, .double FP.dconst0), (2, .double (zf_mean (fun t => zf_wear (zm_way G P X Y t) (N - 1)) N)), (0, .ref m0), (1, .int (nI t))]) hx hb dX8_spread_62 hl (by decide) rfl (fun ls hl => ?_)
          refine lv_iconst (v := nI 0) hx hb dX8_spread_64 (by rfl) ?_
          refine lv_istore (lv' := [(6, .int (nI 0)), (4, .double FP.dconst0), (2, .double (zf_mean (fun t => zf_wear (zm_way G P X Y t) (N - 1)) N)), (0, .ref m0), (1, .int (nI t))]) hx hb dX8_spread_65 hl (by decide) rfl (fun ls hl => ?_)
          suffices KL67 : ∀ (kz : Nat) (k : Nat) (H : Heap) (locs : List Loc) (ls : Array Slot), (N - k) < kz → (k ≤ N) → va_P D vwCl [(m0, .inr (6, [.ref w0, .ref w1, .ref w2, .int ik, .ref w3, .int (nI tx), .int he, .int fa, .ref w4, .ref w5, .int (nI cl), .ref w6, .ref w7, .ref w8, .ref w9])), (w0, .inl (E 0, 137, .inl wv))] H → va_S (fun _ : Nat => False) s.heap H locs → lv_has ls 9 [(0, .ref m0), (1, .int (nI t)), (2, .double (zf_mean (fun t => zf_wear (zm_way G P X Y t) (N - 1)) N)), (4, .double (zf_dv (fun t => zf_wear (zm_way G P X Y t) (N - 1)) N k)), (6, .int (nI k))] → W p l e (headSpec wsX8_spread ({ frames := 5, cells := 0, slots := 0, locals := 114 })).room s m ([.ref m0, .int v] : List Value).toArray below meth c H locs 0 0 Q (F0 m 67 ls []) from
            KL67 _ 0 _ _ ls (Nat.lt_succ_self _) (by omega) hP hS (lv_sub hl [3, 4, 2, 1, 0] rfl)
          clear hP hS hl
          intro kz
          induction kz with
          | zero => intro k H locs ls hkz; exact absurd hkz (Nat.not_lt_zero _)
          | succ kz ih67 =>
            intro k H locs ls hkz hk hP hS hl
            refine lv_iload hx hb dX8_spread_67 (lv_at hl 4 rfl) ?_
            refine lv_aload_n hx hb dX8_spread_69 rfl (lv_at hl 0 rfl) ?_
            refine va_get (D := D) (ci := 6) (v := .ref w0) (C := RX8) (T := TX8) (N := 15) hx hb hts (by decide +kernel) hown hK.1 hP 0 rfl rfl 0 (by decide) (hts (.fieldLink RX8 11 "HomeRoundsModel" "w" "[I") (by decide +kernel)) (fun _ h9 => h9) rfl dX8_spread_70 ?_
            refine lv_iconst (v := nI 0) hx hb dX8_spread_73 (by rfl) ?_
            refine va_iald hx hb hK.1 hP 1 0 rfl rfl (vp_in_nI (by omega) (by omega)) dX8_spread_74 ?_
            refine zr_ti (y := nI N) ((congrArg wv (nI_clamp (by omega))).trans (hvn)) ?_
            refine lv_icmp_ge (tgt := 111) hx hb dX8_spread_75 (by decide) (fun cn_5 => ?_) (fun cn_5 => ?_)
            · skip
              have cn_5 : N ≤ k := (nI_leI (a := N) (b := k) (by omega) (by omega)).mp cn_5
              have hke : k = N := by omega
              refine lv_dload hx hb dX8_spread_111 (lv_at hl 3 rfl) ?_
              refine lv_aload_n hx hb dX8_spread_113 rfl (lv_at hl 0 rfl) ?_
              refine va_get (D := D) (ci := 6) (v := .ref w0) (C := RX8) (T := TX8) (N := 15) hx hb hts (by decide +kernel) hown hK.1 hP 0 rfl rfl 0 (by decide) (hts (.fieldLink RX8 11 "HomeRoundsModel" "w" "[I") (by decide +kernel)) (fun _ h9 => h9) rfl dX8_spread_114 ?_
              refine lv_iconst (v := nI 0) hx hb dX8_spread_117 (by rfl) ?_
              refine va_iald hx hb hK.1 hP 1 0 rfl rfl (vp_in_nI (by omega) (by omega)) dX8_spread_118 ?_
              refine zr_ti (y := nI N) ((congrArg wv (nI_clamp (by omega))).trans (hvn)) ?_
              refine lv_i2d hx hb dX8_spread_119 ?_
              refine lv_ddiv hx hb dX8_spread_120 (by rw [hke]; exact (zf_spreadD (u := (fun t => zf_wear (zm_way G P X Y t) (N - 1))) hN hu).nn) ?_
              refine zr_td (y := zf_spread (fun t => zf_wear (zm_way G P X Y t) (N - 1)) N) (by rw [hke]; rfl) ?_
              refine zr_cl hP hS (va_runS (As := [.double (zf_spread (fun t => zf_wear (zm_way G P X Y t) (N - 1)) N)]) (rest := []) ⟨hx, hb, hml, hown, hts⟩ (c_Jxe99ae_doubleToLongBits_ccdee l D E (zf_spread (fun t => zf_wear (zm_way G P X Y t) (N - 1)) N) 894 1108 ((zf_spreadD (u := (fun t => zf_wear (zm_way G P X Y t) (N - 1))) hN hu))) (va_cwS 1 hts gX8_spread_Jxe99ae_doubleToLongBits_ccdee rfl rfl rfl (by decide +kernel) ⟨Nat.le_of_ble_eq_true rfl, Nat.le_of_ble_eq_true rfl⟩) (zr_S hK (hP.sub (ws' := []) [] rfl)) rfl rfl hl.1 rfl (lv_room (Nat.le_of_ble_eq_true rfl)) dX8_spread_121 ⟨Nat.zero_le _, Nat.zero_le _⟩) (fun r_6 H locs hw_7 hP hS => ?_)
              subst hw_7
              refine lv_lstore (lv' := [(6, .long (lN (zf_spread (fun t => zf_wear (zm_way G P X Y t) (N - 1)) N).toNat)), (0, .ref m0), (1, .int (nI t)), (2, .double (zf_mean (fun t => zf_wear (zm_way G P X Y t) (N - 1)) N)), (4, .double (zf_dv (fun t => zf_wear (zm_way G P X Y t) (N - 1)) N k))]) hx hb dX8_spread_124 hl (by decide) rfl (fun ls hl => ?_)
              refine lv_iload_n hx hb dX8_spread_126 rfl (lv_at hl 2 rfl) ?_
              refine lv_if_ne (tgt := 138) hx hb dX8_spread_127 (by decide) (fun cn_8 => ?_) (fun cn_8 => ?_)
              · skip
                have cn_8 : ¬ (t = 0) := fun hz => cn_8 ((nI_eq (a := t) (b := 0) (by omega) (by omega)).mpr hz)
                have ht1 : t = 1 := by omega
                refine lv_lload hx hb dX8_spread_138 (lv_at hl 0 rfl) ?_
                refine lv_ldc2 (v := (4294967295)) hx hb hown (hts (.constantLong RX8 263 (4294967295)) (by decide +kernel)) dX8_spread_140 ?_
                refine lv_land hx hb dX8_spread_143 ?_
                subst hQ
                exact W.lret (v := (lN (zf_spread (fun t => zf_wear (zm_way G P X Y t) (N - 1)) N).toNat) &&& (4294967295)) hx hb hr (fun tz htz hWz => ⟨⟨(lN (zf_spread (fun t => zf_wear (zm_way G P X Y t) (N - 1)) N).toNat) &&& (4294967295), (), rfl, by first | (simp only [cond_true, cond_false, Bool.and_true, Bool.and_false, Bool.true_and, Bool.false_and, e1, q1]; rw [ht0]; rfl; done) | (simp only [cond_true, cond_false, Bool.and_true, Bool.and_false, Bool.true_and, Bool.false_and, e1, q1]; rw [ht1]; rfl; done), trivial⟩, hS.F htz⟩) hS.2.2 dX8_spread_144
              · skip
                have cn_8 : t = 0 := (nI_eq (a := t) (b := 0) (by omega) (by omega)).mp cn_8
                have ht0 : t = 0 := by omega
                refine lv_lload hx hb dX8_spread_130 (lv_at hl 0 rfl) ?_
                refine lv_bipush (v := nI 32) hx hb dX8_spread_132 (by rfl) ?_
                refine lv_lushr (v := ((lN (zf_spread (fun t => zf_wear (zm_way G P X Y t) (N - 1)) N).toNat).toUInt64 >>> ((nI 32).toInt64.toUInt64 &&& Int64.toUInt64 63)).toInt64) hx hb dX8_spread_134 (rfl) ?_
                refine lv_goto (tgt := 144) hx hb dX8_spread_135 (by decide) ?_
                subst hQ
                exact W.lret (v := ((lN (zf_spread (fun t => zf_wear (zm_way G P X Y t) (N - 1)) N).toNat).toUInt64 >>> ((nI 32).toInt64.toUInt64 &&& Int64.toUInt64 63)).toInt64) hx hb hr (fun tz htz hWz => ⟨⟨((lN (zf_spread (fun t => zf_wear (zm_way G P X Y t) (N - 1)) N).toNat).toUInt64 >>> ((nI 32).toInt64.toUInt64 &&& Int64.toUInt64 63)).toInt64, (), rfl, by first | (simp only [cond_true, cond_false, Bool.and_true, Bool.and_false, Bool.true_and, Bool.false_and, e1, q1]; rw [ht0]; rfl; done) | (simp only [cond_true, cond_false, Bool.and_true, Bool.and_false, Bool.true_and, Bool.false_and, e1, q1]; rw [ht1]; rfl; done), trivial⟩, hS.F htz⟩) hS.2.2 dX8_spread_144
            · skip
              have cn_5 : ¬ (N ≤ k) := fun hz => cn_5 ((nI_leI (a := N) (b := k) (by omega) (by omega)).mpr hz)
              have hkk : k < N := by omega
              refine lv_aload_n hx hb dX8_spread_78 rfl (lv_at hl 0 rfl) ?_
              refine lv_iload hx hb dX8_spread_79 (lv_at hl 4 rfl) ?_
              refine lv_aload_n hx hb dX8_spread_81 rfl (lv_at hl 0 rfl) ?_
              refine zr_ci hP hS (va_runV (As := []) (rest := [.int (nI k), .ref m0]) ⟨hx, hb, hml, hown, hts⟩ (c_X8_rounds l D E m0 w0 w1 w2 w3 w4 w5 w6 w7 w8 w9 ik tx he fa cl wv N (hvn) (hN)) (cwV 0 hts gX8_spread_X8_rounds rfl rfl rfl (by decide +kernel) ⟨Nat.le_of_ble_eq_true rfl, Nat.le_of_ble_eq_true rfl⟩) (zr_V hK (hP.sub (ws' := [(m0, .inr (6, [.ref w0, .ref w1, .ref w2, .int ik, .ref w3, .int (nI tx), .int he, .int fa, .ref w4, .ref w5, .int (nI cl), .ref w6, .ref w7, .ref w8, .ref w9])), (w0, .inl (E 0, 137, .inl wv))]) [0, 1] rfl) (ci := 6) (q0 := 0) rfl rfl) rfl rfl hl.1 rfl (lv_room (Nat.le_of_ble_eq_true rfl)) dX8_spread_82 ⟨Nat.zero_le _, Nat.zero_le _⟩) (fun r_9 H locs hw_10 hP hS => ?_)
              subst hw_10
              refine lv_iconst (v := nI 1) hx hb dX8_spread_85 (by rfl) ?_
              refine lv_isub hx hb dX8_spread_86 ?_
              refine zr_ti (y := nI ((N - 1) - 1)) (pk_sub (by omega)) ?_
              refine zr_cf hP hS (va_runV (As := [.int (nI k), .int (nI ((N - 1) - 1))]) (rest := []) ⟨hx, hb, hml, hown, hts⟩ (c_X8_wearOf l D E m0 w0 w1 w2 w3 w4 w5 w6 w7 w8 w9 ik tx he fa cl wv N G P X Y k (N - 1 - 1) (hvg) (hxy) (by omega) (by omega)) (cwV 2 hts gX8_spread_X8_wearOf rfl rfl rfl (by decide +kernel) ⟨Nat.le_of_ble_eq_true rfl, Nat.le_of_ble_eq_true rfl⟩) (zr_V hK (hP.sub (ws' := [(m0, .inr (6, [.ref w0, .ref w1, .ref w2, .int ik, .ref w3, .int (nI tx), .int he, .int fa, .ref w4, .ref w5, .int (nI cl), .ref w6, .ref w7, .ref w8, .ref w9])), (w0, .inl (E 0, 137, .inl wv))]) [0, 1] rfl) (ci := 6) (q0 := 0) rfl rfl) rfl rfl hl.1 rfl (lv_room (Nat.le_of_ble_eq_true rfl)) dX8_spread_87 ⟨Nat.zero_le _, Nat.zero_le _⟩) (fun r_11 H locs hw_12 hP hS => ?_)
              subst hw_12
              refine zr_tf (y := zf_wear (zm_way G P X Y k) (N - 1)) (by rw [show N - 1 - 1 + 1 = N - 1 from by omega]) ?_
              refine lv_f2d hx hb dX8_spread_90 ((zf_f2dD (hu k hkk)).nn) ?_
              refine lv_dload_n hx hb dX8_spread_91 rfl (lv_at hl 2 rfl) ?_
              refine lv_dsub hx hb dX8_spread_92 ((zf_offS (u := (fun t => zf_wear (zm_way G P X Y t) (N - 1))) hN hu hkk).nn) ?_
              refine zr_td (y := zf_off (fun t => zf_wear (zm_way G P X Y t) (N - 1)) N k) (rfl) ?_
              refine lv_dstore (lv' := [(7, .double (zf_off (fun t => zf_wear (zm_way G P X Y t) (N - 1)) N k)), (0, .ref m0), (1, .int (nI t)), (2, .double (zf_mean (fun t => zf_wear (zm_way G P X Y t) (N - 1)) N)), (4, .double (zf_dv (fun t => zf_wear (zm_way G P X Y t) (N - 1)) N k)), (6, .int (nI k))]) hx hb dX8_spread_93 hl (by decide) rfl (fun ls hl => ?_)
              refine lv_dload hx hb dX8_spread_95 (lv_at hl 4 rfl) ?_
              refine lv_dload hx hb dX8_spread_97 (lv_at hl 0 rfl) ?_
              refine lv_dload hx hb dX8_spread_99 (lv_at hl 0 rfl) ?_
              refine lv_dmul hx hb dX8_spread_101 ((zf_dsq (zf_offS (u := (fun t => zf_wear (zm_way G P X Y t) (N - 1))) hN hu hkk) (by omega) (by omega)).nn) ?_
              refine lv_dadd hx hb dX8_spread_102 ((zf_dvD (u := (fun t => zf_wear (zm_way G P X Y t) (N - 1))) hN hu (k + 1) (by omega)).nn) ?_
              refine zr_td (y := zf_dv (fun t => zf_wear (zm_way G P X Y t) (N - 1)) N (k + 1)) (rfl) ?_
              refine lv_dstore (lv' := [(4, .double (zf_dv (fun t => zf_wear (zm_way G P X Y t) (N - 1)) N (k + 1))), (7, .double (zf_off (fun t => zf_wear (zm_way G P X Y t) (N - 1)) N k)), (0, .ref m0), (1, .int (nI t)), (2, .double (zf_mean (fun t => zf_wear (zm_way G P X Y t) (N - 1)) N)), (6, .int (nI k))]) hx hb dX8_spread_103 hl (by decide) rfl (fun ls hl => ?_)
              refine lv_iinc (v := nI (k + 1)) (lv' := [(6, .int (nI (k + 1))), (4, .double (zf_dv (fun t => zf_wear (zm_way G P X Y t) (N - 1)) N (k + 1))), (7, .double (zf_off (fun t => zf_wear (zm_way G P X Y t) (N - 1)) N k)), (0, .ref m0), (1, .int (nI t)), (2, .double (zf_mean (fun t => zf_wear (zm_way G P X Y t) (N - 1)) N))]) hx hb dX8_spread_105 hl (k := 5) rfl (nI_add _ _) (by decide) rfl (fun ls hl => ?_)
              refine lv_goto (tgt := 67) hx hb dX8_spread_108 (by decide) ?_
              have hl : lv_has ls 9 [(0, .ref m0), (1, .int (nI t)), (2, .double (zf_mean (fun t => zf_wear (zm_way G P X Y t) (N - 1)) N)), (4, .double (zf_dv (fun t => zf_wear (zm_way G P X Y t) (N - 1)) N (k + 1))), (6, .int (nI (k + 1)))] := lv_sub hl [3, 4, 5, 1, 0] rfl
              exact ih67 (k + 1) H locs ls (by omega) (by omega) hP hS hl
        · skip
          have cn_4 : ¬ (N ≤ i) := fun hz => cn_4 ((nI_leI (a := N) (b := i) (by omega) (by omega)).mpr hz)
          have hii : i < N := by omega
          refine lv_dload_n hx hb dX8_spread_29 rfl (lv_at hl 2 rfl) ?_
          refine lv_aload_n hx hb dX8_spread_30 rfl (lv_at hl 0 rfl) ?_
          refine lv_iload hx hb dX8_spread_31 (lv_at hl 3 rfl) ?_
          refine lv_aload_n hx hb dX8_spread_33 rfl (lv_at hl 0 rfl) ?_
          refine zr_ci hP hS (va_runV (As := []) (rest := [.int (nI i), .ref m0, .double (zf_ds (fun t => zf_wear (zm_way G P X Y t) (N - 1)) i)]) ⟨hx, hb, hml, hown, hts⟩ (c_X8_rounds l D E m0 w0 w1 w2 w3 w4 w5 w6 w7 w8 w9 ik tx he fa cl wv N (hvn) (hN)) (cwV 0 hts gX8_spread_X8_rounds rfl rfl rfl (by decide +kernel) ⟨Nat.le_of_ble_eq_true rfl, Nat.le_of_ble_eq_true rfl⟩) (zr_V hK (hP.sub (ws' := [(m0, .inr (6, [.ref w0, .ref w1, .ref w2, .int ik, .ref w3, .int (nI tx), .int he, .int fa, .ref w4, .ref w5, .int (nI cl), .ref w6, .ref w7, .ref w8, .ref w9])), (w0, .inl (E 0, 137, .inl wv))]) [0, 1] rfl) (ci := 6) (q0 := 0) rfl rfl) rfl rfl hl.1 rfl (lv_room (Nat.le_of_ble_eq_true rfl)) dX8_spread_34 ⟨Nat.zero_le _, Nat.zero_le _⟩) (fun r_13 H locs hw_14 hP hS => ?_)
          subst hw_14
          refine lv_iconst (v := nI 1) hx hb dX8_spread_37 (by rfl) ?_
          refine lv_isub hx hb dX8_spread_38 ?_
          refine zr_ti (y := nI ((N - 1) - 1)) (pk_sub (by omega)) ?_
          refine zr_cf hP hS (va_runV (As := [.int (nI i), .int (nI ((N - 1) - 1))]) (rest := [.double (zf_ds (fun t => zf_wear (zm_way G P X Y t) (N - 1)) i)]) ⟨hx, hb, hml, hown, hts⟩ (c_X8_wearOf l D E m0 w0 w1 w2 w3 w4 w5 w6 w7 w8 w9 ik tx he fa cl wv N G P X Y i (N - 1 - 1) (hvg) (hxy) (by omega) (by omega)) (cwV 2 hts gX8_spread_X8_wearOf rfl rfl rfl (by decide +kernel) ⟨Nat.le_of_ble_eq_true rfl, Nat.le_of_ble_eq_true rfl⟩) (zr_V hK (hP.sub (ws' := [(m0, .inr (6, [.ref w0, .ref w1, .ref w2, .int ik, .ref w3, .int (nI tx), .int he, .int fa, .ref w4, .ref w5, .int (nI cl), .ref w6, .ref w7, .ref w8, .ref w9])), (w0, .inl (E 0, 137, .inl wv))]) [0, 1] rfl) (ci := 6) (q0 := 0) rfl rfl) rfl rfl hl.1 rfl (lv_room (Nat.le_of_ble_eq_true rfl)) dX8_spread_39 ⟨Nat.zero_le _, Nat.zero_le _⟩) (fun r_15 H locs hw_16 hP hS => ?_)
          subst hw_16
          refine zr_tf (y := zf_wear (zm_way G P X Y i) (N - 1)) (by rw [show N - 1 - 1 + 1 = N - 1 from by omega]) ?_
          refine lv_f2d hx hb dX8_spread_42 ((zf_f2dD (hu i hii)).nn) ?_
          refine lv_dadd hx hb dX8_spread_43 ((zf_dsD (u := (fun t => zf_wear (zm_way G P X Y t) (N - 1))) (i + 1) (by omega) (fun j hj => hu j (by omega))).nn) ?_
          refine zr_td (y := zf_ds (fun t => zf_wear (zm_way G P X Y t) (N - 1)) (i + 1)) (rfl) ?_
          refine lv_dstore_n (lv' := [(2, .double (zf_ds (fun t => zf_wear (zm_way G P X Y t) (N - 1)) (i + 1))), (0, .ref m0), (1, .int (nI t)), (4, .int (nI i))]) hx hb dX8_spread_44 rfl hl (by decide) rfl (fun ls hl => ?_)
          refine lv_iinc (v := nI (i + 1)) (lv' := [(4, .int (nI (i + 1))), (2, .double (zf_ds (fun t => zf_wear (zm_way G P X Y t) (N - 1)) (i + 1))), (0, .ref m0), (1, .int (nI t))]) hx hb dX8_spread_45 hl (k := 3) rfl (nI_add _ _) (by decide) rfl (fun ls hl => ?_)
          refine lv_goto (tgt := 18) hx hb dX8_spread_48 (by decide) ?_
          have hl : lv_has ls 9 [(0, .ref m0), (1, .int (nI t)), (2, .double (zf_ds (fun t => zf_wear (zm_way G P X Y t) (N - 1)) (i + 1))), (4, .int (nI (i + 1)))] := lv_sub hl [2, 3, 1, 0] rfl
          exact ih18 (i + 1) H locs ls (by omega) (by omega) hP hS hl
    · skip
      exact absurd cn_3 (by decide)
  · skip
    have e1 : zi 2 v = false := zi_f (zn_out3 (n := 2) (by omega) hw_2)
    refine zr_ti (y := nI 0) rfl ?_
    refine lv_if_ne (tgt := 13) hx hb dX8_spread_6 (by decide) (fun cn_17 => ?_) (fun cn_17 => ?_)
    · skip
      exact absurd cn_17 (by decide)
    · skip
      refine lv_ldc2 (v := (-9223372036854775808)) hx hb hown (hts (.constantLong RX8 247 (-9223372036854775808)) (by decide +kernel)) dX8_spread_9 ?_
      subst hQ
      exact W.lret (v := (-9223372036854775808)) hx hb hr (fun tz htz hWz => ⟨⟨(-9223372036854775808), (), rfl, by simp only [cond_true, cond_false, Bool.and_true, Bool.and_false, Bool.true_and, Bool.false_and, e1], trivial⟩, hS.F htz⟩) hS.2.2 dX8_spread_12

