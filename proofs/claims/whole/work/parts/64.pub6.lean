set_option maxHeartbeats 4000000 in
set_option maxRecDepth 100000 in
theorem c_X8_happens_0 (l : Launch) (D : va_G) (E : Nat → ClassId) (m0 : Nat) (w0 : Nat) (w1 : Nat) (w2 : Nat) (w3 : Nat) (w4 : Nat) (w5 : Nat) (w6 : Nat) (w7 : Nat) (w8 : Nat) (w9 : Nat) (ik : Int32) (tx : Nat) (he : Int32) (fa : Int32) (cl : Nat) (wv : Nat → Int32) (N : Nat) (G : Nat → Nat → Nat) (P : Nat → Nat → Nat) (a : Nat) (b : Nat) (hvg : zv_g N G P wv) (ha0 : a < N - 1) (hb0 : b < N - 1) : Met l yX8_happens wsX8_happens ({ frames := 2, cells := 0, slots := 0, locals := 46 }) (zw_P D E [.ref m0, .int (nI 0), .int (nI a), .int (nI b)] [(m0, .inr (6, [.ref w0, .ref w1, .ref w2, .int ik, .ref w3, .int (nI tx), .int he, .int fa, .ref w4, .ref w5, .int (nI cl), .ref w6, .ref w7, .ref w8, .ref w9])), (w0, .inl (E 0, 137, .inl wv))]) (zw_Qv D [(m0, .inr (6, [.ref w0, .ref w1, .ref w2, .int ik, .ref w3, .int (nI tx), .int he, .int fa, .ref w4, .ref w5, .int (nI cl), .ref w6, .ref w7, .ref w8, .ref w9])), (w0, .inl (E 0, 137, .inl wv))] (fun (u : (Nat → Int32)) => zv_g N (zm_sw G a b) (zm_sw P a b) u ∧ zv_off wv u) (fun (u : (Nat → Int32)) => [(m0, .inr (6, [.ref w0, .ref w1, .ref w2, .int ik, .ref w3, .int (nI tx), .int he, .int fa, .ref w4, .ref w5, .int (nI cl), .ref w6, .ref w7, .ref w8, .ref w9])), (w0, .inl (E 0, 137, .inl u))])) 0 0 (zw_A [(m0, .inr (6, [.ref w0, .ref w1, .ref w2, .int ik, .ref w3, .int (nI tx), .int he, .int fa, .ref w4, .ref w5, .int (nI cl), .ref w6, .ref w7, .ref w8, .ref w9])), (w0, .inl (E 0, 137, .inl wv))]) := by
  refine Met.ofW (cc := cX8_happens) (maxL := 4) (ret := none) (by decide) rfl ?_
  intro p e s m args below meth c s₁ Bz hml hv
  obtain ⟨rfl, hP, hK, hD0⟩ := hv
  have hx := Bz.exec
  have hb := Bz.bytes
  have hr := Bz.returns
  have hts := atoms_spec (ws := wsX8_happens) Bz.pre
  have hown : s.vm.findClass RX8 = some m.cls := findClass_of_methodNamed Bz.named
  have hlocks := Bz.notSynchronized
  have hP : va_P D vwCl [(m0, .inr (6, [.ref w0, .ref w1, .ref w2, .int ik, .ref w3, .int (nI tx), .int he, .int fa, .ref w4, .ref w5, .int (nI cl), .ref w6, .ref w7, .ref w8, .ref w9])), (w0, .inl (E 0, 137, .inl wv))] s.heap := hP
  obtain ⟨A, hAe⟩ : ∃ A : Nat → Prop, A = zw_A [(m0, .inr (6, [.ref w0, .ref w1, .ref w2, .int ik, .ref w3, .int (nI tx), .int he, .int fa, .ref w4, .ref w5, .int (nI cl), .ref w6, .ref w7, .ref w8, .ref w9])), (w0, .inl (E 0, 137, .inl wv))] := ⟨_, rfl⟩
  have hD : va_D A [(m0, .inr (6, [.ref w0, .ref w1, .ref w2, .int ik, .ref w3, .int (nI tx), .int he, .int fa, .ref w4, .ref w5, .int (nI cl), .ref w6, .ref w7, .ref w8, .ref w9])), (w0, .inl (E 0, 137, .inl wv))] := hAe ▸ zw_own hD0
  have hS : va_S A s.heap s.heap [] := va_S.rf
  have hl := lv_entry ([.ref m0, .int (nI 0), .int (nI a), .int (nI b)]) (n := 4) (Nat.le_of_ble_eq_true rfl)
  rw [lg_entry_eq]
  generalize (lg_sl ([.ref m0, .int (nI 0), .int (nI a), .int (nI b)]) ++ List.replicate (4 - (lg_sl ([.ref m0, .int (nI 0), .int (nI a), .int (nI b)])).length) Slot.unset).toArray = ls at hl ⊢
  have hl : lv_has ls 4 [(0, .ref m0), (1, .int (nI 0)), (2, .int (nI a)), (3, .int (nI b))] := hl
  refine zr_nQ (fun Q hQ => ?_)
  have hok := hvg.1
  have hN := hok.1
  have hvn := hvg.2.1
  refine lv_iload_n hx hb dX8_happens_0 rfl (lv_at hl 1 rfl) ?_
  refine lv_if_ne (tgt := 13) hx hb dX8_happens_1 (by decide) (fun cn_1 => ?_) (fun cn_1 => ?_)
  · skip
    exact absurd cn_1 (by decide)
  · skip
    refine lv_aload_n hx hb dX8_happens_4 rfl (lv_at hl 0 rfl) ?_
    refine lv_iload_n hx hb dX8_happens_5 rfl (lv_at hl 2 rfl) ?_
    refine lv_iload_n hx hb dX8_happens_6 rfl (lv_at hl 3 rfl) ?_
    have hPc := hP.sub (ws' := [(m0, .inr (6, [.ref w0, .ref w1, .ref w2, .int ik, .ref w3, .int (nI tx), .int he, .int fa, .ref w4, .ref w5, .int (nI cl), .ref w6, .ref w7, .ref w8, .ref w9])), (w0, .inl (E 0, 137, .inl wv))]) [0, 1] rfl
    have hDc := hD.sub (ws' := [(m0, .inr (6, [.ref w0, .ref w1, .ref w2, .int ik, .ref w3, .int (nI tx), .int he, .int fa, .ref w4, .ref w5, .int (nI cl), .ref w6, .ref w7, .ref w8, .ref w9])), (w0, .inl (E 0, 137, .inl wv))]) [0, 1] (by decide +kernel) rfl
    have hAc := zw_AA (wc := [(m0, .inr (6, [.ref w0, .ref w1, .ref w2, .int ik, .ref w3, .int (nI tx), .int he, .int fa, .ref w4, .ref w5, .int (nI cl), .ref w6, .ref w7, .ref w8, .ref w9])), (w0, .inl (E 0, 137, .inl wv))]) hD [0, 1] rfl
    refine zw_cv hAc hS (va_runV (As := [.int (nI a), .int (nI b)]) (rest := []) ⟨hx, hb, hml, hown, hts⟩ (c_X8_swaps l D E m0 w0 w1 w2 w3 w4 w5 w6 w7 w8 w9 ik tx he fa cl wv N G P a b (hvg) (ha0) (hb0)) (cwV 2 hts gX8_happens_X8_swaps rfl rfl rfl (by decide +kernel) ⟨Nat.le_of_ble_eq_true rfl, Nat.le_of_ble_eq_true rfl⟩) (zw_V hK hPc hDc (ci := 6) (q0 := 0) rfl rfl) rfl rfl hl.1 rfl (lv_room (Nat.le_of_ble_eq_true rfl)) dX8_happens_7 ⟨Nat.zero_le _, Nat.zero_le _⟩) (fun u_4 H locs hw_3 hP1 hD1 hk1 hS => ?_)
    obtain ⟨wvn_5, rfl⟩ : ∃ z, z = u_4 := ⟨_, rfl⟩
    try dsimp only at hw_3 hP1 hD1
    obtain ⟨hP, hD⟩ := zw_join (wr := []) (w1 := [(m0, .inr (6, [.ref w0, .ref w1, .ref w2, .int ik, .ref w3, .int (nI tx), .int he, .int fa, .ref w4, .ref w5, .int (nI cl), .ref w6, .ref w7, .ref w8, .ref w9])), (w0, .inl (E 0, 137, .inl wvn_5))]) (ws' := [(m0, .inr (6, [.ref w0, .ref w1, .ref w2, .int ik, .ref w3, .int (nI tx), .int he, .int fa, .ref w4, .ref w5, .int (nI cl), .ref w6, .ref w7, .ref w8, .ref w9])), (w0, .inl (E 0, 137, .inl wvn_5))]) hP hD [0, 1] [] [0, 1] rfl rfl (by decide +kernel) (by decide +kernel) hAc hk1 hP1 hD1 (by decide +kernel) rfl
    clear hP1 hD1 hk1 hPc hDc hAc
    have hnew := hw_3
    refine lv_goto (tgt := 50) hx hb dX8_happens_10 (by decide) ?_
    subst hQ; subst hAe
    exact W.vret hx hb hr (fun tz htz hWz => ⟨⟨wvn_5, rfl, hnew, by rw [htz]; exact hP, hD⟩, hS.F htz⟩) hS.2.2 dX8_happens_50

set_option maxHeartbeats 4000000 in
set_option maxRecDepth 100000 in
theorem c_X8_happens_1 (l : Launch) (D : va_G) (E : Nat → ClassId) (m0 : Nat) (w0 : Nat) (w1 : Nat) (w2 : Nat) (w3 : Nat) (w4 : Nat) (w5 : Nat) (w6 : Nat) (w7 : Nat) (w8 : Nat) (w9 : Nat) (ik : Int32) (tx : Nat) (he : Int32) (fa : Int32) (cl : Nat) (wv : Nat → Int32) (N : Nat) (G : Nat → Nat → Nat) (P : Nat → Nat → Nat) (a : Nat) (b : Nat) (hvg : zv_g N G P wv) (ha0 : a < N - 1) (hb0 : b < N / 2) : Met l yX8_happens wsX8_happens ({ frames := 2, cells := 0, slots := 0, locals := 46 }) (zw_P D E [.ref m0, .int (nI 1), .int (nI a), .int (nI b)] [(m0, .inr (6, [.ref w0, .ref w1, .ref w2, .int ik, .ref w3, .int (nI tx), .int he, .int fa, .ref w4, .ref w5, .int (nI cl), .ref w6, .ref w7, .ref w8, .ref w9])), (w0, .inl (E 0, 137, .inl wv))]) (zw_Qv D [(m0, .inr (6, [.ref w0, .ref w1, .ref w2, .int ik, .ref w3, .int (nI tx), .int he, .int fa, .ref w4, .ref w5, .int (nI cl), .ref w6, .ref w7, .ref w8, .ref w9])), (w0, .inl (E 0, 137, .inl wv))] (fun (u : (Nat → Int32)) => zv_g N (zm_tuG G a b) (zm_tuP P a b) u ∧ zv_off wv u) (fun (u : (Nat → Int32)) => [(m0, .inr (6, [.ref w0, .ref w1, .ref w2, .int ik, .ref w3, .int (nI tx), .int he, .int fa, .ref w4, .ref w5, .int (nI cl), .ref w6, .ref w7, .ref w8, .ref w9])), (w0, .inl (E 0, 137, .inl u))])) 0 0 (zw_A [(m0, .inr (6, [.ref w0, .ref w1, .ref w2, .int ik, .ref w3, .int (nI tx), .int he, .int fa, .ref w4, .ref w5, .int (nI cl), .ref w6, .ref w7, .ref w8, .ref w9])), (w0, .inl (E 0, 137, .inl wv))]) := by
  refine Met.ofW (cc := cX8_happens) (maxL := 4) (ret := none) (by decide) rfl ?_
  intro p e s m args below meth c s₁ Bz hml hv
  obtain ⟨rfl, hP, hK, hD0⟩ := hv
  have hx := Bz.exec
  have hb := Bz.bytes
  have hr := Bz.returns
  have hts := atoms_spec (ws := wsX8_happens) Bz.pre
  have hown : s.vm.findClass RX8 = some m.cls := findClass_of_methodNamed Bz.named
  have hlocks := Bz.notSynchronized
  have hP : va_P D vwCl [(m0, .inr (6, [.ref w0, .ref w1, .ref w2, .int ik, .ref w3, .int (nI tx), .int he, .int fa, .ref w4, .ref w5, .int (nI cl), .ref w6, .ref w7, .ref w8, .ref w9])), (w0, .inl (E 0, 137, .inl wv))] s.heap := hP
  obtain ⟨A, hAe⟩ : ∃ A : Nat → Prop, A = zw_A [(m0, .inr (6, [.ref w0, .ref w1, .ref w2, .int ik, .ref w3, .int (nI tx), .int he, .int fa, .ref w4, .ref w5, .int (nI cl), .ref w6, .ref w7, .ref w8, .ref w9])), (w0, .inl (E 0, 137, .inl wv))] := ⟨_, rfl⟩
  have hD : va_D A [(m0, .inr (6, [.ref w0, .ref w1, .ref w2, .int ik, .ref w3, .int (nI tx), .int he, .int fa, .ref w4, .ref w5, .int (nI cl), .ref w6, .ref w7, .ref w8, .ref w9])), (w0, .inl (E 0, 137, .inl wv))] := hAe ▸ zw_own hD0
  have hS : va_S A s.heap s.heap [] := va_S.rf
  have hl := lv_entry ([.ref m0, .int (nI 1), .int (nI a), .int (nI b)]) (n := 4) (Nat.le_of_ble_eq_true rfl)
  rw [lg_entry_eq]
  generalize (lg_sl ([.ref m0, .int (nI 1), .int (nI a), .int (nI b)]) ++ List.replicate (4 - (lg_sl ([.ref m0, .int (nI 1), .int (nI a), .int (nI b)])).length) Slot.unset).toArray = ls at hl ⊢
  have hl : lv_has ls 4 [(0, .ref m0), (1, .int (nI 1)), (2, .int (nI a)), (3, .int (nI b))] := hl
  refine zr_nQ (fun Q hQ => ?_)
  have hok := hvg.1
  have hN := hok.1
  have hvn := hvg.2.1
  refine lv_iload_n hx hb dX8_happens_0 rfl (lv_at hl 1 rfl) ?_
  refine lv_if_ne (tgt := 13) hx hb dX8_happens_1 (by decide) (fun cn_1 => ?_) (fun cn_1 => ?_)
  · skip
    refine lv_iload_n hx hb dX8_happens_13 rfl (lv_at hl 1 rfl) ?_
    refine lv_iconst (v := nI 1) hx hb dX8_happens_14 (by rfl) ?_
    refine lv_icmp_ne (tgt := 27) hx hb dX8_happens_15 (by decide) (fun cn_2 => ?_) (fun cn_2 => ?_)
    · skip
      exact absurd cn_2 (by decide)
    · skip
      refine lv_aload_n hx hb dX8_happens_18 rfl (lv_at hl 0 rfl) ?_
      refine lv_iload_n hx hb dX8_happens_19 rfl (lv_at hl 2 rfl) ?_
      refine lv_iload_n hx hb dX8_happens_20 rfl (lv_at hl 3 rfl) ?_
      have hPc := hP.sub (ws' := [(m0, .inr (6, [.ref w0, .ref w1, .ref w2, .int ik, .ref w3, .int (nI tx), .int he, .int fa, .ref w4, .ref w5, .int (nI cl), .ref w6, .ref w7, .ref w8, .ref w9])), (w0, .inl (E 0, 137, .inl wv))]) [0, 1] rfl
      have hDc := hD.sub (ws' := [(m0, .inr (6, [.ref w0, .ref w1, .ref w2, .int ik, .ref w3, .int (nI tx), .int he, .int fa, .ref w4, .ref w5, .int (nI cl), .ref w6, .ref w7, .ref w8, .ref w9])), (w0, .inl (E 0, 137, .inl wv))]) [0, 1] (by decide +kernel) rfl
      have hAc := zw_AA (wc := [(m0, .inr (6, [.ref w0, .ref w1, .ref w2, .int ik, .ref w3, .int (nI tx), .int he, .int fa, .ref w4, .ref w5, .int (nI cl), .ref w6, .ref w7, .ref w8, .ref w9])), (w0, .inl (E 0, 137, .inl wv))]) hD [0, 1] rfl
      refine zw_cv hAc hS (va_runV (As := [.int (nI a), .int (nI b)]) (rest := []) ⟨hx, hb, hml, hown, hts⟩ (c_X8_turns l D E m0 w0 w1 w2 w3 w4 w5 w6 w7 w8 w9 ik tx he fa cl wv N G P a b (hvg) (ha0) (hb0)) (cwV 2 hts gX8_happens_X8_turns rfl rfl rfl (by decide +kernel) ⟨Nat.le_of_ble_eq_true rfl, Nat.le_of_ble_eq_true rfl⟩) (zw_V hK hPc hDc (ci := 6) (q0 := 0) rfl rfl) rfl rfl hl.1 rfl (lv_room (Nat.le_of_ble_eq_true rfl)) dX8_happens_21 ⟨Nat.zero_le _, Nat.zero_le _⟩) (fun u_5 H locs hw_4 hP1 hD1 hk1 hS => ?_)
      obtain ⟨wvn_6, rfl⟩ : ∃ z, z = u_5 := ⟨_, rfl⟩
      try dsimp only at hw_4 hP1 hD1
      obtain ⟨hP, hD⟩ := zw_join (wr := []) (w1 := [(m0, .inr (6, [.ref w0, .ref w1, .ref w2, .int ik, .ref w3, .int (nI tx), .int he, .int fa, .ref w4, .ref w5, .int (nI cl), .ref w6, .ref w7, .ref w8, .ref w9])), (w0, .inl (E 0, 137, .inl wvn_6))]) (ws' := [(m0, .inr (6, [.ref w0, .ref w1, .ref w2, .int ik, .ref w3, .int (nI tx), .int he, .int fa, .ref w4, .ref w5, .int (nI cl), .ref w6, .ref w7, .ref w8, .ref w9])), (w0, .inl (E 0, 137, .inl wvn_6))]) hP hD [0, 1] [] [0, 1] rfl rfl (by decide +kernel) (by decide +kernel) hAc hk1 hP1 hD1 (by decide +kernel) rfl
      clear hP1 hD1 hk1 hPc hDc hAc
      have hnew := hw_4
      refine lv_goto (tgt := 50) hx hb dX8_happens_24 (by decide) ?_
      subst hQ; subst hAe
      exact W.vret hx hb hr (fun tz htz hWz => ⟨⟨wvn_6, rfl, hnew, by rw [htz]; exact hP, hD⟩, hS.F htz⟩) hS.2.2 dX8_happens_50
  · skip
    exact absurd cn_1 (by decide)

set_option maxHeartbeats 4000000 in
set_option maxRecDepth 100000 in
theorem c_X8_happens_2 (l : Launch) (D : va_G) (E : Nat → ClassId) (m0 : Nat) (w0 : Nat) (w1 : Nat) (w2 : Nat) (w3 : Nat) (w4 : Nat) (w5 : Nat) (w6 : Nat) (w7 : Nat) (w8 : Nat) (w9 : Nat) (ik : Int32) (tx : Nat) (he : Int32) (fa : Int32) (cl : Nat) (wv : Nat → Int32) (N : Nat) (G : Nat → Nat → Nat) (P : Nat → Nat → Nat) (a : Nat) (b : Nat) (hvg : zv_g N G P wv) (ha0 : a < N) (hb0 : b < N) : Met l yX8_happens wsX8_happens ({ frames := 2, cells := 0, slots := 0, locals := 46 }) (zw_P D E [.ref m0, .int (nI 2), .int (nI a), .int (nI b)] [(m0, .inr (6, [.ref w0, .ref w1, .ref w2, .int ik, .ref w3, .int (nI tx), .int he, .int fa, .ref w4, .ref w5, .int (nI cl), .ref w6, .ref w7, .ref w8, .ref w9])), (w0, .inl (E 0, 137, .inl wv))]) (zw_Qv D [(m0, .inr (6, [.ref w0, .ref w1, .ref w2, .int ik, .ref w3, .int (nI tx), .int he, .int fa, .ref w4, .ref w5, .int (nI cl), .ref w6, .ref w7, .ref w8, .ref w9])), (w0, .inl (E 0, 137, .inl wv))] (fun (u : (Nat → Int32)) => zv_g N (zm_exG G a b) (zm_exP P a b) u ∧ zv_off wv u) (fun (u : (Nat → Int32)) => [(m0, .inr (6, [.ref w0, .ref w1, .ref w2, .int ik, .ref w3, .int (nI tx), .int he, .int fa, .ref w4, .ref w5, .int (nI cl), .ref w6, .ref w7, .ref w8, .ref w9])), (w0, .inl (E 0, 137, .inl u))])) 0 0 (zw_A [(m0, .inr (6, [.ref w0, .ref w1, .ref w2, .int ik, .ref w3, .int (nI tx), .int he, .int fa, .ref w4, .ref w5, .int (nI cl), .ref w6, .ref w7, .ref w8, .ref w9])), (w0, .inl (E 0, 137, .inl wv))]) := by
  refine Met.ofW (cc := cX8_happens) (maxL := 4) (ret := none) (by decide) rfl ?_
  intro p e s m args below meth c s₁ Bz hml hv
  obtain ⟨rfl, hP, hK, hD0⟩ := hv
  have hx := Bz.exec
  have hb := Bz.bytes
  have hr := Bz.returns
  have hts := atoms_spec (ws := wsX8_happens) Bz.pre
  have hown : s.vm.findClass RX8 = some m.cls := findClass_of_methodNamed Bz.named
  have hlocks := Bz.notSynchronized
  have hP : va_P D vwCl [(m0, .inr (6, [.ref w0, .ref w1, .ref w2, .int ik, .ref w3, .int (nI tx), .int he, .int fa, .ref w4, .ref w5, .int (nI cl), .ref w6, .ref w7, .ref w8, .ref w9])), (w0, .inl (E 0, 137, .inl wv))] s.heap := hP
  obtain ⟨A, hAe⟩ : ∃ A : Nat → Prop, A = zw_A [(m0, .inr (6, [.ref w0, .ref w1, .ref w2, .int ik, .ref w3, .int (nI tx), .int he, .int fa, .ref w4, .ref w5, .int (nI cl), .ref w6, .ref w7, .ref w8, .ref w9])), (w0, .inl (E 0, 137, .inl wv))] := ⟨_, rfl⟩
  have hD : va_D A [(m0, .inr (6, [.ref w0, .ref w1, .ref w2, .int ik, .ref w3, .int (nI tx), .int he, .int fa, .ref w4, .ref w5, .int (nI cl), .ref w6, .ref w7, .ref w8, .ref w9])), (w0, .inl (E 0, 137, .inl wv))] := hAe ▸ zw_own hD0
  have hS : va_S A s.heap s.heap [] := va_S.rf
  have hl := lv_entry ([.ref m0, .int (nI 2), .int (nI a), .int (nI b)]) (n := 4) (Nat.le_of_ble_eq_true rfl)
  rw [lg_entry_eq]
  generalize (lg_sl ([.ref m0, .int (nI 2), .int (nI a), .int (nI b)]) ++ List.replicate (4 - (lg_sl ([.ref m0, .int (nI 2), .int (nI a), .int (nI b)])).length) Slot.unset).toArray = ls at hl ⊢
  have hl : lv_has ls 4 [(0, .ref m0), (1, .int (nI 2)), (2, .int (nI a)), (3, .int (nI b))] := hl
  refine zr_nQ (fun Q hQ => ?_)
  have hok := hvg.1
  have hN := hok.1
  have hvn := hvg.2.1
  refine lv_iload_n hx hb dX8_happens_0 rfl (lv_at hl 1 rfl) ?_
  refine lv_if_ne (tgt := 13) hx hb dX8_happens_1 (by decide) (fun cn_1 => ?_) (fun cn_1 => ?_)
  · skip
    refine lv_iload_n hx hb dX8_happens_13 rfl (lv_at hl 1 rfl) ?_
    refine lv_iconst (v := nI 1) hx hb dX8_happens_14 (by rfl) ?_
    refine lv_icmp_ne (tgt := 27) hx hb dX8_happens_15 (by decide) (fun cn_2 => ?_) (fun cn_2 => ?_)
    · skip
      refine lv_iload_n hx hb dX8_happens_27 rfl (lv_at hl 1 rfl) ?_
      refine lv_iconst (v := nI 2) hx hb dX8_happens_28 (by rfl) ?_
      refine lv_icmp_ne (tgt := 41) hx hb dX8_happens_29 (by decide) (fun cn_3 => ?_) (fun cn_3 => ?_)
      · skip
        exact absurd cn_3 (by decide)
      · skip
        refine lv_aload_n hx hb dX8_happens_32 rfl (lv_at hl 0 rfl) ?_
        refine lv_iload_n hx hb dX8_happens_33 rfl (lv_at hl 2 rfl) ?_
        refine lv_iload_n hx hb dX8_happens_34 rfl (lv_at hl 3 rfl) ?_
        have hPc := hP.sub (ws' := [(m0, .inr (6, [.ref w0, .ref w1, .ref w2, .int ik, .ref w3, .int (nI tx), .int he, .int fa, .ref w4, .ref w5, .int (nI cl), .ref w6, .ref w7, .ref w8, .ref w9])), (w0, .inl (E 0, 137, .inl wv))]) [0, 1] rfl
        have hDc := hD.sub (ws' := [(m0, .inr (6, [.ref w0, .ref w1, .ref w2, .int ik, .ref w3, .int (nI tx), .int he, .int fa, .ref w4, .ref w5, .int (nI cl), .ref w6, .ref w7, .ref w8, .ref w9])), (w0, .inl (E 0, 137, .inl wv))]) [0, 1] (by decide +kernel) rfl
        have hAc := zw_AA (wc := [(m0, .inr (6, [.ref w0, .ref w1, .ref w2, .int ik, .ref w3, .int (nI tx), .int he, .int fa, .ref w4, .ref w5, .int (nI cl), .ref w6, .ref w7, .ref w8, .ref w9])), (w0, .inl (E 0, 137, .inl wv))]) hD [0, 1] rfl
        refine zw_cv hAc hS (va_runV (As := [.int (nI a), .int (nI b)]) (rest := []) ⟨hx, hb, hml, hown, hts⟩ (c_X8_stands l D E m0 w0 w1 w2 w3 w4 w5 w6 w7 w8 w9 ik tx he fa cl wv N G P a b (hvg) (ha0) (hb0)) (cwV 2 hts gX8_happens_X8_stands rfl rfl rfl (by decide +kernel) ⟨Nat.le_of_ble_eq_true rfl, Nat.le_of_ble_eq_true rfl⟩) (zw_V hK hPc hDc (ci := 6) (q0 := 0) rfl rfl) rfl rfl hl.1 rfl (lv_room (Nat.le_of_ble_eq_true rfl)) dX8_happens_35 ⟨Nat.zero_le _, Nat.zero_le _⟩) (fun u_6 H locs hw_5 hP1 hD1 hk1 hS => ?_)
        obtain ⟨wvn_7, rfl⟩ : ∃ z, z = u_6 := ⟨_, rfl⟩
        try dsimp only at hw_5 hP1 hD1
        obtain ⟨hP, hD⟩ := zw_join (wr := []) (w1 := [(m0, .inr (6, [.ref w0, .ref w1, .ref w2, .int ik, .ref w3, .int (nI tx), .int he, .int fa, .ref w4, .ref w5, .int (nI cl), .ref w6, .ref w7, .ref w8, .ref w9])), (w0, .inl (E 0, 137, .inl wvn_7))]) (ws' := [(m0, .inr (6, [.ref w0, .ref w1, .ref w2, .int ik, .ref w3, .int (nI tx), .int he, .int fa, .ref w4, .ref w5, .int (nI cl), .ref w6, .ref w7, .ref w8, .ref w9])), (w0, .inl (E 0, 137, .inl wvn_7))]) hP hD [0, 1] [] [0, 1] rfl rfl (by decide +kernel) (by decide +kernel) hAc hk1 hP1 hD1 (by decide +kernel) rfl
        clear hP1 hD1 hk1 hPc hDc hAc
        have hnew := hw_5
        refine lv_goto (tgt := 50) hx hb dX8_happens_38 (by decide) ?_
        subst hQ; subst hAe
        exact W.vret hx hb hr (fun tz htz hWz => ⟨⟨wvn_7, rfl, hnew, by rw [htz]; exact hP, hD⟩, hS.F htz⟩) hS.2.2 dX8_happens_50
    · skip
      exact absurd cn_2 (by decide)
  · skip
    exact absurd cn_1 (by decide)

set_option maxHeartbeats 4000000 in
set_option maxRecDepth 100000 in
theorem c_X8_happens_3 (l : Launch) (D : va_G) (E : Nat → ClassId) (m0 : Nat) (w0 : Nat) (w1 : Nat) (w2 : Nat) (w3 : Nat) (w4 : Nat) (w5 : Nat) (w6 : Nat) (w7 : Nat) (w8 : Nat) (w9 : Nat) (ik : Int32) (tx : Nat) (he : Int32) (fa : Int32) (cl : Nat) (wv : Nat → Int32) (N : Nat) (a : Nat) (b : Nat) (ha0 : a < 4) : Met l yX8_happens wsX8_happens ({ frames := 2, cells := 0, slots := 0, locals := 46 }) (zw_P D E [.ref m0, .int (nI 3), .int (nI a), .int (nI b)] [(m0, .inr (6, [.ref w0, .ref w1, .ref w2, .int ik, .ref w3, .int (nI tx), .int he, .int fa, .ref w4, .ref w5, .int (nI cl), .ref w6, .ref w7, .ref w8, .ref w9])), (w0, .inl (E 0, 137, .inl wv))]) (zw_Qv D [(m0, .inr (6, [.ref w0, .ref w1, .ref w2, .int ik, .ref w3, .int (nI tx), .int he, .int fa, .ref w4, .ref w5, .int (nI cl), .ref w6, .ref w7, .ref w8, .ref w9])), (w0, .inl (E 0, 137, .inl wv))] (fun (u : Unit) => True) (fun (u : Unit) => [(m0, .inr (6, [.ref w0, .ref w1, .ref w2, .int ik, .ref w3, .int (nI tx), .int he, .int fa, .ref w4, .ref w5, .int (nI cl), .ref w6, .ref w7, .ref w8, .ref w9])), (w0, .inl (E 0, 137, .inl (upd wv (5 + a) (nI b))))])) 0 0 (zw_A [(m0, .inr (6, [.ref w0, .ref w1, .ref w2, .int ik, .ref w3, .int (nI tx), .int he, .int fa, .ref w4, .ref w5, .int (nI cl), .ref w6, .ref w7, .ref w8, .ref w9])), (w0, .inl (E 0, 137, .inl wv))]) := by
  refine Met.ofW (cc := cX8_happens) (maxL := 4) (ret := none) (by decide) rfl ?_
  intro p e s m args below meth c s₁ Bz hml hv
  obtain ⟨rfl, hP, hK, hD0⟩ := hv
  have hx := Bz.exec
  have hb := Bz.bytes
  have hr := Bz.returns
  have hts := atoms_spec (ws := wsX8_happens) Bz.pre
  have hown : s.vm.findClass RX8 = some m.cls := findClass_of_methodNamed Bz.named
  have hlocks := Bz.notSynchronized
  have hP : va_P D vwCl [(m0, .inr (6, [.ref w0, .ref w1, .ref w2, .int ik, .ref w3, .int (nI tx), .int he, .int fa, .ref w4, .ref w5, .int (nI cl), .ref w6, .ref w7, .ref w8, .ref w9])), (w0, .inl (E 0, 137, .inl wv))] s.heap := hP
  obtain ⟨A, hAe⟩ : ∃ A : Nat → Prop, A = zw_A [(m0, .inr (6, [.ref w0, .ref w1, .ref w2, .int ik, .ref w3, .int (nI tx), .int he, .int fa, .ref w4, .ref w5, .int (nI cl), .ref w6, .ref w7, .ref w8, .ref w9])), (w0, .inl (E 0, 137, .inl wv))] := ⟨_, rfl⟩
  have hD : va_D A [(m0, .inr (6, [.ref w0, .ref w1, .ref w2, .int ik, .ref w3, .int (nI tx), .int he, .int fa, .ref w4, .ref w5, .int (nI cl), .ref w6, .ref w7, .ref w8, .ref w9])), (w0, .inl (E 0, 137, .inl wv))] := hAe ▸ zw_own hD0
  have hS : va_S A s.heap s.heap [] := va_S.rf
  have hl := lv_entry ([.ref m0, .int (nI 3), .int (nI a), .int (nI b)]) (n := 4) (Nat.le_of_ble_eq_true rfl)
  rw [lg_entry_eq]
  generalize (lg_sl ([.ref m0, .int (nI 3), .int (nI a), .int (nI b)]) ++ List.replicate (4 - (lg_sl ([.ref m0, .int (nI 3), .int (nI a), .int (nI b)])).length) Slot.unset).toArray = ls at hl ⊢
  have hl : lv_has ls 4 [(0, .ref m0), (1, .int (nI 3)), (2, .int (nI a)), (3, .int (nI b))] := hl
  refine zr_nQ (fun Q hQ => ?_)
  refine lv_iload_n hx hb dX8_happens_0 rfl (lv_at hl 1 rfl) ?_
  refine lv_if_ne (tgt := 13) hx hb dX8_happens_1 (by decide) (fun cn_1 => ?_) (fun cn_1 => ?_)
  · skip
    refine lv_iload_n hx hb dX8_happens_13 rfl (lv_at hl 1 rfl) ?_
    refine lv_iconst (v := nI 1) hx hb dX8_happens_14 (by rfl) ?_
    refine lv_icmp_ne (tgt := 27) hx hb dX8_happens_15 (by decide) (fun cn_2 => ?_) (fun cn_2 => ?_)
    · skip
      refine lv_iload_n hx hb dX8_happens_27 rfl (lv_at hl 1 rfl) ?_
      refine lv_iconst (v := nI 2) hx hb dX8_happens_28 (by rfl) ?_
      refine lv_icmp_ne (tgt := 41) hx hb dX8_happens_29 (by decide) (fun cn_3 => ?_) (fun cn_3 => ?_)
      · skip
        refine lv_aload_n hx hb dX8_happens_41 rfl (lv_at hl 0 rfl) ?_
        refine va_get (D := D) (ci := 6) (v := .ref w0) (C := RX8) (T := TX8) (N := 15) hx hb hts (by decide +kernel) hown hK.1 hP 0 rfl rfl 0 (by decide) (hts (.fieldLink RX8 11 "HomeRoundsModel" "w" "[I") (by decide +kernel)) (fun _ h9 => h9) rfl dX8_happens_42 ?_
        refine lv_iconst (v := nI 5) hx hb dX8_happens_45 (by rfl) ?_
        refine lv_iload_n hx hb dX8_happens_46 rfl (lv_at hl 2 rfl) ?_
        refine lv_iadd hx hb dX8_happens_47 ?_
        refine zr_ti (y := nI (5 + a)) (nI_add _ _) ?_
        refine lv_iload_n hx hb dX8_happens_48 rfl (lv_at hl 3 rfl) ?_
        refine va_iast hx hb hK.1 hP hD hS 1 0 rfl rfl (vp_in_nI (by omega) (by omega)) dX8_happens_49 (fun H locs hP hD hS => ?_)
        have hP : va_P D vwCl [(m0, .inr (6, [.ref w0, .ref w1, .ref w2, .int ik, .ref w3, .int (nI tx), .int he, .int fa, .ref w4, .ref w5, .int (nI cl), .ref w6, .ref w7, .ref w8, .ref w9])), (w0, .inl (E 0, 137, .inl (upd wv (nI (5 + a)).toNatClampNeg (nI b))))] H := hP
        have hD : va_D A [(m0, .inr (6, [.ref w0, .ref w1, .ref w2, .int ik, .ref w3, .int (nI tx), .int he, .int fa, .ref w4, .ref w5, .int (nI cl), .ref w6, .ref w7, .ref w8, .ref w9])), (w0, .inl (E 0, 137, .inl (upd wv (nI (5 + a)).toNatClampNeg (nI b))))] := hD
        have hcz : (upd wv (nI (5 + a)).toNatClampNeg (nI b)) = (upd wv (5 + a) (nI b)) := by rw [nI_clamp (n := 5 + a) (by omega)]
        rw [hcz] at hP hD
        subst hQ; subst hAe
        exact W.vret hx hb hr (fun tz htz hWz => ⟨⟨(), rfl, trivial, by rw [htz]; exact hP, hD⟩, hS.F htz⟩) hS.2.2 dX8_happens_50
      · skip
        exact absurd cn_3 (by decide)
    · skip
      exact absurd cn_2 (by decide)
  · skip
    exact absurd cn_1 (by decide)

set_option maxHeartbeats 4000000 in
set_option maxRecDepth 100000 in
theorem c_X8_after (l : Launch) (D : va_G) (E : Nat → ClassId) (m0 : Nat) (w0 : Nat) (w1 : Nat) (w2 : Nat) (w3 : Nat) (w4 : Nat) (w5 : Nat) (w6 : Nat) (w7 : Nat) (w8 : Nat) (w9 : Nat) (ik : Int32) (tx : Nat) (he : Int32) (fa : Int32) (cl : Nat) (wv : Nat → Int32) (N : Nat) (G : Nat → Nat → Nat) (P : Nat → Nat → Nat) (X : Nat → Nat) (Y : Nat → Nat) (B : Nat → Nat → Nat) (R : Nat → Nat) (kd : Nat) (sn : Nat) (sT : Nat → Nat) (sR : Nat → Nat) (sH : Nat → Nat) (en : Nat) (eW : Nat → Nat) (eN : Nat → Nat) (bn : Nat) (bT : Nat → Nat) (bN : Nat → Nat) (v : Int32) (mv : Nat → Int32) (hva : zv_all N G P X Y B R kd sn sT sR sH en eW eN bn bT bN wv) (hzs : zs_all N kd sn sT sR sH en eW eN bn bT bN) : Met l yX8_after wsX8_after ({ frames := 7, cells := 0, slots := 0, locals := 156 }) (zw_P D E [.ref m0, .int v] [(m0, .inr (6, [.ref w0, .ref w1, .ref w2, .int ik, .ref w3, .int (nI tx), .int he, .int fa, .ref w4, .ref w5, .int (nI cl), .ref w6, .ref w7, .ref w8, .ref w9])), (w0, .inl (E 0, 137, .inl wv)), (w2, .inl (E 0, 137, .inl mv))]) (zw_Ql D [(m0, .inr (6, [.ref w0, .ref w1, .ref w2, .int ik, .ref w3, .int (nI tx), .int he, .int fa, .ref w4, .ref w5, .int (nI cl), .ref w6, .ref w7, .ref w8, .ref w9])), (w0, .inl (E 0, 137, .inl wv)), (w2, .inl (E 0, 137, .inl mv))] (fun zv (u : (Nat → Int32) × (Nat → Int32)) => zv = cond (zi 3 v) (zo_after (zm_aR eW eN R en) B X Y N (zm_aG eW eN G en) (zm_aP eW eN P en) (zq v)) (-9223372036854775808) ∧ ∀ j, j < 137 → u.1 j = wv j) (fun (u : (Nat → Int32) × (Nat → Int32)) => [(m0, .inr (6, [.ref w0, .ref w1, .ref w2, .int ik, .ref w3, .int (nI tx), .int he, .int fa, .ref w4, .ref w5, .int (nI cl), .ref w6, .ref w7, .ref w8, .ref w9])), (w0, .inl (E 0, 137, .inl u.1)), (w2, .inl (E 0, 137, .inl u.2))])) 0 0 (zw_A [(m0, .inr (6, [.ref w0, .ref w1, .ref w2, .int ik, .ref w3, .int (nI tx), .int he, .int fa, .ref w4, .ref w5, .int (nI cl), .ref w6, .ref w7, .ref w8, .ref w9])), (w0, .inl (E 0, 137, .inl wv)), (w2, .inl (E 0, 137, .inl mv))]) := by
  refine Met.ofW (cc := cX8_after) (maxL := 4) (ret := (some .long)) (by decide) rfl ?_
  intro p e s m args below meth c s₁ Bz hml hv
  obtain ⟨rfl, hP, hK, hD0⟩ := hv
  have hx := Bz.exec
  have hb := Bz.bytes
  have hr := Bz.returns
  have hts := atoms_spec (ws := wsX8_after) Bz.pre
  have hown : s.vm.findClass RX8 = some m.cls := findClass_of_methodNamed Bz.named
  have hlocks := Bz.notSynchronized
  have hP : va_P D vwCl [(m0, .inr (6, [.ref w0, .ref w1, .ref w2, .int ik, .ref w3, .int (nI tx), .int he, .int fa, .ref w4, .ref w5, .int (nI cl), .ref w6, .ref w7, .ref w8, .ref w9])), (w0, .inl (E 0, 137, .inl wv)), (w2, .inl (E 0, 137, .inl mv))] s.heap := hP
  obtain ⟨A, hAe⟩ : ∃ A : Nat → Prop, A = zw_A [(m0, .inr (6, [.ref w0, .ref w1, .ref w2, .int ik, .ref w3, .int (nI tx), .int he, .int fa, .ref w4, .ref w5, .int (nI cl), .ref w6, .ref w7, .ref w8, .ref w9])), (w0, .inl (E 0, 137, .inl wv)), (w2, .inl (E 0, 137, .inl mv))] := ⟨_, rfl⟩
  have hD : va_D A [(m0, .inr (6, [.ref w0, .ref w1, .ref w2, .int ik, .ref w3, .int (nI tx), .int he, .int fa, .ref w4, .ref w5, .int (nI cl), .ref w6, .ref w7, .ref w8, .ref w9])), (w0, .inl (E 0, 137, .inl wv)), (w2, .inl (E 0, 137, .inl mv))] := hAe ▸ zw_own hD0
  have hS : va_S A s.heap s.heap [] := va_S.rf
  have hl := lv_entry ([.ref m0, .int v]) (n := 4) (Nat.le_of_ble_eq_true rfl)
  rw [lg_entry_eq]
  generalize (lg_sl ([.ref m0, .int v]) ++ List.replicate (4 - (lg_sl ([.ref m0, .int v])).length) Slot.unset).toArray = ls at hl ⊢
  have hl : lv_has ls 4 [(0, .ref m0), (1, .int v)] := hl
  refine zr_nQ (fun Q hQ => ?_)
  obtain ⟨hvg, hxy, hvb, hvr, hkv, hzc, hze, hzb, hn6, hn8, hm8⟩ := id hva
  obtain ⟨hkd, hse, hev, hbo⟩ := id hzs
  have hok := hvg.1
  have hN := hok.1
  have hvn := hvg.2.1
  have hgr := zm_gr_of hxy
  have hs0 := hse.1
  have hs1 := hev.1
  have hs2 := hbo.1
  refine lv_iload_n hx hb dX8_after_0 rfl (lv_at hl 1 rfl) ?_
  refine lv_iconst (v := nI 0) hx hb dX8_after_1 (by rfl) ?_
  refine lv_iconst (v := nI 2) hx hb dX8_after_2 (by rfl) ?_
  refine zr_ci hP hS (va_runS (As := [.int v, .int (nI 0), .int (nI 2)]) (rest := []) ⟨hx, hb, hml, hown, hts⟩ (c_X8_isIn l D E v (nI 0) (nI 2) ) (va_cwS 3 hts gX8_after_X8_isIn rfl rfl rfl (by decide +kernel) ⟨Nat.le_of_ble_eq_true rfl, Nat.le_of_ble_eq_true rfl⟩) (zr_S hK (hP.sub (ws' := []) [] rfl)) rfl rfl hl.1 rfl (lv_room (Nat.le_of_ble_eq_true rfl)) dX8_after_3 ⟨Nat.zero_le _, Nat.zero_le _⟩) (fun r_1 H locs hw_2 hP hS => ?_)
  rcases hw_2 with ⟨rfl, hw_2⟩ | ⟨rfl, hw_2⟩
  · skip
    obtain ⟨t, ht, v_e⟩ := zn_in3 (n := 3) (by omega) (by omega) hw_2.1 hw_2.2
    have e1 : zi 3 v = true := v_e ▸ zi_t ht (by omega)
    have q1 : zq v = t := v_e ▸ zq_t (by omega)
    rw [v_e] at hl
    refine zr_ti (y := nI 1) rfl ?_
    refine lv_if_ne (tgt := 13) hx hb dX8_after_6 (by decide) (fun cn_3 => ?_) (fun cn_3 => ?_)
    · skip
      refine lv_aload_n hx hb dX8_after_13 rfl (lv_at hl 0 rfl) ?_
      refine va_get (D := D) (ci := 6) (v := .ref w0) (C := RX8) (T := TX8) (N := 15) hx hb hts (by decide +kernel) hown hK.1 hP 0 rfl rfl 0 (by decide) (hts (.fieldLink RX8 11 "HomeRoundsModel" "w" "[I") (by decide +kernel)) (fun _ h9 => h9) rfl dX8_after_14 ?_
      refine lv_aload_n hx hb dX8_after_17 rfl (lv_at hl 0 rfl) ?_
      refine va_get (D := D) (ci := 6) (v := .ref w2) (C := RX8) (T := TX8) (N := 15) hx hb hts (by decide +kernel) hown hK.1 hP 0 rfl rfl 2 (by decide) (hts (.fieldLink RX8 18 "HomeRoundsModel" "mind" "[I") (by decide +kernel)) (fun _ h9 => h9) rfl dX8_after_18 ?_
      have hPc := hP.sub (ws' := [(w0, .inl (E 0, 137, .inl wv)), (w2, .inl (E 0, 137, .inl mv))]) [1, 2] rfl
      have hDc := hD.sub (ws' := [(w0, .inl (E 0, 137, .inl wv)), (w2, .inl (E 0, 137, .inl mv))]) [1, 2] (by decide +kernel) rfl
      have hAc := zw_AA (wc := [(w0, .inl (E 0, 137, .inl wv)), (w2, .inl (E 0, 137, .inl mv))]) hD [1, 2] rfl
      refine zw_cv hAc hS (va_runS (As := [.ref w0, .ref w2]) (rest := []) ⟨hx, hb, hml, hown, hts⟩ (c_X8_copies l D E w0 w2 wv mv ) (va_cwS 2 hts gX8_after_X8_copies rfl rfl rfl (by decide +kernel) ⟨Nat.le_of_ble_eq_true rfl, Nat.le_of_ble_eq_true rfl⟩) (zw_S hK hPc hDc) rfl rfl hl.1 rfl (lv_room (Nat.le_of_ble_eq_true rfl)) dX8_after_21 ⟨Nat.zero_le _, Nat.zero_le _⟩) (fun u_6 H locs hw_5 hP1 hD1 hk1 hS => ?_)
      obtain ⟨fb9_7, rfl⟩ : ∃ z, z = u_6 := ⟨_, rfl⟩
      try dsimp only at hw_5 hP1 hD1
      obtain ⟨hP, hD⟩ := zw_join (wr := [(m0, .inr (6, [.ref w0, .ref w1, .ref w2, .int ik, .ref w3, .int (nI tx), .int he, .int fa, .ref w4, .ref w5, .int (nI cl), .ref w6, .ref w7, .ref w8, .ref w9]))]) (w1 := [(w0, .inl (E 0, 137, .inl wv)), (w2, .inl (E 0, 137, .inl fb9_7))]) (ws' := [(m0, .inr (6, [.ref w0, .ref w1, .ref w2, .int ik, .ref w3, .int (nI tx), .int he, .int fa, .ref w4, .ref w5, .int (nI cl), .ref w6, .ref w7, .ref w8, .ref w9])), (w0, .inl (E 0, 137, .inl wv)), (w2, .inl (E 0, 137, .inl fb9_7))]) hP hD [1, 2] [0] [0, 1, 2] rfl rfl (by decide +kernel) (by decide +kernel) hAc hk1 hP1 hD1 (by decide +kernel) rfl
      clear hP1 hD1 hk1 hPc hDc hAc
      have hcp := hw_5
      refine lv_iconst (v := nI 0) hx hb dX8_after_24 (by rfl) ?_
      refine lv_istore_n (lv' := [(2, .int (nI 0)), (0, .ref m0), (1, .int (nI t))]) hx hb dX8_after_25 rfl hl (by decide) rfl (fun ls hl => ?_)
      suffices KL26 : ∀ (kz : Nat) (i : Nat) (wvk : Nat → Int32) (H : Heap) (locs : List Loc) (ls : Array Slot), (en - i) < kz → (zv_all N (zm_aG eW eN G i) (zm_aP eW eN P i) X Y B (zm_aR eW eN R i) kd sn sT sR sH en eW eN bn bT bN wvk) → (i ≤ en) → va_P D vwCl [(m0, .inr (6, [.ref w0, .ref w1, .ref w2, .int ik, .ref w3, .int (nI tx), .int he, .int fa, .ref w4, .ref w5, .int (nI cl), .ref w6, .ref w7, .ref w8, .ref w9])), (w0, .inl (E 0, 137, .inl wvk)), (w2, .inl (E 0, 137, .inl fb9_7))] H → va_D A [(m0, .inr (6, [.ref w0, .ref w1, .ref w2, .int ik, .ref w3, .int (nI tx), .int he, .int fa, .ref w4, .ref w5, .int (nI cl), .ref w6, .ref w7, .ref w8, .ref w9])), (w0, .inl (E 0, 137, .inl wvk)), (w2, .inl (E 0, 137, .inl fb9_7))] → va_S A s.heap H locs → lv_has ls 4 [(0, .ref m0), (1, .int (nI t)), (2, .int (nI i))] → W p l e (headSpec wsX8_after ({ frames := 7, cells := 0, slots := 0, locals := 156 })).room s m ([.ref m0, .int v] : List Value).toArray below meth c H locs 0 0 Q (F0 m 26 ls []) from
        KL26 _ 0 wv _ _ ls (Nat.lt_succ_self _) (hva) (by omega) hP hD hS (lv_sub hl [1, 2, 0] rfl)
      clear hP hS hl hD
      intro kz
      induction kz with
      | zero => intro i wvk H locs ls hkz; exact absurd hkz (Nat.not_lt_zero _)
      | succ kz ih26 =>
        intro i wvk H locs ls hkz hak hi hP hD hS hl
        obtain ⟨ki1, ki2, ki3, ki4, ki5, ki6, ki7, ki8, -, -, -⟩ := id hak
        refine lv_iload_n hx hb dX8_after_26 rfl (lv_at hl 2 rfl) ?_
        refine lv_aload_n hx hb dX8_after_27 rfl (lv_at hl 0 rfl) ?_
        refine va_get (D := D) (ci := 6) (v := .ref w0) (C := RX8) (T := TX8) (N := 15) hx hb hts (by decide +kernel) hown hK.1 hP 0 rfl rfl 0 (by decide) (hts (.fieldLink RX8 11 "HomeRoundsModel" "w" "[I") (by decide +kernel)) (fun _ h9 => h9) rfl dX8_after_28 ?_
        refine lv_iconst (v := nI 3) hx hb dX8_after_31 (by rfl) ?_
        refine va_iald hx hb hK.1 hP 1 0 rfl rfl (vp_in_nI (by omega) (by omega)) dX8_after_32 ?_
        refine zr_ti (y := nI en) ((congrArg wvk (nI_clamp (by omega))).trans (ki7.1)) ?_
        refine lv_icmp_ge (tgt := 79) hx hb dX8_after_33 (by decide) (fun cn_8 => ?_) (fun cn_8 => ?_)
        · skip
          have cn_8 : en ≤ i := (nI_leI (a := en) (b := i) (by omega) (by omega)).mp cn_8
          have hie : i = en := by omega
          rw [hie] at hak
          obtain ⟨ki1, ki2, ki3, ki4, ki5, ki6, ki7, ki8, -, -, -⟩ := id hak
          have hcf : zf_F 123 153 (zm_cost (zm_aR eW eN R en) B X Y N (zm_aG eW eN G en) (zm_aP eW eN P en)) := (by have hok9 := ki1.1; have q1 := zm_brs_le (P := zm_aP eW eN P en) hN; have q2 := zm_vio_le5 (B := B) hok9 (fun t r h1 h2 => (ki3.1 t r h1 (by omega)).1); have q3 := zm_car_le (G := zm_aG eW eN G en) (P := zm_aP eW eN P en) hN; have q4 := zm_amiles_le hok9 hgr; exact zf_costF (fun k hk => (ki4 k hk).1) (by omega) (by omega) (by omega) (by omega))
          refine lv_iload_n hx hb dX8_after_79 rfl (lv_at hl 1 rfl) ?_
          refine lv_if_ne (tgt := 91) hx hb dX8_after_80 (by decide) (fun cn_9 => ?_) (fun cn_9 => ?_)
          · skip
            have cn_9 : ¬ (t = 0) := fun hz => cn_9 ((nI_eq (a := t) (b := 0) (by omega) (by omega)).mpr hz)
            have ht0 : t ≠ 0 := by omega
            refine lv_iload_n hx hb dX8_after_91 rfl (lv_at hl 1 rfl) ?_
            refine lv_iconst (v := nI 1) hx hb dX8_after_92 (by rfl) ?_
            refine lv_icmp_ne (tgt := 104) hx hb dX8_after_93 (by decide) (fun cn_10 => ?_) (fun cn_10 => ?_)
            · skip
              have cn_10 : ¬ (t = 1) := fun hz => cn_10 ((nI_eq (a := t) (b := 1) (by omega) (by omega)).mpr hz)
              have hz : t = 2 := by omega
              refine lv_aload_n hx hb dX8_after_104 rfl (lv_at hl 0 rfl) ?_
              refine zr_cf hP hS (va_runV (As := []) (rest := []) ⟨hx, hb, hml, hown, hts⟩ (c_X8_costs l D E m0 w0 w1 w2 w3 w4 w5 w6 w7 w8 w9 ik tx he fa cl wvk N (zm_aG eW eN G en) (zm_aP eW eN P en) X Y B (zm_aR eW eN R en) (ki1) (ki2) (ki3) (ki4)) (cwV 0 hts gX8_after_X8_costs rfl rfl rfl (by decide +kernel) ⟨Nat.le_of_ble_eq_true rfl, Nat.le_of_ble_eq_true rfl⟩) (zr_V hK (hP.sub (ws' := [(m0, .inr (6, [.ref w0, .ref w1, .ref w2, .int ik, .ref w3, .int (nI tx), .int he, .int fa, .ref w4, .ref w5, .int (nI cl), .ref w6, .ref w7, .ref w8, .ref w9])), (w0, .inl (E 0, 137, .inl wvk))]) [0, 1] rfl) (ci := 6) (q0 := 0) rfl rfl) rfl rfl hl.1 rfl (lv_room (Nat.le_of_ble_eq_true rfl)) dX8_after_105 ⟨Nat.zero_le _, Nat.zero_le _⟩) (fun r_11 H locs hw_12 hP hS => ?_)
              subst hw_12
              refine zr_ci hP hS (va_runS (As := [.float (zf_cost (zm_aR eW eN R en) (zm_brs N (zm_aP eW eN P en)) (zm_vio N (zm_aG eW eN G en) B) (zm_car N (zm_aG eW eN G en) (zm_aP eW eN P en)) (zm_amiles N (zm_aG eW eN G en) (zm_aP eW eN P en) X Y))]) (rest := []) ⟨hx, hb, hml, hown, hts⟩ (c_Jxf58ca_floatToIntBits_5c35a l D E (zf_cost (zm_aR eW eN R en) (zm_brs N (zm_aP eW eN P en)) (zm_vio N (zm_aG eW eN G en) B) (zm_car N (zm_aG eW eN G en) (zm_aP eW eN P en)) (zm_amiles N (zm_aG eW eN G en) (zm_aP eW eN P en) X Y)) 123 153 (hcf)) (va_cwS 1 hts gX8_after_Jxf58ca_floatToIntBits_5c35a rfl rfl rfl (by decide +kernel) ⟨Nat.le_of_ble_eq_true rfl, Nat.le_of_ble_eq_true rfl⟩) (zr_S hK (hP.sub (ws' := []) [] rfl)) rfl rfl hl.1 rfl (lv_room (Nat.le_of_ble_eq_true rfl)) dX8_after_108 ⟨Nat.zero_le _, Nat.zero_le _⟩) (fun r_13 H locs hw_14 hP hS => ?_)
              subst hw_14
              refine lv_i2l (v := lN ((zf_cost (zm_aR eW eN R en) (zm_brs N (zm_aP eW eN P en)) (zm_vio N (zm_aG eW eN G en) B) (zm_car N (zm_aG eW eN G en) (zm_aP eW eN P en)) (zm_amiles N (zm_aG eW eN G en) (zm_aP eW eN P en) X Y)).toNat)) hx hb dX8_after_111 (nI_l (zf_lt31 hcf)) ?_
              refine lv_lstore_n (lv' := [(2, .long (lN ((zf_cost (zm_aR eW eN R en) (zm_brs N (zm_aP eW eN P en)) (zm_vio N (zm_aG eW eN G en) B) (zm_car N (zm_aG eW eN G en) (zm_aP eW eN P en)) (zm_amiles N (zm_aG eW eN G en) (zm_aP eW eN P en) X Y)).toNat))), (0, .ref m0), (1, .int (nI t))]) hx hb dX8_after_112 rfl hl (by decide) rfl (fun ls hl => ?_)
              refine lv_aload_n hx hb dX8_after_113 rfl (lv_at hl 1 rfl) ?_
              refine va_get (D := D) (ci := 6) (v := .ref w2) (C := RX8) (T := TX8) (N := 15) hx hb hts (by decide +kernel) hown hK.1 hP 0 rfl rfl 2 (by decide) (hts (.fieldLink RX8 18 "HomeRoundsModel" "mind" "[I") (by decide +kernel)) (fun _ h9 => h9) rfl dX8_after_114 ?_
              refine lv_aload_n hx hb dX8_after_117 rfl (lv_at hl 1 rfl) ?_
              refine va_get (D := D) (ci := 6) (v := .ref w0) (C := RX8) (T := TX8) (N := 15) hx hb hts (by decide +kernel) hown hK.1 hP 0 rfl rfl 0 (by decide) (hts (.fieldLink RX8 11 "HomeRoundsModel" "w" "[I") (by decide +kernel)) (fun _ h9 => h9) rfl dX8_after_118 ?_
              have hPc := hP.sub (ws' := [(w2, .inl (E 0, 137, .inl fb9_7)), (w0, .inl (E 0, 137, .inl wvk))]) [2, 1] rfl
              have hDc := hD.sub (ws' := [(w2, .inl (E 0, 137, .inl fb9_7)), (w0, .inl (E 0, 137, .inl wvk))]) [2, 1] (by decide +kernel) rfl
              have hAc := zw_AA (wc := [(w2, .inl (E 0, 137, .inl fb9_7)), (w0, .inl (E 0, 137, .inl wvk))]) hD [2, 1] rfl
              refine zw_cv hAc hS (va_runS (As := [.ref w2, .ref w0]) (rest := []) ⟨hx, hb, hml, hown, hts⟩ (c_X8_copies l D E w2 w0 fb9_7 wvk ) (va_cwS 2 hts gX8_after_X8_copies rfl rfl rfl (by decide +kernel) ⟨Nat.le_of_ble_eq_true rfl, Nat.le_of_ble_eq_true rfl⟩) (zw_S hK hPc hDc) rfl rfl hl.1 rfl (lv_room (Nat.le_of_ble_eq_true rfl)) dX8_after_121 ⟨Nat.zero_le _, Nat.zero_le _⟩) (fun u_17 H locs hw_16 hP1 hD1 hk1 hS => ?_)
              obtain ⟨fb9_18, rfl⟩ : ∃ z, z = u_17 := ⟨_, rfl⟩
              try dsimp only at hw_16 hP1 hD1
              obtain ⟨hP, hD⟩ := zw_join (wr := [(m0, .inr (6, [.ref w0, .ref w1, .ref w2, .int ik, .ref w3, .int (nI tx), .int he, .int fa, .ref w4, .ref w5, .int (nI cl), .ref w6, .ref w7, .ref w8, .ref w9]))]) (w1 := [(w2, .inl (E 0, 137, .inl fb9_7)), (w0, .inl (E 0, 137, .inl fb9_18))]) (ws' := [(m0, .inr (6, [.ref w0, .ref w1, .ref w2, .int ik, .ref w3, .int (nI tx), .int he, .int fa, .ref w4, .ref w5, .int (nI cl), .ref w6, .ref w7, .ref w8, .ref w9])), (w0, .inl (E 0, 137, .inl fb9_18)), (w2, .inl (E 0, 137, .inl fb9_7))]) hP hD [2, 1] [0] [0, 2, 1] rfl rfl (by decide +kernel) (by decide +kernel) hAc hk1 hP1 hD1 (by decide +kernel) rfl
              clear hP1 hD1 hk1 hPc hDc hAc
              have hcq := hw_16
              refine lv_lload_n hx hb dX8_after_124 rfl (lv_at hl 0 rfl) ?_
              subst hQ; subst hAe
              exact W.lret (v := lN ((zf_cost (zm_aR eW eN R en) (zm_brs N (zm_aP eW eN P en)) (zm_vio N (zm_aG eW eN G en) B) (zm_car N (zm_aG eW eN G en) (zm_aP eW eN P en)) (zm_amiles N (zm_aG eW eN G en) (zm_aP eW eN P en) X Y)).toNat)) hx hb hr (fun tz htz hWz => ⟨⟨lN ((zf_cost (zm_aR eW eN R en) (zm_brs N (zm_aP eW eN P en)) (zm_vio N (zm_aG eW eN G en) B) (zm_car N (zm_aG eW eN G en) (zm_aP eW eN P en)) (zm_amiles N (zm_aG eW eN G en) (zm_aP eW eN P en) X Y)).toNat), (fb9_18, fb9_7), rfl, ⟨by simp only [cond_true, cond_false, Bool.and_true, Bool.and_false, Bool.true_and, Bool.false_and, e1, q1]; rw [hz]; rfl, fun j hj => (hcq j hj).trans (hcp j hj)⟩, by rw [htz]; exact hP, hD⟩, hS.F htz⟩) hS.2.2 dX8_after_125
            · skip
              have cn_10 : t = 1 := (nI_eq (a := t) (b := 1) (by omega) (by omega)).mp cn_10
              have hz : t = 1 := by omega
              refine lv_aload_n hx hb dX8_after_96 rfl (lv_at hl 0 rfl) ?_
              refine zr_ci hP hS (va_runV (As := []) (rest := []) ⟨hx, hb, hml, hown, hts⟩ (c_X8_violated l D E m0 w0 w1 w2 w3 w4 w5 w6 w7 w8 w9 ik tx he fa cl wvk N (zm_aG eW eN G en) (zm_aP eW eN P en) B (ki1) (ki3)) (cwV 0 hts gX8_after_X8_violated rfl rfl rfl (by decide +kernel) ⟨Nat.le_of_ble_eq_true rfl, Nat.le_of_ble_eq_true rfl⟩) (zr_V hK (hP.sub (ws' := [(m0, .inr (6, [.ref w0, .ref w1, .ref w2, .int ik, .ref w3, .int (nI tx), .int he, .int fa, .ref w4, .ref w5, .int (nI cl), .ref w6, .ref w7, .ref w8, .ref w9])), (w0, .inl (E 0, 137, .inl wvk))]) [0, 1] rfl) (ci := 6) (q0 := 0) rfl rfl) rfl rfl hl.1 rfl (lv_room (Nat.le_of_ble_eq_true rfl)) dX8_after_97 ⟨Nat.zero_le _, Nat.zero_le _⟩) (fun r_19 H locs hw_20 hP hS => ?_)
              subst hw_20
              refine zr_ti (y := nI (zm_vio N (zm_aG eW eN G en) B)) (congrArg nI (zm_vio_eq5 ki1.1 (fun t r h1 h2 => (ki3.1 t r h1 (by omega)).1))) ?_
              refine lv_i2l (v := lN (zm_vio N (zm_aG eW eN G en) B)) hx hb dX8_after_100 (nI_l (by have := zm_vio_le5 (B := B) ki1.1 (fun t r h1 h2 => (ki3.1 t r h1 (by omega)).1); omega)) ?_
              refine lv_goto (tgt := 112) hx hb dX8_after_101 (by decide) ?_
              refine lv_lstore_n (lv' := [(2, .long (lN (zm_vio N (zm_aG eW eN G en) B))), (0, .ref m0), (1, .int (nI t))]) hx hb dX8_after_112 rfl hl (by decide) rfl (fun ls hl => ?_)
              refine lv_aload_n hx hb dX8_after_113 rfl (lv_at hl 1 rfl) ?_
              refine va_get (D := D) (ci := 6) (v := .ref w2) (C := RX8) (T := TX8) (N := 15) hx hb hts (by decide +kernel) hown hK.1 hP 0 rfl rfl 2 (by decide) (hts (.fieldLink RX8 18 "HomeRoundsModel" "mind" "[I") (by decide +kernel)) (fun _ h9 => h9) rfl dX8_after_114 ?_
              refine lv_aload_n hx hb dX8_after_117 rfl (lv_at hl 1 rfl) ?_
              refine va_get (D := D) (ci := 6) (v := .ref w0) (C := RX8) (T := TX8) (N := 15) hx hb hts (by decide +kernel) hown hK.1 hP 0 rfl rfl 0 (by decide) (hts (.fieldLink RX8 11 "HomeRoundsModel" "w" "[I") (by decide +kernel)) (fun _ h9 => h9) rfl dX8_after_118 ?_
              have hPc := hP.sub (ws' := [(w2, .inl (E 0, 137, .inl fb9_7)), (w0, .inl (E 0, 137, .inl wvk))]) [2, 1] rfl
              have hDc := hD.sub (ws' := [(w2, .inl (E 0, 137, .inl fb9_7)), (w0, .inl (E 0, 137, .inl wvk))]) [2, 1] (by decide +kernel) rfl
              have hAc := zw_AA (wc := [(w2, .inl (E 0, 137, .inl fb9_7)), (w0, .inl (E 0, 137, .inl wvk))]) hD [2, 1] rfl
              refine zw_cv hAc hS (va_runS (As := [.ref w2, .ref w0]) (rest := []) ⟨hx, hb, hml, hown, hts⟩ (c_X8_copies l D E w2 w0 fb9_7 wvk ) (va_cwS 2 hts gX8_after_X8_copies rfl rfl rfl (by decide +kernel) ⟨Nat.le_of_ble_eq_true rfl, Nat.le_of_ble_eq_true rfl⟩) (zw_S hK hPc hDc) rfl rfl hl.1 rfl (lv_room (Nat.le_of_ble_eq_true rfl)) dX8_after_121 ⟨Nat.zero_le _, Nat.zero_le _⟩) (fun u_23 H locs hw_22 hP1 hD1 hk1 hS => ?_)
              obtain ⟨fb9_24, rfl⟩ : ∃ z, z = u_23 := ⟨_, rfl⟩
              try dsimp only at hw_22 hP1 hD1
              obtain ⟨hP, hD⟩ := zw_join (wr := [(m0, .inr (6, [.ref w0, .ref w1, .ref w2, .int ik, .ref w3, .int (nI tx), .int he, .int fa, .ref w4, .ref w5, .int (nI cl), .ref w6, .ref w7, .ref w8, .ref w9]))]) (w1 := [(w2, .inl (E 0, 137, .inl fb9_7)), (w0, .inl (E 0, 137, .inl fb9_24))]) (ws' := [(m0, .inr (6, [.ref w0, .ref w1, .ref w2, .int ik, .ref w3, .int (nI tx), .int he, .int fa, .ref w4, .ref w5, .int (nI cl), .ref w6, .ref w7, .ref w8, .ref w9])), (w0, .inl (E 0, 137, .inl fb9_24)), (w2, .inl (E 0, 137, .inl fb9_7))]) hP hD [2, 1] [0] [0, 2, 1] rfl rfl (by decide +kernel) (by decide +kernel) hAc hk1 hP1 hD1 (by decide +kernel) rfl
              clear hP1 hD1 hk1 hPc hDc hAc
              have hcq := hw_22
              refine lv_lload_n hx hb dX8_after_124 rfl (lv_at hl 0 rfl) ?_
              subst hQ; subst hAe
              exact W.lret (v := lN (zm_vio N (zm_aG eW eN G en) B)) hx hb hr (fun tz htz hWz => ⟨⟨lN (zm_vio N (zm_aG eW eN G en) B), (fb9_24, fb9_7), rfl, ⟨by simp only [cond_true, cond_false, Bool.and_true, Bool.and_false, Bool.true_and, Bool.false_and, e1, q1]; rw [hz]; rfl, fun j hj => (hcq j hj).trans (hcp j hj)⟩, by rw [htz]; exact hP, hD⟩, hS.F htz⟩) hS.2.2 dX8_after_125
          · skip
            have cn_9 : t = 0 := (nI_eq (a := t) (b := 0) (by omega) (by omega)).mp cn_9
            have hz : t = 0 := by omega
            refine lv_aload_n hx hb dX8_after_83 rfl (lv_at hl 0 rfl) ?_
            refine zr_ci hP hS (va_runV (As := []) (rest := []) ⟨hx, hb, hml, hown, hts⟩ (c_X8_allBreaks l D E m0 w0 w1 w2 w3 w4 w5 w6 w7 w8 w9 ik tx he fa cl wvk N (zm_aG eW eN G en) (zm_aP eW eN P en) (ki1)) (cwV 0 hts gX8_after_X8_allBreaks rfl rfl rfl (by decide +kernel) ⟨Nat.le_of_ble_eq_true rfl, Nat.le_of_ble_eq_true rfl⟩) (zr_V hK (hP.sub (ws' := [(m0, .inr (6, [.ref w0, .ref w1, .ref w2, .int ik, .ref w3, .int (nI tx), .int he, .int fa, .ref w4, .ref w5, .int (nI cl), .ref w6, .ref w7, .ref w8, .ref w9])), (w0, .inl (E 0, 137, .inl wvk))]) [0, 1] rfl) (ci := 6) (q0 := 0) rfl rfl) rfl rfl hl.1 rfl (lv_room (Nat.le_of_ble_eq_true rfl)) dX8_after_84 ⟨Nat.zero_le _, Nat.zero_le _⟩) (fun r_25 H locs hw_26 hP hS => ?_)
            subst hw_26
            refine lv_i2l (v := lN (zm_brs N (zm_aP eW eN P en))) hx hb dX8_after_87 (nI_l (by have := zm_brs_le (P := zm_aP eW eN P en) hN; omega)) ?_
            refine lv_goto (tgt := 112) hx hb dX8_after_88 (by decide) ?_
            refine lv_lstore_n (lv' := [(2, .long (lN (zm_brs N (zm_aP eW eN P en)))), (0, .ref m0), (1, .int (nI t))]) hx hb dX8_after_112 rfl hl (by decide) rfl (fun ls hl => ?_)
            refine lv_aload_n hx hb dX8_after_113 rfl (lv_at hl 1 rfl) ?_
            refine va_get (D := D) (ci := 6) (v := .ref w2) (C := RX8) (T := TX8) (N := 15) hx hb hts (by decide +kernel) hown hK.1 hP 0 rfl rfl 2 (by decide) (hts (.fieldLink RX8 18 "HomeRoundsModel" "mind" "[I") (by decide +kernel)) (fun _ h9 => h9) rfl dX8_after_114 ?_
            refine lv_aload_n hx hb dX8_after_117 rfl (lv_at hl 1 rfl) ?_
            refine va_get (D := D) (ci := 6) (v := .ref w0) (C := RX8) (T := TX8) (N := 15) hx hb hts (by decide +kernel) hown hK.1 hP 0 rfl rfl 0 (by decide) (hts (.fieldLink RX8 11 "HomeRoundsModel" "w" "[I") (by decide +kernel)) (fun _ h9 => h9) rfl dX8_after_118 ?_
            have hPc := hP.sub (ws' := [(w2, .inl (E 0, 137, .inl fb9_7)), (w0, .inl (E 0, 137, .inl wvk))]) [2, 1] rfl
            have hDc := hD.sub (ws' := [(w2, .inl (E 0, 137, .inl fb9_7)), (w0, .inl (E 0, 137, .inl wvk))]) [2, 1] (by decide +kernel) rfl
            have hAc := zw_AA (wc := [(w2, .inl (E 0, 137, .inl fb9_7)), (w0, .inl (E 0, 137, .inl wvk))]) hD [2, 1] rfl
            refine zw_cv hAc hS (va_runS (As := [.ref w2, .ref w0]) (rest := []) ⟨hx, hb, hml, hown, hts⟩ (c_X8_copies l D E w2 w0 fb9_7 wvk ) (va_cwS 2 hts gX8_after_X8_copies rfl rfl rfl (by decide +kernel) ⟨Nat.le_of_ble_eq_true rfl, Nat.le_of_ble_eq_true rfl⟩) (zw_S hK hPc hDc) rfl rfl hl.1 rfl (lv_room (Nat.le_of_ble_eq_true rfl)) dX8_after_121 ⟨Nat.zero_le _, Nat.zero_le _⟩) (fun u_29 H locs hw_28 hP1 hD1 hk1 hS => ?_)
            obtain ⟨fb9_30, rfl⟩ : ∃ z, z = u_29 := ⟨_, rfl⟩
            try dsimp only at hw_28 hP1 hD1
            obtain ⟨hP, hD⟩ := zw_join (wr := [(m0, .inr (6, [.ref w0, .ref w1, .ref w2, .int ik, .ref w3, .int (nI tx), .int he, .int fa, .ref w4, .ref w5, .int (nI cl), .ref w6, .ref w7, .ref w8, .ref w9]))]) (w1 := [(w2, .inl (E 0, 137, .inl fb9_7)), (w0, .inl (E 0, 137, .inl fb9_30))]) (ws' := [(m0, .inr (6, [.ref w0, .ref w1, .ref w2, .int ik, .ref w3, .int (nI tx), .int he, .int fa, .ref w4, .ref w5, .int (nI cl), .ref w6, .ref w7, .ref w8, .ref w9])), (w0, .inl (E 0, 137, .inl fb9_30)), (w2, .inl (E 0, 137, .inl fb9_7))]) hP hD [2, 1] [0] [0, 2, 1] rfl rfl (by decide +kernel) (by decide +kernel) hAc hk1 hP1 hD1 (by decide +kernel) rfl
            clear hP1 hD1 hk1 hPc hDc hAc
            have hcq := hw_28
            refine lv_lload_n hx hb dX8_after_124 rfl (lv_at hl 0 rfl) ?_
            subst hQ; subst hAe
            exact W.lret (v := lN (zm_brs N (zm_aP eW eN P en))) hx hb hr (fun tz htz hWz => ⟨⟨lN (zm_brs N (zm_aP eW eN P en)), (fb9_30, fb9_7), rfl, ⟨by simp only [cond_true, cond_false, Bool.and_true, Bool.and_false, Bool.true_and, Bool.false_and, e1, q1]; rw [hz]; rfl, fun j hj => (hcq j hj).trans (hcp j hj)⟩, by rw [htz]; exact hP, hD⟩, hS.F htz⟩) hS.2.2 dX8_after_125
        · skip
          have cn_8 : ¬ (en ≤ i) := fun hz => cn_8 ((nI_leI (a := en) (b := i) (by omega) (by omega)).mpr hz)
          have hin : i < en := by omega
          obtain ⟨hx9, hev4⟩ := hev.2 i hin
          rcases hev4 with ⟨hw9, hv1, hv2⟩ | ⟨hw9, hv1, hv2⟩ | ⟨hw9, hv1, hv2⟩ | ⟨hw9, hv1⟩
          · skip
            refine lv_aload_n hx hb dX8_after_36 rfl (lv_at hl 0 rfl) ?_
            refine va_get (D := D) (ci := 6) (v := .ref w0) (C := RX8) (T := TX8) (N := 15) hx hb hts (by decide +kernel) hown hK.1 hP 0 rfl rfl 0 (by decide) (hts (.fieldLink RX8 11 "HomeRoundsModel" "w" "[I") (by decide +kernel)) (fun _ h9 => h9) rfl dX8_after_37 ?_
            refine lv_bipush (v := nI 105) hx hb dX8_after_40 (by rfl) ?_
            refine lv_iconst (v := nI 2) hx hb dX8_after_42 (by rfl) ?_
            refine lv_iload_n hx hb dX8_after_43 rfl (lv_at hl 2 rfl) ?_
            refine lv_imul hx hb dX8_after_44 ?_
            refine zr_ti (y := nI (2 * i)) (pk_mul _ _) ?_
            refine lv_iadd hx hb dX8_after_45 ?_
            refine zr_ti (y := nI (105 + (2 * i))) (nI_add _ _) ?_
            refine lv_iconst (v := nI 1) hx hb dX8_after_46 (by rfl) ?_
            refine lv_iadd hx hb dX8_after_47 ?_
            refine zr_ti (y := nI ((105 + (2 * i)) + 1)) (nI_add _ _) ?_
            refine va_iald hx hb hK.1 hP 1 0 rfl rfl (vp_in_nI (by omega) (by omega)) dX8_after_48 ?_
            refine zr_ti (y := nI (eN i)) ((congrArg wvk (nI_clamp (by omega))).trans ((ki7.2 i hin).2)) ?_
            refine lv_istore_n (lv' := [(3, .int (nI (eN i))), (0, .ref m0), (1, .int (nI t)), (2, .int (nI i))]) hx hb dX8_after_49 rfl hl (by decide) rfl (fun ls hl => ?_)
            refine lv_aload_n hx hb dX8_after_50 rfl (lv_at hl 1 rfl) ?_
            refine lv_aload_n hx hb dX8_after_51 rfl (lv_at hl 1 rfl) ?_
            refine va_get (D := D) (ci := 6) (v := .ref w0) (C := RX8) (T := TX8) (N := 15) hx hb hts (by decide +kernel) hown hK.1 hP 0 rfl rfl 0 (by decide) (hts (.fieldLink RX8 11 "HomeRoundsModel" "w" "[I") (by decide +kernel)) (fun _ h9 => h9) rfl dX8_after_52 ?_
            refine lv_bipush (v := nI 105) hx hb dX8_after_55 (by rfl) ?_
            refine lv_iconst (v := nI 2) hx hb dX8_after_57 (by rfl) ?_
            refine lv_iload_n hx hb dX8_after_58 rfl (lv_at hl 3 rfl) ?_
            refine lv_imul hx hb dX8_after_59 ?_
            refine zr_ti (y := nI (2 * i)) (pk_mul _ _) ?_
            refine lv_iadd hx hb dX8_after_60 ?_
            refine zr_ti (y := nI (105 + (2 * i))) (nI_add _ _) ?_
            refine va_iald hx hb hK.1 hP 1 0 rfl rfl (vp_in_nI (by omega) (by omega)) dX8_after_61 ?_
            refine zr_ti (y := nI 0) ((congrArg wvk (nI_clamp (by omega))).trans ((ki7.2 i hin).1.trans (congrArg nI hw9))) ?_
            refine lv_iload_n hx hb dX8_after_62 rfl (lv_at hl 0 rfl) ?_
            refine lv_bipush (v := nI 10) hx hb dX8_after_63 (by rfl) ?_
            refine lv_idiv hx hb dX8_after_65 (by decide) ?_
            refine zr_ti (y := nI ((eN i) / 10)) (pk_div (by omega) (by omega) (by omega)) ?_
            refine lv_iload_n hx hb dX8_after_66 rfl (lv_at hl 0 rfl) ?_
            refine lv_bipush (v := nI 10) hx hb dX8_after_67 (by rfl) ?_
            refine lv_irem hx hb dX8_after_69 (by decide) ?_
            refine zr_ti (y := nI ((eN i) % 10)) (pk_rem (by omega) (by omega) (by omega)) ?_
            have hPc := hP.sub (ws' := [(m0, .inr (6, [.ref w0, .ref w1, .ref w2, .int ik, .ref w3, .int (nI tx), .int he, .int fa, .ref w4, .ref w5, .int (nI cl), .ref w6, .ref w7, .ref w8, .ref w9])), (w0, .inl (E 0, 137, .inl wvk))]) [0, 1] rfl
            have hDc := hD.sub (ws' := [(m0, .inr (6, [.ref w0, .ref w1, .ref w2, .int ik, .ref w3, .int (nI tx), .int he, .int fa, .ref w4, .ref w5, .int (nI cl), .ref w6, .ref w7, .ref w8, .ref w9])), (w0, .inl (E 0, 137, .inl wvk))]) [0, 1] (by decide +kernel) rfl
            have hAc := zw_AA (wc := [(m0, .inr (6, [.ref w0, .ref w1, .ref w2, .int ik, .ref w3, .int (nI tx), .int he, .int fa, .ref w4, .ref w5, .int (nI cl), .ref w6, .ref w7, .ref w8, .ref w9])), (w0, .inl (E 0, 137, .inl wvk))]) hD [0, 1] rfl
            refine zw_cv hAc hS (va_runV (As := [.int (nI 0), .int (nI ((eN i) / 10)), .int (nI ((eN i) % 10))]) (rest := []) ⟨hx, hb, hml, hown, hts⟩ (c_X8_happens_0 l D E m0 w0 w1 w2 w3 w4 w5 w6 w7 w8 w9 ik tx he fa cl wvk N (zm_aG eW eN G i) (zm_aP eW eN P i) ((eN i) / 10) ((eN i) % 10) (ki1) (hv1) (hv2)) (cwV 3 hts gX8_after_X8_happens rfl rfl rfl (by decide +kernel) ⟨Nat.le_of_ble_eq_true rfl, Nat.le_of_ble_eq_true rfl⟩) (zw_V hK hPc hDc (ci := 6) (q0 := 0) rfl rfl) rfl rfl hl.1 rfl (lv_room (Nat.le_of_ble_eq_true rfl)) dX8_after_70 ⟨Nat.zero_le _, Nat.zero_le _⟩) (fun u_33 H locs hw_32 hP1 hD1 hk1 hS => ?_)
            obtain ⟨wvn_34, rfl⟩ : ∃ z, z = u_33 := ⟨_, rfl⟩
            try dsimp only at hw_32 hP1 hD1
            obtain ⟨hP, hD⟩ := zw_join (wr := [(w2, .inl (E 0, 137, .inl fb9_7))]) (w1 := [(m0, .inr (6, [.ref w0, .ref w1, .ref w2, .int ik, .ref w3, .int (nI tx), .int he, .int fa, .ref w4, .ref w5, .int (nI cl), .ref w6, .ref w7, .ref w8, .ref w9])), (w0, .inl (E 0, 137, .inl wvn_34))]) (ws' := [(m0, .inr (6, [.ref w0, .ref w1, .ref w2, .int ik, .ref w3, .int (nI tx), .int he, .int fa, .ref w4, .ref w5, .int (nI cl), .ref w6, .ref w7, .ref w8, .ref w9])), (w0, .inl (E 0, 137, .inl wvn_34)), (w2, .inl (E 0, 137, .inl fb9_7))]) hP hD [0, 1] [2] [1, 2, 0] rfl rfl (by decide +kernel) (by decide +kernel) hAc hk1 hP1 hD1 (by decide +kernel) rfl
            clear hP1 hD1 hk1 hPc hDc hAc
            have hnew := hw_32
            have hakn := zv_all_off hak hnew.1 hnew.2
            refine lv_iinc (v := nI (i + 1)) (lv' := [(2, .int (nI (i + 1))), (3, .int (nI (eN i))), (0, .ref m0), (1, .int (nI t))]) hx hb dX8_after_73 hl (k := 3) rfl (nI_add _ _) (by decide) rfl (fun ls hl => ?_)
            refine lv_goto (tgt := 26) hx hb dX8_after_76 (by decide) ?_
            have hl : lv_has ls 4 [(0, .ref m0), (1, .int (nI t)), (2, .int (nI (i + 1)))] := lv_sub hl [2, 3, 0] rfl
            exact ih26 (i + 1) wvn_34 H locs ls (by omega) (by show zv_all N (zm_hG (eW i) (eN i) _) (zm_hP (eW i) (eN i) _) X Y B (zm_hR (eW i) (eN i) _) kd sn sT sR sH en eW eN bn bT bN _; rw [hw9]; exact hakn) (by omega) hP hD hS hl
          · skip
            refine lv_aload_n hx hb dX8_after_36 rfl (lv_at hl 0 rfl) ?_
            refine va_get (D := D) (ci := 6) (v := .ref w0) (C := RX8) (T := TX8) (N := 15) hx hb hts (by decide +kernel) hown hK.1 hP 0 rfl rfl 0 (by decide) (hts (.fieldLink RX8 11 "HomeRoundsModel" "w" "[I") (by decide +kernel)) (fun _ h9 => h9) rfl dX8_after_37 ?_
            refine lv_bipush (v := nI 105) hx hb dX8_after_40 (by rfl) ?_
            refine lv_iconst (v := nI 2) hx hb dX8_after_42 (by rfl) ?_
            refine lv_iload_n hx hb dX8_after_43 rfl (lv_at hl 2 rfl) ?_
            refine lv_imul hx hb dX8_after_44 ?_
            refine zr_ti (y := nI (2 * i)) (pk_mul _ _) ?_
            refine lv_iadd hx hb dX8_after_45 ?_
            refine zr_ti (y := nI (105 + (2 * i))) (nI_add _ _) ?_
            refine lv_iconst (v := nI 1) hx hb dX8_after_46 (by rfl) ?_
            refine lv_iadd hx hb dX8_after_47 ?_
            refine zr_ti (y := nI ((105 + (2 * i)) + 1)) (nI_add _ _) ?_
            refine va_iald hx hb hK.1 hP 1 0 rfl rfl (vp_in_nI (by omega) (by omega)) dX8_after_48 ?_
            refine zr_ti (y := nI (eN i)) ((congrArg wvk (nI_clamp (by omega))).trans ((ki7.2 i hin).2)) ?_
            refine lv_istore_n (lv' := [(3, .int (nI (eN i))), (0, .ref m0), (1, .int (nI t)), (2, .int (nI i))]) hx hb dX8_after_49 rfl hl (by decide) rfl (fun ls hl => ?_)
            refine lv_aload_n hx hb dX8_after_50 rfl (lv_at hl 1 rfl) ?_
            refine lv_aload_n hx hb dX8_after_51 rfl (lv_at hl 1 rfl) ?_
            refine va_get (D := D) (ci := 6) (v := .ref w0) (C := RX8) (T := TX8) (N := 15) hx hb hts (by decide +kernel) hown hK.1 hP 0 rfl rfl 0 (by decide) (hts (.fieldLink RX8 11 "HomeRoundsModel" "w" "[I") (by decide +kernel)) (fun _ h9 => h9) rfl dX8_after_52 ?_
            refine lv_bipush (v := nI 105) hx hb dX8_after_55 (by rfl) ?_
            refine lv_iconst (v := nI 2) hx hb dX8_after_57 (by rfl) ?_
            refine lv_iload_n hx hb dX8_after_58 rfl (lv_at hl 3 rfl) ?_
            refine lv_imul hx hb dX8_after_59 ?_
            refine zr_ti (y := nI (2 * i)) (pk_mul _ _) ?_
            refine lv_iadd hx hb dX8_after_60 ?_
            refine zr_ti (y := nI (105 + (2 * i))) (nI_add _ _) ?_
            refine va_iald hx hb hK.1 hP 1 0 rfl rfl (vp_in_nI (by omega) (by omega)) dX8_after_61 ?_
            refine zr_ti (y := nI 1) ((congrArg wvk (nI_clamp (by omega))).trans ((ki7.2 i hin).1.trans (congrArg nI hw9))) ?_
            refine lv_iload_n hx hb dX8_after_62 rfl (lv_at hl 0 rfl) ?_
            refine lv_bipush (v := nI 10) hx hb dX8_after_63 (by rfl) ?_
            refine lv_idiv hx hb dX8_after_65 (by decide) ?_
            refine zr_ti (y := nI ((eN i) / 10)) (pk_div (by omega) (by omega) (by omega)) ?_
            refine lv_iload_n hx hb dX8_after_66 rfl (lv_at hl 0 rfl) ?_
            refine lv_bipush (v := nI 10) hx hb dX8_after_67 (by rfl) ?_
            refine lv_irem hx hb dX8_after_69 (by decide) ?_
            refine zr_ti (y := nI ((eN i) % 10)) (pk_rem (by omega) (by omega) (by omega)) ?_
            have hPc := hP.sub (ws' := [(m0, .inr (6, [.ref w0, .ref w1, .ref w2, .int ik, .ref w3, .int (nI tx), .int he, .int fa, .ref w4, .ref w5, .int (nI cl), .ref w6, .ref w7, .ref w8, .ref w9])), (w0, .inl (E 0, 137, .inl wvk))]) [0, 1] rfl
            have hDc := hD.sub (ws' := [(m0, .inr (6, [.ref w0, .ref w1, .ref w2, .int ik, .ref w3, .int (nI tx), .int he, .int fa, .ref w4, .ref w5, .int (nI cl), .ref w6, .ref w7, .ref w8, .ref w9])), (w0, .inl (E 0, 137, .inl wvk))]) [0, 1] (by decide +kernel) rfl
            have hAc := zw_AA (wc := [(m0, .inr (6, [.ref w0, .ref w1, .ref w2, .int ik, .ref w3, .int (nI tx), .int he, .int fa, .ref w4, .ref w5, .int (nI cl), .ref w6, .ref w7, .ref w8, .ref w9])), (w0, .inl (E 0, 137, .inl wvk))]) hD [0, 1] rfl
            refine zw_cv hAc hS (va_runV (As := [.int (nI 1), .int (nI ((eN i) / 10)), .int (nI ((eN i) % 10))]) (rest := []) ⟨hx, hb, hml, hown, hts⟩ (c_X8_happens_1 l D E m0 w0 w1 w2 w3 w4 w5 w6 w7 w8 w9 ik tx he fa cl wvk N (zm_aG eW eN G i) (zm_aP eW eN P i) ((eN i) / 10) ((eN i) % 10) (ki1) (hv1) (hv2)) (cwV 3 hts gX8_after_X8_happens rfl rfl rfl (by decide +kernel) ⟨Nat.le_of_ble_eq_true rfl, Nat.le_of_ble_eq_true rfl⟩) (zw_V hK hPc hDc (ci := 6) (q0 := 0) rfl rfl) rfl rfl hl.1 rfl (lv_room (Nat.le_of_ble_eq_true rfl)) dX8_after_70 ⟨Nat.zero_le _, Nat.zero_le _⟩) (fun u_37 H locs hw_36 hP1 hD1 hk1 hS => ?_)
            obtain ⟨wvn_38, rfl⟩ : ∃ z, z = u_37 := ⟨_, rfl⟩
            try dsimp only at hw_36 hP1 hD1
            obtain ⟨hP, hD⟩ := zw_join (wr := [(w2, .inl (E 0, 137, .inl fb9_7))]) (w1 := [(m0, .inr (6, [.ref w0, .ref w1, .ref w2, .int ik, .ref w3, .int (nI tx), .int he, .int fa, .ref w4, .ref w5, .int (nI cl), .ref w6, .ref w7, .ref w8, .ref w9])), (w0, .inl (E 0, 137, .inl wvn_38))]) (ws' := [(m0, .inr (6, [.ref w0, .ref w1, .ref w2, .int ik, .ref w3, .int (nI tx), .int he, .int fa, .ref w4, .ref w5, .int (nI cl), .ref w6, .ref w7, .ref w8, .ref w9])), (w0, .inl (E 0, 137, .inl wvn_38)), (w2, .inl (E 0, 137, .inl fb9_7))]) hP hD [0, 1] [2] [1, 2, 0] rfl rfl (by decide +kernel) (by decide +kernel) hAc hk1 hP1 hD1 (by decide +kernel) rfl
            clear hP1 hD1 hk1 hPc hDc hAc
            have hnew := hw_36
            have hakn := zv_all_off hak hnew.1 hnew.2
            refine lv_iinc (v := nI (i + 1)) (lv' := [(2, .int (nI (i + 1))), (3, .int (nI (eN i))), (0, .ref m0), (1, .int (nI t))]) hx hb dX8_after_73 hl (k := 3) rfl (nI_add _ _) (by decide) rfl (fun ls hl => ?_)
            refine lv_goto (tgt := 26) hx hb dX8_after_76 (by decide) ?_
            have hl : lv_has ls 4 [(0, .ref m0), (1, .int (nI t)), (2, .int (nI (i + 1)))] := lv_sub hl [2, 3, 0] rfl
            exact ih26 (i + 1) wvn_38 H locs ls (by omega) (by show zv_all N (zm_hG (eW i) (eN i) _) (zm_hP (eW i) (eN i) _) X Y B (zm_hR (eW i) (eN i) _) kd sn sT sR sH en eW eN bn bT bN _; rw [hw9]; exact hakn) (by omega) hP hD hS hl
          · skip
            refine lv_aload_n hx hb dX8_after_36 rfl (lv_at hl 0 rfl) ?_
            refine va_get (D := D) (ci := 6) (v := .ref w0) (C := RX8) (T := TX8) (N := 15) hx hb hts (by decide +kernel) hown hK.1 hP 0 rfl rfl 0 (by decide) (hts (.fieldLink RX8 11 "HomeRoundsModel" "w" "[I") (by decide +kernel)) (fun _ h9 => h9) rfl dX8_after_37 ?_
            refine lv_bipush (v := nI 105) hx hb dX8_after_40 (by rfl) ?_
            refine lv_iconst (v := nI 2) hx hb dX8_after_42 (by rfl) ?_
            refine lv_iload_n hx hb dX8_after_43 rfl (lv_at hl 2 rfl) ?_
            refine lv_imul hx hb dX8_after_44 ?_
            refine zr_ti (y := nI (2 * i)) (pk_mul _ _) ?_
            refine lv_iadd hx hb dX8_after_45 ?_
            refine zr_ti (y := nI (105 + (2 * i))) (nI_add _ _) ?_
            refine lv_iconst (v := nI 1) hx hb dX8_after_46 (by rfl) ?_
            refine lv_iadd hx hb dX8_after_47 ?_
            refine zr_ti (y := nI ((105 + (2 * i)) + 1)) (nI_add _ _) ?_
            refine va_iald hx hb hK.1 hP 1 0 rfl rfl (vp_in_nI (by omega) (by omega)) dX8_after_48 ?_
            refine zr_ti (y := nI (eN i)) ((congrArg wvk (nI_clamp (by omega))).trans ((ki7.2 i hin).2)) ?_
            refine lv_istore_n (lv' := [(3, .int (nI (eN i))), (0, .ref m0), (1, .int (nI t)), (2, .int (nI i))]) hx hb dX8_after_49 rfl hl (by decide) rfl (fun ls hl => ?_)
            refine lv_aload_n hx hb dX8_after_50 rfl (lv_at hl 1 rfl) ?_
            refine lv_aload_n hx hb dX8_after_51 rfl (lv_at hl 1 rfl) ?_
            refine va_get (D := D) (ci := 6) (v := .ref w0) (C := RX8) (T := TX8) (N := 15) hx hb hts (by decide +kernel) hown hK.1 hP 0 rfl rfl 0 (by decide) (hts (.fieldLink RX8 11 "HomeRoundsModel" "w" "[I") (by decide +kernel)) (fun _ h9 => h9) rfl dX8_after_52 ?_
            refine lv_bipush (v := nI 105) hx hb dX8_after_55 (by rfl) ?_
            refine lv_iconst (v := nI 2) hx hb dX8_after_57 (by rfl) ?_
            refine lv_iload_n hx hb dX8_after_58 rfl (lv_at hl 3 rfl) ?_
            refine lv_imul hx hb dX8_after_59 ?_
            refine zr_ti (y := nI (2 * i)) (pk_mul _ _) ?_
            refine lv_iadd hx hb dX8_after_60 ?_
            refine zr_ti (y := nI (105 + (2 * i))) (nI_add _ _) ?_
            refine va_iald hx hb hK.1 hP 1 0 rfl rfl (vp_in_nI (by omega) (by omega)) dX8_after_61 ?_
            refine zr_ti (y := nI 2) ((congrArg wvk (nI_clamp (by omega))).trans ((ki7.2 i hin).1.trans (congrArg nI hw9))) ?_
            refine lv_iload_n hx hb dX8_after_62 rfl (lv_at hl 0 rfl) ?_
            refine lv_bipush (v := nI 10) hx hb dX8_after_63 (by rfl) ?_
            refine lv_idiv hx hb dX8_after_65 (by decide) ?_
            refine zr_ti (y := nI ((eN i) / 10)) (pk_div (by omega) (by omega) (by omega)) ?_
            refine lv_iload_n hx hb dX8_after_66 rfl (lv_at hl 0 rfl) ?_
            refine lv_bipush (v := nI 10) hx hb dX8_after_67 (by rfl) ?_
            refine lv_irem hx hb dX8_after_69 (by decide) ?_
            refine zr_ti (y := nI ((eN i) % 10)) (pk_rem (by omega) (by omega) (by omega)) ?_
            have hPc := hP.sub (ws' := [(m0, .inr (6, [.ref w0, .ref w1, .ref w2, .int ik, .ref w3, .int (nI tx), .int he, .int fa, .ref w4, .ref w5, .int (nI cl), .ref w6, .ref w7, .ref w8, .ref w9])), (w0, .inl (E 0, 137, .inl wvk))]) [0, 1] rfl
            have hDc := hD.sub (ws' := [(m0, .inr (6, [.ref w0, .ref w1, .ref w2, .int ik, .ref w3, .int (nI tx), .int he, .int fa, .ref w4, .ref w5, .int (nI cl), .ref w6, .ref w7, .ref w8, .ref w9])), (w0, .inl (E 0, 137, .inl wvk))]) [0, 1] (by decide +kernel) rfl
            have hAc := zw_AA (wc := [(m0, .inr (6, [.ref w0, .ref w1, .ref w2, .int ik, .ref w3, .int (nI tx), .int he, .int fa, .ref w4, .ref w5, .int (nI cl), .ref w6, .ref w7, .ref w8, .ref w9])), (w0, .inl (E 0, 137, .inl wvk))]) hD [0, 1] rfl
            refine zw_cv hAc hS (va_runV (As := [.int (nI 2), .int (nI ((eN i) / 10)), .int (nI ((eN i) % 10))]) (rest := []) ⟨hx, hb, hml, hown, hts⟩ (c_X8_happens_2 l D E m0 w0 w1 w2 w3 w4 w5 w6 w7 w8 w9 ik tx he fa cl wvk N (zm_aG eW eN G i) (zm_aP eW eN P i) ((eN i) / 10) ((eN i) % 10) (ki1) (hv1) (hv2)) (cwV 3 hts gX8_after_X8_happens rfl rfl rfl (by decide +kernel) ⟨Nat.le_of_ble_eq_true rfl, Nat.le_of_ble_eq_true rfl⟩) (zw_V hK hPc hDc (ci := 6) (q0 := 0) rfl rfl) rfl rfl hl.1 rfl (lv_room (Nat.le_of_ble_eq_true rfl)) dX8_after_70 ⟨Nat.zero_le _, Nat.zero_le _⟩) (fun u_41 H locs hw_40 hP1 hD1 hk1 hS => ?_)
            obtain ⟨wvn_42, rfl⟩ : ∃ z, z = u_41 := ⟨_, rfl⟩
            try dsimp only at hw_40 hP1 hD1
            obtain ⟨hP, hD⟩ := zw_join (wr := [(w2, .inl (E 0, 137, .inl fb9_7))]) (w1 := [(m0, .inr (6, [.ref w0, .ref w1, .ref w2, .int ik, .ref w3, .int (nI tx), .int he, .int fa, .ref w4, .ref w5, .int (nI cl), .ref w6, .ref w7, .ref w8, .ref w9])), (w0, .inl (E 0, 137, .inl wvn_42))]) (ws' := [(m0, .inr (6, [.ref w0, .ref w1, .ref w2, .int ik, .ref w3, .int (nI tx), .int he, .int fa, .ref w4, .ref w5, .int (nI cl), .ref w6, .ref w7, .ref w8, .ref w9])), (w0, .inl (E 0, 137, .inl wvn_42)), (w2, .inl (E 0, 137, .inl fb9_7))]) hP hD [0, 1] [2] [1, 2, 0] rfl rfl (by decide +kernel) (by decide +kernel) hAc hk1 hP1 hD1 (by decide +kernel) rfl
            clear hP1 hD1 hk1 hPc hDc hAc
            have hnew := hw_40
            have hakn := zv_all_off hak hnew.1 hnew.2
            refine lv_iinc (v := nI (i + 1)) (lv' := [(2, .int (nI (i + 1))), (3, .int (nI (eN i))), (0, .ref m0), (1, .int (nI t))]) hx hb dX8_after_73 hl (k := 3) rfl (nI_add _ _) (by decide) rfl (fun ls hl => ?_)
            refine lv_goto (tgt := 26) hx hb dX8_after_76 (by decide) ?_
            have hl : lv_has ls 4 [(0, .ref m0), (1, .int (nI t)), (2, .int (nI (i + 1)))] := lv_sub hl [2, 3, 0] rfl
            exact ih26 (i + 1) wvn_42 H locs ls (by omega) (by show zv_all N (zm_hG (eW i) (eN i) _) (zm_hP (eW i) (eN i) _) X Y B (zm_hR (eW i) (eN i) _) kd sn sT sR sH en eW eN bn bT bN _; rw [hw9]; exact hakn) (by omega) hP hD hS hl
          · skip
            refine lv_aload_n hx hb dX8_after_36 rfl (lv_at hl 0 rfl) ?_
            refine va_get (D := D) (ci := 6) (v := .ref w0) (C := RX8) (T := TX8) (N := 15) hx hb hts (by decide +kernel) hown hK.1 hP 0 rfl rfl 0 (by decide) (hts (.fieldLink RX8 11 "HomeRoundsModel" "w" "[I") (by decide +kernel)) (fun _ h9 => h9) rfl dX8_after_37 ?_
            refine lv_bipush (v := nI 105) hx hb dX8_after_40 (by rfl) ?_
            refine lv_iconst (v := nI 2) hx hb dX8_after_42 (by rfl) ?_
            refine lv_iload_n hx hb dX8_after_43 rfl (lv_at hl 2 rfl) ?_
            refine lv_imul hx hb dX8_after_44 ?_
            refine zr_ti (y := nI (2 * i)) (pk_mul _ _) ?_
            refine lv_iadd hx hb dX8_after_45 ?_
            refine zr_ti (y := nI (105 + (2 * i))) (nI_add _ _) ?_
            refine lv_iconst (v := nI 1) hx hb dX8_after_46 (by rfl) ?_
            refine lv_iadd hx hb dX8_after_47 ?_
            refine zr_ti (y := nI ((105 + (2 * i)) + 1)) (nI_add _ _) ?_
            refine va_iald hx hb hK.1 hP 1 0 rfl rfl (vp_in_nI (by omega) (by omega)) dX8_after_48 ?_
            refine zr_ti (y := nI (eN i)) ((congrArg wvk (nI_clamp (by omega))).trans ((ki7.2 i hin).2)) ?_
            refine lv_istore_n (lv' := [(3, .int (nI (eN i))), (0, .ref m0), (1, .int (nI t)), (2, .int (nI i))]) hx hb dX8_after_49 rfl hl (by decide) rfl (fun ls hl => ?_)
            refine lv_aload_n hx hb dX8_after_50 rfl (lv_at hl 1 rfl) ?_
            refine lv_aload_n hx hb dX8_after_51 rfl (lv_at hl 1 rfl) ?_
            refine va_get (D := D) (ci := 6) (v := .ref w0) (C := RX8) (T := TX8) (N := 15) hx hb hts (by decide +kernel) hown hK.1 hP 0 rfl rfl 0 (by decide) (hts (.fieldLink RX8 11 "HomeRoundsModel" "w" "[I") (by decide +kernel)) (fun _ h9 => h9) rfl dX8_after_52 ?_
            refine lv_bipush (v := nI 105) hx hb dX8_after_55 (by rfl) ?_
            refine lv_iconst (v := nI 2) hx hb dX8_after_57 (by rfl) ?_
            refine lv_iload_n hx hb dX8_after_58 rfl (lv_at hl 3 rfl) ?_
            refine lv_imul hx hb dX8_after_59 ?_
            refine zr_ti (y := nI (2 * i)) (pk_mul _ _) ?_
            refine lv_iadd hx hb dX8_after_60 ?_
            refine zr_ti (y := nI (105 + (2 * i))) (nI_add _ _) ?_
            refine va_iald hx hb hK.1 hP 1 0 rfl rfl (vp_in_nI (by omega) (by omega)) dX8_after_61 ?_
            refine zr_ti (y := nI 3) ((congrArg wvk (nI_clamp (by omega))).trans ((ki7.2 i hin).1.trans (congrArg nI hw9))) ?_
            refine lv_iload_n hx hb dX8_after_62 rfl (lv_at hl 0 rfl) ?_
            refine lv_bipush (v := nI 10) hx hb dX8_after_63 (by rfl) ?_
            refine lv_idiv hx hb dX8_after_65 (by decide) ?_
            refine zr_ti (y := nI ((eN i) / 10)) (pk_div (by omega) (by omega) (by omega)) ?_
            refine lv_iload_n hx hb dX8_after_66 rfl (lv_at hl 0 rfl) ?_
            refine lv_bipush (v := nI 10) hx hb dX8_after_67 (by rfl) ?_
            refine lv_irem hx hb dX8_after_69 (by decide) ?_
            refine zr_ti (y := nI ((eN i) % 10)) (pk_rem (by omega) (by omega) (by omega)) ?_
            have hPc := hP.sub (ws' := [(m0, .inr (6, [.ref w0, .ref w1, .ref w2, .int ik, .ref w3, .int (nI tx), .int he, .int fa, .ref w4, .ref w5, .int (nI cl), .ref w6, .ref w7, .ref w8, .ref w9])), (w0, .inl (E 0, 137, .inl wvk))]) [0, 1] rfl
            have hDc := hD.sub (ws' := [(m0, .inr (6, [.ref w0, .ref w1, .ref w2, .int ik, .ref w3, .int (nI tx), .int he, .int fa, .ref w4, .ref w5, .int (nI cl), .ref w6, .ref w7, .ref w8, .ref w9])), (w0, .inl (E 0, 137, .inl wvk))]) [0, 1] (by decide +kernel) rfl
            have hAc := zw_AA (wc := [(m0, .inr (6, [.ref w0, .ref w1, .ref w2, .int ik, .ref w3, .int (nI tx), .int he, .int fa, .ref w4, .ref w5, .int (nI cl), .ref w6, .ref w7, .ref w8, .ref w9])), (w0, .inl (E 0, 137, .inl wvk))]) hD [0, 1] rfl
            refine zw_cv hAc hS (va_runV (As := [.int (nI 3), .int (nI ((eN i) / 10)), .int (nI ((eN i) % 10))]) (rest := []) ⟨hx, hb, hml, hown, hts⟩ (c_X8_happens_3 l D E m0 w0 w1 w2 w3 w4 w5 w6 w7 w8 w9 ik tx he fa cl wvk N ((eN i) / 10) ((eN i) % 10) (by omega)) (cwV 3 hts gX8_after_X8_happens rfl rfl rfl (by decide +kernel) ⟨Nat.le_of_ble_eq_true rfl, Nat.le_of_ble_eq_true rfl⟩) (zw_V hK hPc hDc (ci := 6) (q0 := 0) rfl rfl) rfl rfl hl.1 rfl (lv_room (Nat.le_of_ble_eq_true rfl)) dX8_after_70 ⟨Nat.zero_le _, Nat.zero_le _⟩) (fun u_45 H locs hw_44 hP1 hD1 hk1 hS => ?_)
            obtain ⟨hP, hD⟩ := zw_join (wr := [(w2, .inl (E 0, 137, .inl fb9_7))]) (w1 := [(m0, .inr (6, [.ref w0, .ref w1, .ref w2, .int ik, .ref w3, .int (nI tx), .int he, .int fa, .ref w4, .ref w5, .int (nI cl), .ref w6, .ref w7, .ref w8, .ref w9])), (w0, .inl (E 0, 137, .inl (upd wvk (5 + ((eN i) / 10)) (nI ((eN i) % 10)))))]) (ws' := [(m0, .inr (6, [.ref w0, .ref w1, .ref w2, .int ik, .ref w3, .int (nI tx), .int he, .int fa, .ref w4, .ref w5, .int (nI cl), .ref w6, .ref w7, .ref w8, .ref w9])), (w0, .inl (E 0, 137, .inl (upd wvk (5 + ((eN i) / 10)) (nI ((eN i) % 10))))), (w2, .inl (E 0, 137, .inl fb9_7))]) hP hD [0, 1] [2] [1, 2, 0] rfl rfl (by decide +kernel) (by decide +kernel) hAc hk1 hP1 hD1 (by decide +kernel) rfl
            clear hP1 hD1 hk1 hPc hDc hAc
            have hakn := zv_all_ra (k := eN i / 10) (x := eN i % 10) hak (by omega) (by omega)
            refine lv_iinc (v := nI (i + 1)) (lv' := [(2, .int (nI (i + 1))), (3, .int (nI (eN i))), (0, .ref m0), (1, .int (nI t))]) hx hb dX8_after_73 hl (k := 3) rfl (nI_add _ _) (by decide) rfl (fun ls hl => ?_)
            refine lv_goto (tgt := 26) hx hb dX8_after_76 (by decide) ?_
            have hl : lv_has ls 4 [(0, .ref m0), (1, .int (nI t)), (2, .int (nI (i + 1)))] := lv_sub hl [2, 3, 0] rfl
            exact ih26 (i + 1) (upd wvk (5 + ((eN i) / 10)) (nI ((eN i) % 10))) H locs ls (by omega) (by show zv_all N (zm_hG (eW i) (eN i) _) (zm_hP (eW i) (eN i) _) X Y B (zm_hR (eW i) (eN i) _) kd sn sT sR sH en eW eN bn bT bN _; rw [hw9]; exact hakn) (by omega) hP hD hS hl
    · skip
      exact absurd cn_3 (by decide)
  · skip
    have e1 : zi 3 v = false := zi_f (zn_out3 (n := 3) (by omega) hw_2)
    refine zr_ti (y := nI 0) rfl ?_
    refine lv_if_ne (tgt := 13) hx hb dX8_after_6 (by decide) (fun cn_46 => ?_) (fun cn_46 => ?_)
    · skip
      exact absurd cn_46 (by decide)
    · skip
      refine lv_ldc2 (v := (-9223372036854775808)) hx hb hown (hts (.constantLong RX8 247 (-9223372036854775808)) (by decide +kernel)) dX8_after_9 ?_
      subst hQ; subst hAe
      exact W.lret (v := (-9223372036854775808)) hx hb hr (fun tz htz hWz => ⟨⟨(-9223372036854775808), (wv, mv), rfl, ⟨by simp only [cond_true, cond_false, Bool.and_true, Bool.and_false, Bool.true_and, Bool.false_and, e1], fun j _ => rfl⟩, by rw [htz]; exact hP, hD⟩, hS.F htz⟩) hS.2.2 dX8_after_12

set_option maxHeartbeats 4000000 in
set_option maxRecDepth 100000 in
theorem c_X8_image (l : Launch) (D : va_G) (E : Nat → ClassId) (m0 : Nat) (w0 : Nat) (w1 : Nat) (w2 : Nat) (w3 : Nat) (w4 : Nat) (w5 : Nat) (w6 : Nat) (w7 : Nat) (w8 : Nat) (w9 : Nat) (ik : Int32) (tx : Nat) (he : Int32) (fa : Int32) (cl : Nat) (wv : Nat → Int32) (N : Nat) (G : Nat → Nat → Nat) (P : Nat → Nat → Nat) (X : Nat → Nat) (Y : Nat → Nat) (B : Nat → Nat → Nat) (R : Nat → Nat) (kd : Nat) (sn : Nat) (sT : Nat → Nat) (sR : Nat → Nat) (sH : Nat → Nat) (en : Nat) (eW : Nat → Nat) (eN : Nat → Nat) (bn : Nat) (bT : Nat → Nat) (bN : Nat → Nat) (kv : Nat → Int32) (hva : zv_all N G P X Y B R kd sn sT sR sH en eW eN bn bT bN wv) (hzs : zs_all N kd sn sT sR sH en eW eN bn bT bN) : Met l yX8_image wsX8_image ({ frames := 1, cells := 0, slots := 0, locals := 22 }) (zw_P D E [.ref m0] [(m0, .inr (6, [.ref w0, .ref w1, .ref w2, .int ik, .ref w3, .int (nI tx), .int he, .int fa, .ref w4, .ref w5, .int (nI cl), .ref w6, .ref w7, .ref w8, .ref w9])), (w0, .inl (E 0, 137, .inl wv)), (w1, .inl (E 0, 137, .inl kv))]) (zw_Qi D [(m0, .inr (6, [.ref w0, .ref w1, .ref w2, .int ik, .ref w3, .int (nI tx), .int he, .int fa, .ref w4, .ref w5, .int (nI cl), .ref w6, .ref w7, .ref w8, .ref w9])), (w0, .inl (E 0, 137, .inl wv)), (w1, .inl (E 0, 137, .inl kv))] (fun zv (u : (Nat → Int32)) => zv = nI N ∧ ∀ j, j < 137 → u j = wv j) (fun (u : (Nat → Int32)) => [(m0, .inr (6, [.ref w0, .ref w1, .ref w2, .int (nI 1), .ref w3, .int (nI tx), .int he, .int fa, .ref w4, .ref w5, .int (nI cl), .ref w6, .ref w7, .ref w8, .ref w9])), (w0, .inl (E 0, 137, .inl wv)), (w1, .inl (E 0, 137, .inl u))])) 0 0 (zw_A [(m0, .inr (6, [.ref w0, .ref w1, .ref w2, .int ik, .ref w3, .int (nI tx), .int he, .int fa, .ref w4, .ref w5, .int (nI cl), .ref w6, .ref w7, .ref w8, .ref w9])), (w0, .inl (E 0, 137, .inl wv)), (w1, .inl (E 0, 137, .inl kv))]) := by
  refine Met.ofW (cc := cX8_image) (maxL := 1) (ret := (some .int)) (by decide) rfl ?_
  intro p e s m args below meth c s₁ Bz hml hv
  obtain ⟨rfl, hP, hK, hD0⟩ := hv
  have hx := Bz.exec
  have hb := Bz.bytes
  have hr := Bz.returns
  have hts := atoms_spec (ws := wsX8_image) Bz.pre
  have hown : s.vm.findClass RX8 = some m.cls := findClass_of_methodNamed Bz.named
  have hlocks := Bz.notSynchronized
  have hP : va_P D vwCl [(m0, .inr (6, [.ref w0, .ref w1, .ref w2, .int ik, .ref w3, .int (nI tx), .int he, .int fa, .ref w4, .ref w5, .int (nI cl), .ref w6, .ref w7, .ref w8, .ref w9])), (w0, .inl (E 0, 137, .inl wv)), (w1, .inl (E 0, 137, .inl kv))] s.heap := hP
  obtain ⟨A, hAe⟩ : ∃ A : Nat → Prop, A = zw_A [(m0, .inr (6, [.ref w0, .ref w1, .ref w2, .int ik, .ref w3, .int (nI tx), .int he, .int fa, .ref w4, .ref w5, .int (nI cl), .ref w6, .ref w7, .ref w8, .ref w9])), (w0, .inl (E 0, 137, .inl wv)), (w1, .inl (E 0, 137, .inl kv))] := ⟨_, rfl⟩
  have hD : va_D A [(m0, .inr (6, [.ref w0, .ref w1, .ref w2, .int ik, .ref w3, .int (nI tx), .int he, .int fa, .ref w4, .ref w5, .int (nI cl), .ref w6, .ref w7, .ref w8, .ref w9])), (w0, .inl (E 0, 137, .inl wv)), (w1, .inl (E 0, 137, .inl kv))] := hAe ▸ zw_own hD0
  have hS : va_S A s.heap s.heap [] := va_S.rf
  have hl := lv_entry ([.ref m0]) (n := 1) (Nat.le_of_ble_eq_true rfl)
  rw [lg_entry_eq]
  generalize (lg_sl ([.ref m0]) ++ List.replicate (1 - (lg_sl ([.ref m0])).length) Slot.unset).toArray = ls at hl ⊢
  have hl : lv_has ls 1 [(0, .ref m0)] := hl
  refine zr_nQ (fun Q hQ => ?_)
  obtain ⟨hvg, hxy, hvb, hvr, hkv, hzc, hze, hzb, hn6, hn8, hm8⟩ := id hva
  obtain ⟨hkd, hse, hev, hbo⟩ := id hzs
  have hok := hvg.1
  have hN := hok.1
  have hvn := hvg.2.1
  have hgr := zm_gr_of hxy
  have hs0 := hse.1
  have hs1 := hev.1
  have hs2 := hbo.1
  refine lv_aload_n hx hb dX8_image_0 rfl (lv_at hl 0 rfl) ?_
  refine va_get (D := D) (ci := 6) (v := .ref w0) (C := RX8) (T := TX8) (N := 15) hx hb hts (by decide +kernel) hown hK.1 hP 0 rfl rfl 0 (by decide) (hts (.fieldLink RX8 11 "HomeRoundsModel" "w" "[I") (by decide +kernel)) (fun _ h9 => h9) rfl dX8_image_1 ?_
  refine lv_aload_n hx hb dX8_image_4 rfl (lv_at hl 0 rfl) ?_
  refine va_get (D := D) (ci := 6) (v := .ref w1) (C := RX8) (T := TX8) (N := 15) hx hb hts (by decide +kernel) hown hK.1 hP 0 rfl rfl 1 (by decide) (hts (.fieldLink RX8 15 "HomeRoundsModel" "kept" "[I") (by decide +kernel)) (fun _ h9 => h9) rfl dX8_image_5 ?_
  have hPc := hP.sub (ws' := [(w0, .inl (E 0, 137, .inl wv)), (w1, .inl (E 0, 137, .inl kv))]) [1, 2] rfl
  have hDc := hD.sub (ws' := [(w0, .inl (E 0, 137, .inl wv)), (w1, .inl (E 0, 137, .inl kv))]) [1, 2] (by decide +kernel) rfl
  have hAc := zw_AA (wc := [(w0, .inl (E 0, 137, .inl wv)), (w1, .inl (E 0, 137, .inl kv))]) hD [1, 2] rfl
  refine zw_cv hAc hS (va_runS (As := [.ref w0, .ref w1]) (rest := []) ⟨hx, hb, hml, hown, hts⟩ (c_X8_copies l D E w0 w1 wv kv ) (va_cwS 2 hts gX8_image_X8_copies rfl rfl rfl (by decide +kernel) ⟨Nat.le_of_ble_eq_true rfl, Nat.le_of_ble_eq_true rfl⟩) (zw_S hK hPc hDc) rfl rfl hl.1 rfl (lv_room (Nat.le_of_ble_eq_true rfl)) dX8_image_8 ⟨Nat.zero_le _, Nat.zero_le _⟩) (fun u_3 H locs hw_2 hP1 hD1 hk1 hS => ?_)
  obtain ⟨fb9_4, rfl⟩ : ∃ z, z = u_3 := ⟨_, rfl⟩
  try dsimp only at hw_2 hP1 hD1
  obtain ⟨hP, hD⟩ := zw_join (wr := [(m0, .inr (6, [.ref w0, .ref w1, .ref w2, .int ik, .ref w3, .int (nI tx), .int he, .int fa, .ref w4, .ref w5, .int (nI cl), .ref w6, .ref w7, .ref w8, .ref w9]))]) (w1 := [(w0, .inl (E 0, 137, .inl wv)), (w1, .inl (E 0, 137, .inl fb9_4))]) (ws' := [(m0, .inr (6, [.ref w0, .ref w1, .ref w2, .int ik, .ref w3, .int (nI tx), .int he, .int fa, .ref w4, .ref w5, .int (nI cl), .ref w6, .ref w7, .ref w8, .ref w9])), (w0, .inl (E 0, 137, .inl wv)), (w1, .inl (E 0, 137, .inl fb9_4))]) hP hD [1, 2] [0] [0, 1, 2] rfl rfl (by decide +kernel) (by decide +kernel) hAc hk1 hP1 hD1 (by decide +kernel) rfl
  clear hP1 hD1 hk1 hPc hDc hAc
  have hcp := hw_2
  refine lv_aload_n hx hb dX8_image_11 rfl (lv_at hl 0 rfl) ?_
  refine lv_iconst (v := nI 1) hx hb dX8_image_12 (by rfl) ?_
  refine va_put (D := D) (ci := 6) (v := .int (nI 1)) (ty := .boolean) (C := RX8) (T := TX8) (N := 15) hx hb hts (by decide +kernel) tyX8 tyX8_ok nmX8 hown hK.1 hP hD hS 0 rfl rfl 3 (by decide) (hts (.fieldLink RX8 292 "HomeRoundsModel" "isKept" "Z") (by decide +kernel)) (fun _ h9 => h9) rfl (by decide +kernel) rfl rfl (Nat.le_of_ble_eq_true rfl) dX8_image_13 (fun H locs hP hD hS => ?_)
  have hP : va_P D vwCl [(m0, .inr (6, [.ref w0, .ref w1, .ref w2, .int (nI 1), .ref w3, .int (nI tx), .int he, .int fa, .ref w4, .ref w5, .int (nI cl), .ref w6, .ref w7, .ref w8, .ref w9])), (w0, .inl (E 0, 137, .inl wv)), (w1, .inl (E 0, 137, .inl fb9_4))] H := hP
  have hD : va_D A [(m0, .inr (6, [.ref w0, .ref w1, .ref w2, .int (nI 1), .ref w3, .int (nI tx), .int he, .int fa, .ref w4, .ref w5, .int (nI cl), .ref w6, .ref w7, .ref w8, .ref w9])), (w0, .inl (E 0, 137, .inl wv)), (w1, .inl (E 0, 137, .inl fb9_4))] := hD
  refine lv_aload_n hx hb dX8_image_16 rfl (lv_at hl 0 rfl) ?_
  refine va_get (D := D) (ci := 6) (v := .ref w0) (C := RX8) (T := TX8) (N := 15) hx hb hts (by decide +kernel) hown hK.1 hP 0 rfl rfl 0 (by decide) (hts (.fieldLink RX8 11 "HomeRoundsModel" "w" "[I") (by decide +kernel)) (fun _ h9 => h9) rfl dX8_image_17 ?_
  refine lv_iconst (v := nI 0) hx hb dX8_image_20 (by rfl) ?_
  refine va_iald hx hb hK.1 hP 1 0 rfl rfl (vp_in_nI (by omega) (by omega)) dX8_image_21 ?_
  refine zr_ti (y := nI N) ((congrArg wv (nI_clamp (by omega))).trans (hvn)) ?_
  subst hQ; subst hAe
  exact W.iret (v := nI N) hx hb hr (fun tz htz hWz => ⟨⟨nI N, fb9_4, rfl, ⟨rfl, hcp⟩, by rw [htz]; exact hP, hD⟩, hS.F htz⟩) hS.2.2 dX8_image_22

set_option maxHeartbeats 4000000 in
set_option maxRecDepth 100000 in
theorem c_X8_undo_0 (l : Launch) (D : va_G) (E : Nat → ClassId) (m0 : Nat) (w0 : Nat) (w1 : Nat) (w2 : Nat) (w3 : Nat) (w4 : Nat) (w5 : Nat) (w6 : Nat) (w7 : Nat) (w8 : Nat) (w9 : Nat) (ik : Int32) (tx : Nat) (he : Int32) (fa : Int32) (cl : Nat) (wv : Nat → Int32) (kv : Nat → Int32) (hik : ik = nI 0) : Met l yX8_undo wsX8_undo ({ frames := 1, cells := 0, slots := 0, locals := 22 }) (zr_P D E [.ref m0] [(m0, .inr (6, [.ref w0, .ref w1, .ref w2, .int ik, .ref w3, .int (nI tx), .int he, .int fa, .ref w4, .ref w5, .int (nI cl), .ref w6, .ref w7, .ref w8, .ref w9]))]) (zr_Qi (fun zv => zv = -3)) 0 0 (fun _ => False) := by
  refine Met.ofW (cc := cX8_undo) (maxL := 1) (ret := (some .int)) (by decide) rfl ?_
  intro p e s m args below meth c s₁ Bz hml hv
  obtain ⟨rfl, hP, hK⟩ := hv
  have hx := Bz.exec
  have hb := Bz.bytes
  have hr := Bz.returns
  have hts := atoms_spec (ws := wsX8_undo) Bz.pre
  have hown : s.vm.findClass RX8 = some m.cls := findClass_of_methodNamed Bz.named
  have hlocks := Bz.notSynchronized
  have hP : va_P D vwCl [(m0, .inr (6, [.ref w0, .ref w1, .ref w2, .int ik, .ref w3, .int (nI tx), .int he, .int fa, .ref w4, .ref w5, .int (nI cl), .ref w6, .ref w7, .ref w8, .ref w9]))] s.heap := hP
  have hS : va_S (fun _ : Nat => False) s.heap s.heap [] := va_S.rf
  have hl := lv_entry ([.ref m0]) (n := 1) (Nat.le_of_ble_eq_true rfl)
  rw [lg_entry_eq]
  generalize (lg_sl ([.ref m0]) ++ List.replicate (1 - (lg_sl ([.ref m0])).length) Slot.unset).toArray = ls at hl ⊢
  have hl : lv_has ls 1 [(0, .ref m0)] := hl
  refine zr_nQ (fun Q hQ => ?_)
  refine lv_aload_n hx hb dX8_undo_0 rfl (lv_at hl 0 rfl) ?_
  refine va_get (D := D) (ci := 6) (v := .int ik) (C := RX8) (T := TX8) (N := 15) hx hb hts (by decide +kernel) hown hK.1 hP 0 rfl rfl 3 (by decide) (hts (.fieldLink RX8 292 "HomeRoundsModel" "isKept" "Z") (by decide +kernel)) (fun _ h9 => h9) rfl dX8_undo_1 ?_
  refine lv_if_ne (tgt := 10) hx hb dX8_undo_4 (by decide) (fun cn_1 => ?_) (fun cn_1 => ?_)
  · skip
    exact absurd hik cn_1
  · skip
    refine lv_bipush (v := (-3)) hx hb dX8_undo_7 (by rfl) ?_
    subst hQ
    exact W.iret (v := (-3)) hx hb hr (fun tz htz hWz => ⟨⟨(-3), (), rfl, rfl, trivial⟩, hS.F htz⟩) hS.2.2 dX8_undo_9

set_option maxHeartbeats 4000000 in
set_option maxRecDepth 100000 in
theorem c_X8_undo_1 (l : Launch) (D : va_G) (E : Nat → ClassId) (m0 : Nat) (w0 : Nat) (w1 : Nat) (w2 : Nat) (w3 : Nat) (w4 : Nat) (w5 : Nat) (w6 : Nat) (w7 : Nat) (w8 : Nat) (w9 : Nat) (tx : Nat) (he : Int32) (fa : Int32) (cl : Nat) (wv : Nat → Int32) (N : Nat) (kv : Nat → Int32) (hk0 : kv 0 = nI N) : Met l yX8_undo wsX8_undo ({ frames := 1, cells := 0, slots := 0, locals := 22 }) (zw_P D E [.ref m0] [(m0, .inr (6, [.ref w0, .ref w1, .ref w2, .int (nI 1), .ref w3, .int (nI tx), .int he, .int fa, .ref w4, .ref w5, .int (nI cl), .ref w6, .ref w7, .ref w8, .ref w9])), (w0, .inl (E 0, 137, .inl wv)), (w1, .inl (E 0, 137, .inl kv))]) (zw_Qi D [(m0, .inr (6, [.ref w0, .ref w1, .ref w2, .int (nI 1), .ref w3, .int (nI tx), .int he, .int fa, .ref w4, .ref w5, .int (nI cl), .ref w6, .ref w7, .ref w8, .ref w9])), (w0, .inl (E 0, 137, .inl wv)), (w1, .inl (E 0, 137, .inl kv))] (fun zv (u : (Nat → Int32)) => zv = nI N ∧ ∀ j, j < 137 → u j = kv j) (fun (u : (Nat → Int32)) => [(m0, .inr (6, [.ref w0, .ref w1, .ref w2, .int (nI 1), .ref w3, .int (nI tx), .int he, .int fa, .ref w4, .ref w5, .int (nI cl), .ref w6, .ref w7, .ref w8, .ref w9])), (w0, .inl (E 0, 137, .inl u)), (w1, .inl (E 0, 137, .inl kv))])) 0 0 (zw_A [(m0, .inr (6, [.ref w0, .ref w1, .ref w2, .int (nI 1), .ref w3, .int (nI tx), .int he, .int fa, .ref w4, .ref w5, .int (nI cl), .ref w6, .ref w7, .ref w8, .ref w9])), (w0, .inl (E 0, 137, .inl wv)), (w1, .inl (E 0, 137, .inl kv))]) := by
  refine Met.ofW (cc := cX8_undo) (maxL := 1) (ret := (some .int)) (by decide) rfl ?_
  intro p e s m args below meth c s₁ Bz hml hv
  obtain ⟨rfl, hP, hK, hD0⟩ := hv
  have hx := Bz.exec
  have hb := Bz.bytes
  have hr := Bz.returns
  have hts := atoms_spec (ws := wsX8_undo) Bz.pre
  have hown : s.vm.findClass RX8 = some m.cls := findClass_of_methodNamed Bz.named
  have hlocks := Bz.notSynchronized
  have hP : va_P D vwCl [(m0, .inr (6, [.ref w0, .ref w1, .ref w2, .int (nI 1), .ref w3, .int (nI tx), .int he, .int fa, .ref w4, .ref w5, .int (nI cl), .ref w6, .ref w7, .ref w8, .ref w9])), (w0, .inl (E 0, 137, .inl wv)), (w1, .inl (E 0, 137, .inl kv))] s.heap := hP
  obtain ⟨A, hAe⟩ : ∃ A : Nat → Prop, A = zw_A [(m0, .inr (6, [.ref w0, .ref w1, .ref w2, .int (nI 1), .ref w3, .int (nI tx), .int he, .int fa, .ref w4, .ref w5, .int (nI cl), .ref w6, .ref w7, .ref w8, .ref w9])), (w0, .inl (E 0, 137, .inl wv)), (w1, .inl (E 0, 137, .inl kv))] := ⟨_, rfl⟩
  have hD : va_D A [(m0, .inr (6, [.ref w0, .ref w1, .ref w2, .int (nI 1), .ref w3, .int (nI tx), .int he, .int fa, .ref w4, .ref w5, .int (nI cl), .ref w6, .ref w7, .ref w8, .ref w9])), (w0, .inl (E 0, 137, .inl wv)), (w1, .inl (E 0, 137, .inl kv))] := hAe ▸ zw_own hD0
  have hS : va_S A s.heap s.heap [] := va_S.rf
  have hl := lv_entry ([.ref m0]) (n := 1) (Nat.le_of_ble_eq_true rfl)
  rw [lg_entry_eq]
  generalize (lg_sl ([.ref m0]) ++ List.replicate (1 - (lg_sl ([.ref m0])).length) Slot.unset).toArray = ls at hl ⊢
  have hl : lv_has ls 1 [(0, .ref m0)] := hl
  refine zr_nQ (fun Q hQ => ?_)
  refine lv_aload_n hx hb dX8_undo_0 rfl (lv_at hl 0 rfl) ?_
  refine va_get (D := D) (ci := 6) (v := .int (nI 1)) (C := RX8) (T := TX8) (N := 15) hx hb hts (by decide +kernel) hown hK.1 hP 0 rfl rfl 3 (by decide) (hts (.fieldLink RX8 292 "HomeRoundsModel" "isKept" "Z") (by decide +kernel)) (fun _ h9 => h9) rfl dX8_undo_1 ?_
  refine lv_if_ne (tgt := 10) hx hb dX8_undo_4 (by decide) (fun cn_1 => ?_) (fun cn_1 => ?_)
  · skip
    refine lv_aload_n hx hb dX8_undo_10 rfl (lv_at hl 0 rfl) ?_
    refine va_get (D := D) (ci := 6) (v := .ref w1) (C := RX8) (T := TX8) (N := 15) hx hb hts (by decide +kernel) hown hK.1 hP 0 rfl rfl 1 (by decide) (hts (.fieldLink RX8 15 "HomeRoundsModel" "kept" "[I") (by decide +kernel)) (fun _ h9 => h9) rfl dX8_undo_11 ?_
    refine lv_aload_n hx hb dX8_undo_14 rfl (lv_at hl 0 rfl) ?_
    refine va_get (D := D) (ci := 6) (v := .ref w0) (C := RX8) (T := TX8) (N := 15) hx hb hts (by decide +kernel) hown hK.1 hP 0 rfl rfl 0 (by decide) (hts (.fieldLink RX8 11 "HomeRoundsModel" "w" "[I") (by decide +kernel)) (fun _ h9 => h9) rfl dX8_undo_15 ?_
    have hPc := hP.sub (ws' := [(w1, .inl (E 0, 137, .inl kv)), (w0, .inl (E 0, 137, .inl wv))]) [2, 1] rfl
    have hDc := hD.sub (ws' := [(w1, .inl (E 0, 137, .inl kv)), (w0, .inl (E 0, 137, .inl wv))]) [2, 1] (by decide +kernel) rfl
    have hAc := zw_AA (wc := [(w1, .inl (E 0, 137, .inl kv)), (w0, .inl (E 0, 137, .inl wv))]) hD [2, 1] rfl
    refine zw_cv hAc hS (va_runS (As := [.ref w1, .ref w0]) (rest := []) ⟨hx, hb, hml, hown, hts⟩ (c_X8_copies l D E w1 w0 kv wv ) (va_cwS 2 hts gX8_undo_X8_copies rfl rfl rfl (by decide +kernel) ⟨Nat.le_of_ble_eq_true rfl, Nat.le_of_ble_eq_true rfl⟩) (zw_S hK hPc hDc) rfl rfl hl.1 rfl (lv_room (Nat.le_of_ble_eq_true rfl)) dX8_undo_18 ⟨Nat.zero_le _, Nat.zero_le _⟩) (fun u_4 H locs hw_3 hP1 hD1 hk1 hS => ?_)
    obtain ⟨fb9_5, rfl⟩ : ∃ z, z = u_4 := ⟨_, rfl⟩
    try dsimp only at hw_3 hP1 hD1
    obtain ⟨hP, hD⟩ := zw_join (wr := [(m0, .inr (6, [.ref w0, .ref w1, .ref w2, .int (nI 1), .ref w3, .int (nI tx), .int he, .int fa, .ref w4, .ref w5, .int (nI cl), .ref w6, .ref w7, .ref w8, .ref w9]))]) (w1 := [(w1, .inl (E 0, 137, .inl kv)), (w0, .inl (E 0, 137, .inl fb9_5))]) (ws' := [(m0, .inr (6, [.ref w0, .ref w1, .ref w2, .int (nI 1), .ref w3, .int (nI tx), .int he, .int fa, .ref w4, .ref w5, .int (nI cl), .ref w6, .ref w7, .ref w8, .ref w9])), (w0, .inl (E 0, 137, .inl fb9_5)), (w1, .inl (E 0, 137, .inl kv))]) hP hD [2, 1] [0] [0, 2, 1] rfl rfl (by decide +kernel) (by decide +kernel) hAc hk1 hP1 hD1 (by decide +kernel) rfl
    clear hP1 hD1 hk1 hPc hDc hAc
    have hcp := hw_3
    refine lv_aload_n hx hb dX8_undo_21 rfl (lv_at hl 0 rfl) ?_
    refine va_get (D := D) (ci := 6) (v := .ref w0) (C := RX8) (T := TX8) (N := 15) hx hb hts (by decide +kernel) hown hK.1 hP 0 rfl rfl 0 (by decide) (hts (.fieldLink RX8 11 "HomeRoundsModel" "w" "[I") (by decide +kernel)) (fun _ h9 => h9) rfl dX8_undo_22 ?_
    refine lv_iconst (v := nI 0) hx hb dX8_undo_25 (by rfl) ?_
    refine va_iald hx hb hK.1 hP 1 0 rfl rfl (vp_in_nI (by omega) (by omega)) dX8_undo_26 ?_
    refine zr_ti (y := nI N) ((congrArg fb9_5 (nI_clamp (by omega))).trans ((hcp 0 (by omega)).trans hk0)) ?_
    subst hQ; subst hAe
    exact W.iret (v := nI N) hx hb hr (fun tz htz hWz => ⟨⟨nI N, fb9_5, rfl, ⟨rfl, hcp⟩, by rw [htz]; exact hP, hD⟩, hS.F htz⟩) hS.2.2 dX8_undo_27
  · skip
    exact absurd cn_1 (by decide)

set_option maxHeartbeats 4000000 in
set_option maxRecDepth 100000 in
theorem c_X8_count (l : Launch) (D : va_G) (E : Nat → ClassId) (m0 : Nat) (w0 : Nat) (w1 : Nat) (w2 : Nat) (w3 : Nat) (w4 : Nat) (w5 : Nat) (w6 : Nat) (w7 : Nat) (w8 : Nat) (w9 : Nat) (ik : Int32) (tx : Nat) (he : Int32) (fa : Int32) (cl : Nat) (wv : Nat → Int32) (N : Nat) (G : Nat → Nat → Nat) (P : Nat → Nat → Nat) (X : Nat → Nat) (Y : Nat → Nat) (B : Nat → Nat → Nat) (R : Nat → Nat) (kd : Nat) (sn : Nat) (sT : Nat → Nat) (sR : Nat → Nat) (sH : Nat → Nat) (en : Nat) (eW : Nat → Nat) (eN : Nat → Nat) (bn : Nat) (bT : Nat → Nat) (bN : Nat → Nat) (v : Int32) (hva : zv_all N G P X Y B R kd sn sT sR sH en eW eN bn bT bN wv) (hzs : zs_all N kd sn sT sR sH en eW eN bn bT bN) : Met l yX8_count wsX8_count ({ frames := 1, cells := 0, slots := 0, locals := 22 }) (zr_P D E [.ref m0, .int v] [(m0, .inr (6, [.ref w0, .ref w1, .ref w2, .int ik, .ref w3, .int (nI tx), .int he, .int fa, .ref w4, .ref w5, .int (nI cl), .ref w6, .ref w7, .ref w8, .ref w9])), (w0, .inl (E 0, 137, .inl wv))]) (zr_Qi (fun zv => zv = zo_count sn en bn tx (zw 4 v))) 0 0 (fun _ => False) := by
  refine Met.ofW (cc := cX8_count) (maxL := 2) (ret := (some .int)) (by decide) rfl ?_
  intro p e s m args below meth c s₁ Bz hml hv
  obtain ⟨rfl, hP, hK⟩ := hv
  have hx := Bz.exec
  have hb := Bz.bytes
  have hr := Bz.returns
  have hts := atoms_spec (ws := wsX8_count) Bz.pre
  have hown : s.vm.findClass RX8 = some m.cls := findClass_of_methodNamed Bz.named
  have hlocks := Bz.notSynchronized
  have hP : va_P D vwCl [(m0, .inr (6, [.ref w0, .ref w1, .ref w2, .int ik, .ref w3, .int (nI tx), .int he, .int fa, .ref w4, .ref w5, .int (nI cl), .ref w6, .ref w7, .ref w8, .ref w9])), (w0, .inl (E 0, 137, .inl wv))] s.heap := hP
  have hS : va_S (fun _ : Nat => False) s.heap s.heap [] := va_S.rf
  have hl := lv_entry ([.ref m0, .int v]) (n := 2) (Nat.le_of_ble_eq_true rfl)
  rw [lg_entry_eq]
  generalize (lg_sl ([.ref m0, .int v]) ++ List.replicate (2 - (lg_sl ([.ref m0, .int v])).length) Slot.unset).toArray = ls at hl ⊢
  have hl : lv_has ls 2 [(0, .ref m0), (1, .int v)] := hl
  refine zr_nQ (fun Q hQ => ?_)
  obtain ⟨hvg, hxy, hvb, hvr, hkv, hzc, hze, hzb, hn6, hn8, hm8⟩ := id hva
  obtain ⟨hkd, hse, hev, hbo⟩ := id hzs
  have hok := hvg.1
  have hN := hok.1
  have hvn := hvg.2.1
  have hgr := zm_gr_of hxy
  have hs0 := hse.1
  have hs1 := hev.1
  have hs2 := hbo.1
  refine lv_iload_n hx hb dX8_count_0 rfl (lv_at hl 1 rfl) ?_
  refine lv_iconst (v := nI 3) hx hb dX8_count_1 (by rfl) ?_
  refine lv_icmp_ne (tgt := 12) hx hb dX8_count_2 (by decide) (fun cn_1 => ?_) (fun cn_1 => ?_)
  · skip
    have hn3 := cn_1
    refine lv_iload_n hx hb dX8_count_12 rfl (lv_at hl 1 rfl) ?_
    refine lv_iconst (v := nI 0) hx hb dX8_count_13 (by rfl) ?_
    refine lv_iconst (v := nI 2) hx hb dX8_count_14 (by rfl) ?_
    refine zr_ci hP hS (va_runS (As := [.int v, .int (nI 0), .int (nI 2)]) (rest := []) ⟨hx, hb, hml, hown, hts⟩ (c_X8_isIn l D E v (nI 0) (nI 2) ) (va_cwS 3 hts gX8_count_X8_isIn rfl rfl rfl (by decide +kernel) ⟨Nat.le_of_ble_eq_true rfl, Nat.le_of_ble_eq_true rfl⟩) (zr_S hK (hP.sub (ws' := []) [] rfl)) rfl rfl hl.1 rfl (lv_room (Nat.le_of_ble_eq_true rfl)) dX8_count_15 ⟨Nat.zero_le _, Nat.zero_le _⟩) (fun r_2 H locs hw_3 hP hS => ?_)
    rcases hw_3 with ⟨rfl, hw_3⟩ | ⟨rfl, hw_3⟩
    · skip
      obtain ⟨t, ht, v_e⟩ := zn_in3 (n := 3) (by omega) (by omega) hw_3.1 hw_3.2
      have e1 : zi 3 v = true := v_e ▸ zi_t ht (by omega)
      have q1 : zq v = t := v_e ▸ zq_t (by omega)
      rw [v_e] at hl
      refine zr_ti (y := nI 1) rfl ?_
      refine lv_if_eq (tgt := 32) hx hb dX8_count_18 (by decide) (fun cn_4 => ?_) (fun cn_4 => ?_)
      · skip
        exact absurd cn_4 (by decide)
      · skip
        have hz : zw 4 v = t := by rw [v_e]; exact zw_t (by omega)
        have hcnt : wv (2 + t) = nI (zn_cnt sn en bn t) := by
          have ht3 : t = 0 ∨ t = 1 ∨ t = 2 := by omega
          rcases ht3 with h | h | h <;> subst h
          · exact hzc.1
          · exact hze.1
          · exact hzb.1
        have hc9 : zo_count sn en bn tx t = nI (zn_cnt sn en bn t) := by
          have ht3 : t = 0 ∨ t = 1 ∨ t = 2 := by omega
          rcases ht3 with h | h | h <;> subst h <;> rfl
        refine lv_aload_n hx hb dX8_count_21 rfl (lv_at hl 0 rfl) ?_
        refine va_get (D := D) (ci := 6) (v := .ref w0) (C := RX8) (T := TX8) (N := 15) hx hb hts (by decide +kernel) hown hK.1 hP 0 rfl rfl 0 (by decide) (hts (.fieldLink RX8 11 "HomeRoundsModel" "w" "[I") (by decide +kernel)) (fun _ h9 => h9) rfl dX8_count_22 ?_
        refine lv_iconst (v := nI 2) hx hb dX8_count_25 (by rfl) ?_
        refine lv_iload_n hx hb dX8_count_26 rfl (lv_at hl 1 rfl) ?_
        refine lv_iadd hx hb dX8_count_27 ?_
        refine zr_ti (y := nI (2 + t)) (nI_add _ _) ?_
        refine va_iald hx hb hK.1 hP 1 0 rfl rfl (vp_in_nI (by omega) (by omega)) dX8_count_28 ?_
        refine zr_ti (y := nI (zn_cnt sn en bn t)) ((congrArg wv (nI_clamp (by omega))).trans (hcnt)) ?_
        refine lv_goto (tgt := 34) hx hb dX8_count_29 (by decide) ?_
        subst hQ
        exact W.iret (v := nI (zn_cnt sn en bn t)) hx hb hr (fun tz htz hWz => ⟨⟨nI (zn_cnt sn en bn t), (), rfl, by rw [hz]; first | rfl | exact hc9.symm, trivial⟩, hS.F htz⟩) hS.2.2 dX8_count_34
    · skip
      have e1 : zi 3 v = false := zi_f (zn_out3 (n := 3) (by omega) hw_3)
      refine zr_ti (y := nI 0) rfl ?_
      refine lv_if_eq (tgt := 32) hx hb dX8_count_18 (by decide) (fun cn_5 => ?_) (fun cn_5 => ?_)
      · skip
        have hz : zw 4 v = 4 := zi_34 e1 hn3
        refine lv_bipush (v := (-2)) hx hb dX8_count_32 (by rfl) ?_
        subst hQ
        exact W.iret (v := (-2)) hx hb hr (fun tz htz hWz => ⟨⟨(-2), (), rfl, by rw [hz]; first | rfl | exact hc9.symm, trivial⟩, hS.F htz⟩) hS.2.2 dX8_count_34
      · skip
        exact absurd cn_5 (by decide)
  · skip
    have hz : zw 4 v = 3 := by rw [cn_1]; exact zw_t (by omega)
    refine lv_aload_n hx hb dX8_count_5 rfl (lv_at hl 0 rfl) ?_
    refine va_get (D := D) (ci := 6) (v := .int (nI tx)) (C := RX8) (T := TX8) (N := 15) hx hb hts (by decide +kernel) hown hK.1 hP 0 rfl rfl 5 (by decide) (hts (.fieldLink RX8 99 "HomeRoundsModel" "texted" "I") (by decide +kernel)) (fun _ h9 => h9) rfl dX8_count_6 ?_
    refine lv_goto (tgt := 34) hx hb dX8_count_9 (by decide) ?_
    subst hQ
    exact W.iret (v := nI tx) hx hb hr (fun tz htz hWz => ⟨⟨nI tx, (), rfl, by rw [hz]; first | rfl | exact hc9.symm, trivial⟩, hS.F htz⟩) hS.2.2 dX8_count_34

