set_option maxHeartbeats 4000000 in
set_option maxRecDepth 100000 in
theorem c_X8_exchanges (l : Launch) (D : va_G) (E : Nat → ClassId) (m0 : Nat) (w0 : Nat) (w1 : Nat) (w2 : Nat) (w3 : Nat) (w4 : Nat) (w5 : Nat) (w6 : Nat) (w7 : Nat) (w8 : Nat) (w9 : Nat) (ik : Int32) (tx : Nat) (he : Int32) (fa : Int32) (cl : Nat) (wv : Nat → Int32) (a : Nat) (b : Nat) (ha : a < 137) (hb0 : b < 137) : Met l yX8_exchanges wsX8_exchanges ({ frames := 0, cells := 0, slots := 0, locals := 0 }) (zw_P D E [.ref m0, .int (nI a), .int (nI b)] [(m0, .inr (6, [.ref w0, .ref w1, .ref w2, .int ik, .ref w3, .int (nI tx), .int he, .int fa, .ref w4, .ref w5, .int (nI cl), .ref w6, .ref w7, .ref w8, .ref w9])), (w0, .inl (E 0, 137, .inl wv))]) (zw_Qv D [(m0, .inr (6, [.ref w0, .ref w1, .ref w2, .int ik, .ref w3, .int (nI tx), .int he, .int fa, .ref w4, .ref w5, .int (nI cl), .ref w6, .ref w7, .ref w8, .ref w9])), (w0, .inl (E 0, 137, .inl wv))] (fun (u : Unit) => True) (fun (u : Unit) => [(m0, .inr (6, [.ref w0, .ref w1, .ref w2, .int ik, .ref w3, .int (nI tx), .int he, .int fa, .ref w4, .ref w5, .int (nI cl), .ref w6, .ref w7, .ref w8, .ref w9])), (w0, .inl (E 0, 137, .inl (upd (upd wv a (wv b)) b (wv a))))])) 0 0 (zw_A [(m0, .inr (6, [.ref w0, .ref w1, .ref w2, .int ik, .ref w3, .int (nI tx), .int he, .int fa, .ref w4, .ref w5, .int (nI cl), .ref w6, .ref w7, .ref w8, .ref w9])), (w0, .inl (E 0, 137, .inl wv))]) := by
  refine Met.ofW (cc := cX8_exchanges) (maxL := 4) (ret := none) (by decide) rfl ?_
  intro p e s m args below meth c s₁ Bz hml hv
  obtain ⟨rfl, hP, hK, hD0⟩ := hv
  have hx := Bz.exec
  have hb := Bz.bytes
  have hr := Bz.returns
  have hts := atoms_spec (ws := wsX8_exchanges) Bz.pre
  have hown : s.vm.findClass RX8 = some m.cls := findClass_of_methodNamed Bz.named
  have hlocks := Bz.notSynchronized
  have hP : va_P D vwCl [(m0, .inr (6, [.ref w0, .ref w1, .ref w2, .int ik, .ref w3, .int (nI tx), .int he, .int fa, .ref w4, .ref w5, .int (nI cl), .ref w6, .ref w7, .ref w8, .ref w9])), (w0, .inl (E 0, 137, .inl wv))] s.heap := hP
  obtain ⟨A, hAe⟩ : ∃ A : Nat → Prop, A = zw_A [(m0, .inr (6, [.ref w0, .ref w1, .ref w2, .int ik, .ref w3, .int (nI tx), .int he, .int fa, .ref w4, .ref w5, .int (nI cl), .ref w6, .ref w7, .ref w8, .ref w9])), (w0, .inl (E 0, 137, .inl wv))] := ⟨_, rfl⟩
  have hD : va_D A [(m0, .inr (6, [.ref w0, .ref w1, .ref w2, .int ik, .ref w3, .int (nI tx), .int he, .int fa, .ref w4, .ref w5, .int (nI cl), .ref w6, .ref w7, .ref w8, .ref w9])), (w0, .inl (E 0, 137, .inl wv))] := hAe ▸ zw_own hD0
  have hS : va_S A s.heap s.heap [] := va_S.rf
  have hl := lv_entry ([.ref m0, .int (nI a), .int (nI b)]) (n := 4) (Nat.le_of_ble_eq_true rfl)
  rw [lg_entry_eq]
  generalize (lg_sl ([.ref m0, .int (nI a), .int (nI b)]) ++ List.replicate (4 - (lg_sl ([.ref m0, .int (nI a), .int (nI b)])).length) Slot.unset).toArray = ls at hl ⊢
  have hl : lv_has ls 4 [(0, .ref m0), (1, .int (nI a)), (2, .int (nI b))] := hl
  refine zr_nQ (fun Q hQ => ?_)
  refine lv_aload_n hx hb dX8_exchanges_0 rfl (lv_at hl 0 rfl) ?_
  refine va_get (D := D) (ci := 6) (v := .ref w0) (C := RX8) (T := TX8) (N := 15) hx hb hts (by decide +kernel) hown hK.1 hP 0 rfl rfl 0 (by decide) (hts (.fieldLink RX8 11 "HomeRoundsModel" "w" "[I") (by decide +kernel)) (fun _ h9 => h9) rfl dX8_exchanges_1 ?_
  refine lv_iload_n hx hb dX8_exchanges_4 rfl (lv_at hl 1 rfl) ?_
  refine va_iald hx hb hK.1 hP 1 0 rfl rfl (vp_in_nI (by omega) (by omega)) dX8_exchanges_5 ?_
  refine zr_ti (y := wv a) ((congrArg wv (nI_clamp (by omega))).trans (rfl)) ?_
  refine lv_istore_n (lv' := [(3, .int (wv a)), (0, .ref m0), (1, .int (nI a)), (2, .int (nI b))]) hx hb dX8_exchanges_6 rfl hl (by decide) rfl (fun ls hl => ?_)
  refine lv_aload_n hx hb dX8_exchanges_7 rfl (lv_at hl 1 rfl) ?_
  refine va_get (D := D) (ci := 6) (v := .ref w0) (C := RX8) (T := TX8) (N := 15) hx hb hts (by decide +kernel) hown hK.1 hP 0 rfl rfl 0 (by decide) (hts (.fieldLink RX8 11 "HomeRoundsModel" "w" "[I") (by decide +kernel)) (fun _ h9 => h9) rfl dX8_exchanges_8 ?_
  refine lv_iload_n hx hb dX8_exchanges_11 rfl (lv_at hl 2 rfl) ?_
  refine lv_aload_n hx hb dX8_exchanges_12 rfl (lv_at hl 1 rfl) ?_
  refine va_get (D := D) (ci := 6) (v := .ref w0) (C := RX8) (T := TX8) (N := 15) hx hb hts (by decide +kernel) hown hK.1 hP 0 rfl rfl 0 (by decide) (hts (.fieldLink RX8 11 "HomeRoundsModel" "w" "[I") (by decide +kernel)) (fun _ h9 => h9) rfl dX8_exchanges_13 ?_
  refine lv_iload_n hx hb dX8_exchanges_16 rfl (lv_at hl 3 rfl) ?_
  refine va_iald hx hb hK.1 hP 1 0 rfl rfl (vp_in_nI (by omega) (by omega)) dX8_exchanges_17 ?_
  refine zr_ti (y := wv b) ((congrArg wv (nI_clamp (by omega))).trans (rfl)) ?_
  refine va_iast hx hb hK.1 hP hD hS 1 0 rfl rfl (vp_in_nI (by omega) (by omega)) dX8_exchanges_18 (fun H locs hP hD hS => ?_)
  have hP : va_P D vwCl [(m0, .inr (6, [.ref w0, .ref w1, .ref w2, .int ik, .ref w3, .int (nI tx), .int he, .int fa, .ref w4, .ref w5, .int (nI cl), .ref w6, .ref w7, .ref w8, .ref w9])), (w0, .inl (E 0, 137, .inl (upd wv (nI a).toNatClampNeg (wv b))))] H := hP
  have hD : va_D A [(m0, .inr (6, [.ref w0, .ref w1, .ref w2, .int ik, .ref w3, .int (nI tx), .int he, .int fa, .ref w4, .ref w5, .int (nI cl), .ref w6, .ref w7, .ref w8, .ref w9])), (w0, .inl (E 0, 137, .inl (upd wv (nI a).toNatClampNeg (wv b))))] := hD
  have hcz : (upd wv (nI a).toNatClampNeg (wv b)) = (upd wv a (wv b)) := by rw [nI_clamp (n := a) (by omega)]
  rw [hcz] at hP hD
  refine lv_aload_n hx hb dX8_exchanges_19 rfl (lv_at hl 1 rfl) ?_
  refine va_get (D := D) (ci := 6) (v := .ref w0) (C := RX8) (T := TX8) (N := 15) hx hb hts (by decide +kernel) hown hK.1 hP 0 rfl rfl 0 (by decide) (hts (.fieldLink RX8 11 "HomeRoundsModel" "w" "[I") (by decide +kernel)) (fun _ h9 => h9) rfl dX8_exchanges_20 ?_
  refine lv_iload_n hx hb dX8_exchanges_23 rfl (lv_at hl 3 rfl) ?_
  refine lv_iload_n hx hb dX8_exchanges_24 rfl (lv_at hl 0 rfl) ?_
  refine va_iast hx hb hK.1 hP hD hS 1 0 rfl rfl (vp_in_nI (by omega) (by omega)) dX8_exchanges_25 (fun H locs hP hD hS => ?_)
  have hP : va_P D vwCl [(m0, .inr (6, [.ref w0, .ref w1, .ref w2, .int ik, .ref w3, .int (nI tx), .int he, .int fa, .ref w4, .ref w5, .int (nI cl), .ref w6, .ref w7, .ref w8, .ref w9])), (w0, .inl (E 0, 137, .inl (upd (upd wv a (wv b)) (nI b).toNatClampNeg (wv a))))] H := hP
  have hD : va_D A [(m0, .inr (6, [.ref w0, .ref w1, .ref w2, .int ik, .ref w3, .int (nI tx), .int he, .int fa, .ref w4, .ref w5, .int (nI cl), .ref w6, .ref w7, .ref w8, .ref w9])), (w0, .inl (E 0, 137, .inl (upd (upd wv a (wv b)) (nI b).toNatClampNeg (wv a))))] := hD
  have hcz : (upd (upd wv a (wv b)) (nI b).toNatClampNeg (wv a)) = (upd (upd wv a (wv b)) b (wv a)) := by rw [nI_clamp (n := b) (by omega)]
  rw [hcz] at hP hD
  subst hQ; subst hAe
  exact W.vret hx hb hr (fun tz htz hWz => ⟨⟨(), rfl, trivial, by rw [htz]; exact hP, hD⟩, hS.F htz⟩) hS.2.2 dX8_exchanges_26

set_option maxHeartbeats 4000000 in
set_option maxRecDepth 100000 in
theorem c_X8_swaps (l : Launch) (D : va_G) (E : Nat → ClassId) (m0 : Nat) (w0 : Nat) (w1 : Nat) (w2 : Nat) (w3 : Nat) (w4 : Nat) (w5 : Nat) (w6 : Nat) (w7 : Nat) (w8 : Nat) (w9 : Nat) (ik : Int32) (tx : Nat) (he : Int32) (fa : Int32) (cl : Nat) (wv : Nat → Int32) (N : Nat) (G : Nat → Nat → Nat) (P : Nat → Nat → Nat) (r : Nat) (q : Nat) (hvg : zv_g N G P wv) (hr0 : r < N - 1) (hq0 : q < N - 1) : Met l yX8_swaps wsX8_swaps ({ frames := 1, cells := 0, slots := 0, locals := 23 }) (zw_P D E [.ref m0, .int (nI r), .int (nI q)] [(m0, .inr (6, [.ref w0, .ref w1, .ref w2, .int ik, .ref w3, .int (nI tx), .int he, .int fa, .ref w4, .ref w5, .int (nI cl), .ref w6, .ref w7, .ref w8, .ref w9])), (w0, .inl (E 0, 137, .inl wv))]) (zw_Qv D [(m0, .inr (6, [.ref w0, .ref w1, .ref w2, .int ik, .ref w3, .int (nI tx), .int he, .int fa, .ref w4, .ref w5, .int (nI cl), .ref w6, .ref w7, .ref w8, .ref w9])), (w0, .inl (E 0, 137, .inl wv))] (fun (u : (Nat → Int32)) => zv_g N (zm_sw G r q) (zm_sw P r q) u ∧ zv_off wv u) (fun (u : (Nat → Int32)) => [(m0, .inr (6, [.ref w0, .ref w1, .ref w2, .int ik, .ref w3, .int (nI tx), .int he, .int fa, .ref w4, .ref w5, .int (nI cl), .ref w6, .ref w7, .ref w8, .ref w9])), (w0, .inl (E 0, 137, .inl u))])) 0 0 (zw_A [(m0, .inr (6, [.ref w0, .ref w1, .ref w2, .int ik, .ref w3, .int (nI tx), .int he, .int fa, .ref w4, .ref w5, .int (nI cl), .ref w6, .ref w7, .ref w8, .ref w9])), (w0, .inl (E 0, 137, .inl wv))]) := by
  refine Met.ofW (cc := cX8_swaps) (maxL := 4) (ret := none) (by decide) rfl ?_
  intro p e s m args below meth c s₁ Bz hml hv
  obtain ⟨rfl, hP, hK, hD0⟩ := hv
  have hx := Bz.exec
  have hb := Bz.bytes
  have hr := Bz.returns
  have hts := atoms_spec (ws := wsX8_swaps) Bz.pre
  have hown : s.vm.findClass RX8 = some m.cls := findClass_of_methodNamed Bz.named
  have hlocks := Bz.notSynchronized
  have hP : va_P D vwCl [(m0, .inr (6, [.ref w0, .ref w1, .ref w2, .int ik, .ref w3, .int (nI tx), .int he, .int fa, .ref w4, .ref w5, .int (nI cl), .ref w6, .ref w7, .ref w8, .ref w9])), (w0, .inl (E 0, 137, .inl wv))] s.heap := hP
  obtain ⟨A, hAe⟩ : ∃ A : Nat → Prop, A = zw_A [(m0, .inr (6, [.ref w0, .ref w1, .ref w2, .int ik, .ref w3, .int (nI tx), .int he, .int fa, .ref w4, .ref w5, .int (nI cl), .ref w6, .ref w7, .ref w8, .ref w9])), (w0, .inl (E 0, 137, .inl wv))] := ⟨_, rfl⟩
  have hD : va_D A [(m0, .inr (6, [.ref w0, .ref w1, .ref w2, .int ik, .ref w3, .int (nI tx), .int he, .int fa, .ref w4, .ref w5, .int (nI cl), .ref w6, .ref w7, .ref w8, .ref w9])), (w0, .inl (E 0, 137, .inl wv))] := hAe ▸ zw_own hD0
  have hS : va_S A s.heap s.heap [] := va_S.rf
  have hl := lv_entry ([.ref m0, .int (nI r), .int (nI q)]) (n := 4) (Nat.le_of_ble_eq_true rfl)
  rw [lg_entry_eq]
  generalize (lg_sl ([.ref m0, .int (nI r), .int (nI q)]) ++ List.replicate (4 - (lg_sl ([.ref m0, .int (nI r), .int (nI q)])).length) Slot.unset).toArray = ls at hl ⊢
  have hl : lv_has ls 4 [(0, .ref m0), (1, .int (nI r)), (2, .int (nI q))] := hl
  refine zr_nQ (fun Q hQ => ?_)
  have hok := hvg.1
  have hN := hok.1
  have hvn := hvg.2.1
  refine lv_iconst (v := nI 0) hx hb dX8_swaps_0 (by rfl) ?_
  refine lv_istore_n (lv' := [(3, .int (nI 0)), (0, .ref m0), (1, .int (nI r)), (2, .int (nI q))]) hx hb dX8_swaps_1 rfl hl (by decide) rfl (fun ls hl => ?_)
  suffices KL2 : ∀ (kz : Nat) (k : Nat) (wvk : Nat → Int32) (H : Heap) (locs : List Loc) (ls : Array Slot), (N - k) < kz → (zv_swI r q k wv wvk) → (k ≤ N) → (wvk 0 = nI N) → va_P D vwCl [(m0, .inr (6, [.ref w0, .ref w1, .ref w2, .int ik, .ref w3, .int (nI tx), .int he, .int fa, .ref w4, .ref w5, .int (nI cl), .ref w6, .ref w7, .ref w8, .ref w9])), (w0, .inl (E 0, 137, .inl wvk))] H → va_D A [(m0, .inr (6, [.ref w0, .ref w1, .ref w2, .int ik, .ref w3, .int (nI tx), .int he, .int fa, .ref w4, .ref w5, .int (nI cl), .ref w6, .ref w7, .ref w8, .ref w9])), (w0, .inl (E 0, 137, .inl wvk))] → va_S A s.heap H locs → lv_has ls 4 [(0, .ref m0), (1, .int (nI r)), (2, .int (nI q)), (3, .int (nI k))] → W p l e (headSpec wsX8_swaps ({ frames := 1, cells := 0, slots := 0, locals := 23 })).room s m ([.ref m0, .int (nI r), .int (nI q)] : List Value).toArray below meth c H locs 0 0 Q (F0 m 2 ls []) from
    KL2 _ 0 wv _ _ ls (Nat.lt_succ_self _) (zv_swI_0) (by omega) (hvn) hP hD hS (lv_sub hl [1, 2, 3, 0] rfl)
  clear hP hS hl hD
  intro kz
  induction kz with
  | zero => intro k wvk H locs ls hkz; exact absurd hkz (Nat.not_lt_zero _)
  | succ kz ih2 =>
    intro k wvk H locs ls hkz hI hk hv0 hP hD hS hl
    refine lv_iload_n hx hb dX8_swaps_2 rfl (lv_at hl 3 rfl) ?_
    refine lv_aload_n hx hb dX8_swaps_3 rfl (lv_at hl 0 rfl) ?_
    refine va_get (D := D) (ci := 6) (v := .ref w0) (C := RX8) (T := TX8) (N := 15) hx hb hts (by decide +kernel) hown hK.1 hP 0 rfl rfl 0 (by decide) (hts (.fieldLink RX8 11 "HomeRoundsModel" "w" "[I") (by decide +kernel)) (fun _ h9 => h9) rfl dX8_swaps_4 ?_
    refine lv_iconst (v := nI 0) hx hb dX8_swaps_7 (by rfl) ?_
    refine va_iald hx hb hK.1 hP 1 0 rfl rfl (vp_in_nI (by omega) (by omega)) dX8_swaps_8 ?_
    refine zr_ti (y := nI N) ((congrArg wvk (nI_clamp (by omega))).trans (hv0)) ?_
    refine lv_icmp_ge (tgt := 40) hx hb dX8_swaps_9 (by decide) (fun cn_1 => ?_) (fun cn_1 => ?_)
    · skip
      have cn_1 : N ≤ k := (nI_leI (a := N) (b := k) (by omega) (by omega)).mp cn_1
      have hke : k = N := by omega
      subst hQ; subst hAe
      exact W.vret hx hb hr (fun tz htz hWz => ⟨⟨wvk, rfl, zv_sw_e hvg hr0 hq0 (by rw [hke] at hI; exact hI), by rw [htz]; exact hP, hD⟩, hS.F htz⟩) hS.2.2 dX8_swaps_40
    · skip
      have cn_1 : ¬ (N ≤ k) := fun hz => cn_1 ((nI_leI (a := N) (b := k) (by omega) (by omega)).mpr hz)
      refine lv_aload_n hx hb dX8_swaps_12 rfl (lv_at hl 0 rfl) ?_
      refine lv_bipush (v := nI 57) hx hb dX8_swaps_13 (by rfl) ?_
      refine lv_bipush (v := nI 6) hx hb dX8_swaps_15 (by rfl) ?_
      refine lv_iload_n hx hb dX8_swaps_17 rfl (lv_at hl 1 rfl) ?_
      refine lv_imul hx hb dX8_swaps_18 ?_
      refine zr_ti (y := nI (6 * r)) (pk_mul _ _) ?_
      refine lv_iadd hx hb dX8_swaps_19 ?_
      refine zr_ti (y := nI (57 + (6 * r))) (nI_add _ _) ?_
      refine lv_iload_n hx hb dX8_swaps_20 rfl (lv_at hl 3 rfl) ?_
      refine lv_iadd hx hb dX8_swaps_21 ?_
      refine zr_ti (y := nI ((57 + (6 * r)) + k)) (nI_add _ _) ?_
      refine lv_bipush (v := nI 57) hx hb dX8_swaps_22 (by rfl) ?_
      refine lv_bipush (v := nI 6) hx hb dX8_swaps_24 (by rfl) ?_
      refine lv_iload_n hx hb dX8_swaps_26 rfl (lv_at hl 2 rfl) ?_
      refine lv_imul hx hb dX8_swaps_27 ?_
      refine zr_ti (y := nI (6 * q)) (pk_mul _ _) ?_
      refine lv_iadd hx hb dX8_swaps_28 ?_
      refine zr_ti (y := nI (57 + (6 * q))) (nI_add _ _) ?_
      refine lv_iload_n hx hb dX8_swaps_29 rfl (lv_at hl 3 rfl) ?_
      refine lv_iadd hx hb dX8_swaps_30 ?_
      refine zr_ti (y := nI ((57 + (6 * q)) + k)) (nI_add _ _) ?_
      have hPc := hP.sub (ws' := [(m0, .inr (6, [.ref w0, .ref w1, .ref w2, .int ik, .ref w3, .int (nI tx), .int he, .int fa, .ref w4, .ref w5, .int (nI cl), .ref w6, .ref w7, .ref w8, .ref w9])), (w0, .inl (E 0, 137, .inl wvk))]) [0, 1] rfl
      have hDc := hD.sub (ws' := [(m0, .inr (6, [.ref w0, .ref w1, .ref w2, .int ik, .ref w3, .int (nI tx), .int he, .int fa, .ref w4, .ref w5, .int (nI cl), .ref w6, .ref w7, .ref w8, .ref w9])), (w0, .inl (E 0, 137, .inl wvk))]) [0, 1] (by decide +kernel) rfl
      have hAc := zw_AA (wc := [(m0, .inr (6, [.ref w0, .ref w1, .ref w2, .int ik, .ref w3, .int (nI tx), .int he, .int fa, .ref w4, .ref w5, .int (nI cl), .ref w6, .ref w7, .ref w8, .ref w9])), (w0, .inl (E 0, 137, .inl wvk))]) hD [0, 1] rfl
      refine zw_cv hAc hS (va_runV (As := [.int (nI ((57 + (6 * r)) + k)), .int (nI ((57 + (6 * q)) + k))]) (rest := []) ⟨hx, hb, hml, hown, hts⟩ (c_X8_exchanges l D E m0 w0 w1 w2 w3 w4 w5 w6 w7 w8 w9 ik tx he fa cl wvk (57 + 6 * r + k) (57 + 6 * q + k) (by omega) (by omega)) (cwV 2 hts gX8_swaps_X8_exchanges rfl rfl rfl (by decide +kernel) ⟨Nat.le_of_ble_eq_true rfl, Nat.le_of_ble_eq_true rfl⟩) (zw_V hK hPc hDc (ci := 6) (q0 := 0) rfl rfl) rfl rfl hl.1 rfl (lv_room (Nat.le_of_ble_eq_true rfl)) dX8_swaps_31 ⟨Nat.zero_le _, Nat.zero_le _⟩) (fun u_4 H locs hw_3 hP1 hD1 hk1 hS => ?_)
      obtain ⟨hP, hD⟩ := zw_join (wr := []) (w1 := [(m0, .inr (6, [.ref w0, .ref w1, .ref w2, .int ik, .ref w3, .int (nI tx), .int he, .int fa, .ref w4, .ref w5, .int (nI cl), .ref w6, .ref w7, .ref w8, .ref w9])), (w0, .inl (E 0, 137, .inl (upd (upd wvk (57 + 6 * r + k) (wvk (57 + 6 * q + k))) (57 + 6 * q + k) (wvk (57 + 6 * r + k)))))]) (ws' := [(m0, .inr (6, [.ref w0, .ref w1, .ref w2, .int ik, .ref w3, .int (nI tx), .int he, .int fa, .ref w4, .ref w5, .int (nI cl), .ref w6, .ref w7, .ref w8, .ref w9])), (w0, .inl (E 0, 137, .inl (upd (upd wvk (57 + 6 * r + k) (wvk (57 + 6 * q + k))) (57 + 6 * q + k) (wvk (57 + 6 * r + k)))))]) hP hD [0, 1] [] [0, 1] rfl rfl (by decide +kernel) (by decide +kernel) hAc hk1 hP1 hD1 (by decide +kernel) rfl
      clear hP1 hD1 hk1 hPc hDc hAc
      refine lv_iinc (v := nI (k + 1)) (lv' := [(3, .int (nI (k + 1))), (0, .ref m0), (1, .int (nI r)), (2, .int (nI q))]) hx hb dX8_swaps_34 hl (k := 3) rfl (nI_add _ _) (by decide) rfl (fun ls hl => ?_)
      refine lv_goto (tgt := 2) hx hb dX8_swaps_37 (by decide) ?_
      have hl : lv_has ls 4 [(0, .ref m0), (1, .int (nI r)), (2, .int (nI q)), (3, .int (nI (k + 1)))] := lv_sub hl [1, 2, 3, 0] rfl
      exact ih2 (k + 1) (upd (upd wvk (57 + 6 * r + k) (wvk (57 + 6 * q + k))) (57 + 6 * q + k) (wvk (57 + 6 * r + k))) H locs ls (by omega) (zv_swI_s (by omega) hI) (by omega) (by unfold upd; rw [if_neg (by omega), if_neg (by omega)]; exact hv0) hP hD hS hl

set_option maxHeartbeats 4000000 in
set_option maxRecDepth 100000 in
theorem c_X8_turns (l : Launch) (D : va_G) (E : Nat → ClassId) (m0 : Nat) (w0 : Nat) (w1 : Nat) (w2 : Nat) (w3 : Nat) (w4 : Nat) (w5 : Nat) (w6 : Nat) (w7 : Nat) (w8 : Nat) (w9 : Nat) (ik : Int32) (tx : Nat) (he : Int32) (fa : Int32) (cl : Nat) (wv : Nat → Int32) (N : Nat) (G : Nat → Nat → Nat) (P : Nat → Nat → Nat) (r : Nat) (k : Nat) (hvg : zv_g N G P wv) (hr0 : r < N - 1) (hk0 : k < N / 2) : Met l yX8_turns wsX8_turns ({ frames := 1, cells := 0, slots := 0, locals := 23 }) (zw_P D E [.ref m0, .int (nI r), .int (nI k)] [(m0, .inr (6, [.ref w0, .ref w1, .ref w2, .int ik, .ref w3, .int (nI tx), .int he, .int fa, .ref w4, .ref w5, .int (nI cl), .ref w6, .ref w7, .ref w8, .ref w9])), (w0, .inl (E 0, 137, .inl wv))]) (zw_Qv D [(m0, .inr (6, [.ref w0, .ref w1, .ref w2, .int ik, .ref w3, .int (nI tx), .int he, .int fa, .ref w4, .ref w5, .int (nI cl), .ref w6, .ref w7, .ref w8, .ref w9])), (w0, .inl (E 0, 137, .inl wv))] (fun (u : (Nat → Int32)) => zv_g N (zm_tuG G r k) (zm_tuP P r k) u ∧ zv_off wv u) (fun (u : (Nat → Int32)) => [(m0, .inr (6, [.ref w0, .ref w1, .ref w2, .int ik, .ref w3, .int (nI tx), .int he, .int fa, .ref w4, .ref w5, .int (nI cl), .ref w6, .ref w7, .ref w8, .ref w9])), (w0, .inl (E 0, 137, .inl u))])) 0 0 (zw_A [(m0, .inr (6, [.ref w0, .ref w1, .ref w2, .int ik, .ref w3, .int (nI tx), .int he, .int fa, .ref w4, .ref w5, .int (nI cl), .ref w6, .ref w7, .ref w8, .ref w9])), (w0, .inl (E 0, 137, .inl wv))]) := by
  refine Met.ofW (cc := cX8_turns) (maxL := 3) (ret := none) (by decide) rfl ?_
  intro p e s m args below meth c s₁ Bz hml hv
  obtain ⟨rfl, hP, hK, hD0⟩ := hv
  have hx := Bz.exec
  have hb := Bz.bytes
  have hr := Bz.returns
  have hts := atoms_spec (ws := wsX8_turns) Bz.pre
  have hown : s.vm.findClass RX8 = some m.cls := findClass_of_methodNamed Bz.named
  have hlocks := Bz.notSynchronized
  have hP : va_P D vwCl [(m0, .inr (6, [.ref w0, .ref w1, .ref w2, .int ik, .ref w3, .int (nI tx), .int he, .int fa, .ref w4, .ref w5, .int (nI cl), .ref w6, .ref w7, .ref w8, .ref w9])), (w0, .inl (E 0, 137, .inl wv))] s.heap := hP
  obtain ⟨A, hAe⟩ : ∃ A : Nat → Prop, A = zw_A [(m0, .inr (6, [.ref w0, .ref w1, .ref w2, .int ik, .ref w3, .int (nI tx), .int he, .int fa, .ref w4, .ref w5, .int (nI cl), .ref w6, .ref w7, .ref w8, .ref w9])), (w0, .inl (E 0, 137, .inl wv))] := ⟨_, rfl⟩
  have hD : va_D A [(m0, .inr (6, [.ref w0, .ref w1, .ref w2, .int ik, .ref w3, .int (nI tx), .int he, .int fa, .ref w4, .ref w5, .int (nI cl), .ref w6, .ref w7, .ref w8, .ref w9])), (w0, .inl (E 0, 137, .inl wv))] := hAe ▸ zw_own hD0
  have hS : va_S A s.heap s.heap [] := va_S.rf
  have hl := lv_entry ([.ref m0, .int (nI r), .int (nI k)]) (n := 3) (Nat.le_of_ble_eq_true rfl)
  rw [lg_entry_eq]
  generalize (lg_sl ([.ref m0, .int (nI r), .int (nI k)]) ++ List.replicate (3 - (lg_sl ([.ref m0, .int (nI r), .int (nI k)])).length) Slot.unset).toArray = ls at hl ⊢
  have hl : lv_has ls 3 [(0, .ref m0), (1, .int (nI r)), (2, .int (nI k))] := hl
  refine zr_nQ (fun Q hQ => ?_)
  have hok := hvg.1
  have hN := hok.1
  have hvn := hvg.2.1
  refine lv_aload_n hx hb dX8_turns_0 rfl (lv_at hl 0 rfl) ?_
  refine lv_aload_n hx hb dX8_turns_1 rfl (lv_at hl 0 rfl) ?_
  refine lv_iload_n hx hb dX8_turns_2 rfl (lv_at hl 1 rfl) ?_
  refine lv_iload_n hx hb dX8_turns_3 rfl (lv_at hl 2 rfl) ?_
  refine lv_iconst (v := nI 0) hx hb dX8_turns_4 (by rfl) ?_
  refine zr_ci hP hS (va_runV (As := [.int (nI r), .int (nI k), .int (nI 0)]) (rest := [.ref m0]) ⟨hx, hb, hml, hown, hts⟩ (c_X8_at l D E m0 w0 w1 w2 w3 w4 w5 w6 w7 w8 w9 ik tx he fa cl wv r k 0 ) (cwV 3 hts gX8_turns_X8_at rfl rfl rfl (by decide +kernel) ⟨Nat.le_of_ble_eq_true rfl, Nat.le_of_ble_eq_true rfl⟩) (zr_V hK (hP.sub (ws' := [(m0, .inr (6, [.ref w0, .ref w1, .ref w2, .int ik, .ref w3, .int (nI tx), .int he, .int fa, .ref w4, .ref w5, .int (nI cl), .ref w6, .ref w7, .ref w8, .ref w9])), (w0, .inl (E 0, 137, .inl wv))]) [0, 1] rfl) (ci := 6) (q0 := 0) rfl rfl) rfl rfl hl.1 rfl (lv_room (Nat.le_of_ble_eq_true rfl)) dX8_turns_5 ⟨Nat.zero_le _, Nat.zero_le _⟩) (fun r_1 H locs hw_2 hP hS => ?_)
  subst hw_2
  refine lv_aload_n hx hb dX8_turns_8 rfl (lv_at hl 0 rfl) ?_
  refine lv_iload_n hx hb dX8_turns_9 rfl (lv_at hl 1 rfl) ?_
  refine lv_iload_n hx hb dX8_turns_10 rfl (lv_at hl 2 rfl) ?_
  refine lv_iconst (v := nI 1) hx hb dX8_turns_11 (by rfl) ?_
  refine zr_ci hP hS (va_runV (As := [.int (nI r), .int (nI k), .int (nI 1)]) (rest := [.int (nI (57 + 6 * r + 2 * k + 0)), .ref m0]) ⟨hx, hb, hml, hown, hts⟩ (c_X8_at l D E m0 w0 w1 w2 w3 w4 w5 w6 w7 w8 w9 ik tx he fa cl wv r k 1 ) (cwV 3 hts gX8_turns_X8_at rfl rfl rfl (by decide +kernel) ⟨Nat.le_of_ble_eq_true rfl, Nat.le_of_ble_eq_true rfl⟩) (zr_V hK (hP.sub (ws' := [(m0, .inr (6, [.ref w0, .ref w1, .ref w2, .int ik, .ref w3, .int (nI tx), .int he, .int fa, .ref w4, .ref w5, .int (nI cl), .ref w6, .ref w7, .ref w8, .ref w9])), (w0, .inl (E 0, 137, .inl wv))]) [0, 1] rfl) (ci := 6) (q0 := 0) rfl rfl) rfl rfl hl.1 rfl (lv_room (Nat.le_of_ble_eq_true rfl)) dX8_turns_12 ⟨Nat.zero_le _, Nat.zero_le _⟩) (fun r_3 H locs hw_4 hP hS => ?_)
  subst hw_4
  have hPc := hP.sub (ws' := [(m0, .inr (6, [.ref w0, .ref w1, .ref w2, .int ik, .ref w3, .int (nI tx), .int he, .int fa, .ref w4, .ref w5, .int (nI cl), .ref w6, .ref w7, .ref w8, .ref w9])), (w0, .inl (E 0, 137, .inl wv))]) [0, 1] rfl
  have hDc := hD.sub (ws' := [(m0, .inr (6, [.ref w0, .ref w1, .ref w2, .int ik, .ref w3, .int (nI tx), .int he, .int fa, .ref w4, .ref w5, .int (nI cl), .ref w6, .ref w7, .ref w8, .ref w9])), (w0, .inl (E 0, 137, .inl wv))]) [0, 1] (by decide +kernel) rfl
  have hAc := zw_AA (wc := [(m0, .inr (6, [.ref w0, .ref w1, .ref w2, .int ik, .ref w3, .int (nI tx), .int he, .int fa, .ref w4, .ref w5, .int (nI cl), .ref w6, .ref w7, .ref w8, .ref w9])), (w0, .inl (E 0, 137, .inl wv))]) hD [0, 1] rfl
  refine zw_cv hAc hS (va_runV (As := [.int (nI (57 + 6 * r + 2 * k + 0)), .int (nI (57 + 6 * r + 2 * k + 1))]) (rest := []) ⟨hx, hb, hml, hown, hts⟩ (c_X8_exchanges l D E m0 w0 w1 w2 w3 w4 w5 w6 w7 w8 w9 ik tx he fa cl wv (57 + 6 * r + 2 * k + 0) (57 + 6 * r + 2 * k + 1) (by omega) (by omega)) (cwV 2 hts gX8_turns_X8_exchanges rfl rfl rfl (by decide +kernel) ⟨Nat.le_of_ble_eq_true rfl, Nat.le_of_ble_eq_true rfl⟩) (zw_V hK hPc hDc (ci := 6) (q0 := 0) rfl rfl) rfl rfl hl.1 rfl (lv_room (Nat.le_of_ble_eq_true rfl)) dX8_turns_15 ⟨Nat.zero_le _, Nat.zero_le _⟩) (fun u_7 H locs hw_6 hP1 hD1 hk1 hS => ?_)
  obtain ⟨hP, hD⟩ := zw_join (wr := []) (w1 := [(m0, .inr (6, [.ref w0, .ref w1, .ref w2, .int ik, .ref w3, .int (nI tx), .int he, .int fa, .ref w4, .ref w5, .int (nI cl), .ref w6, .ref w7, .ref w8, .ref w9])), (w0, .inl (E 0, 137, .inl (upd (upd wv (57 + 6 * r + 2 * k + 0) (wv (57 + 6 * r + 2 * k + 1))) (57 + 6 * r + 2 * k + 1) (wv (57 + 6 * r + 2 * k + 0)))))]) (ws' := [(m0, .inr (6, [.ref w0, .ref w1, .ref w2, .int ik, .ref w3, .int (nI tx), .int he, .int fa, .ref w4, .ref w5, .int (nI cl), .ref w6, .ref w7, .ref w8, .ref w9])), (w0, .inl (E 0, 137, .inl (upd (upd wv (57 + 6 * r + 2 * k + 0) (wv (57 + 6 * r + 2 * k + 1))) (57 + 6 * r + 2 * k + 1) (wv (57 + 6 * r + 2 * k + 0)))))]) hP hD [0, 1] [] [0, 1] rfl rfl (by decide +kernel) (by decide +kernel) hAc hk1 hP1 hD1 (by decide +kernel) rfl
  clear hP1 hD1 hk1 hPc hDc hAc
  subst hQ; subst hAe
  exact W.vret hx hb hr (fun tz htz hWz => ⟨⟨upd (upd wv (57 + 6 * r + 2 * k + 0) (wv (57 + 6 * r + 2 * k + 1))) (57 + 6 * r + 2 * k + 1) (wv (57 + 6 * r + 2 * k + 0)), rfl, zv_tu_e hvg hr0 hk0, by rw [htz]; exact hP, hD⟩, hS.F htz⟩) hS.2.2 dX8_turns_18

set_option maxHeartbeats 4000000 in
set_option maxRecDepth 100000 in
theorem c_X8_stands (l : Launch) (D : va_G) (E : Nat → ClassId) (m0 : Nat) (w0 : Nat) (w1 : Nat) (w2 : Nat) (w3 : Nat) (w4 : Nat) (w5 : Nat) (w6 : Nat) (w7 : Nat) (w8 : Nat) (w9 : Nat) (ik : Int32) (tx : Nat) (he : Int32) (fa : Int32) (cl : Nat) (wv : Nat → Int32) (N : Nat) (G : Nat → Nat → Nat) (P : Nat → Nat → Nat) (i : Nat) (j : Nat) (hvg : zv_g N G P wv) (hi0 : i < N) (hj0 : j < N) : Met l yX8_stands wsX8_stands ({ frames := 1, cells := 0, slots := 0, locals := 20 }) (zw_P D E [.ref m0, .int (nI i), .int (nI j)] [(m0, .inr (6, [.ref w0, .ref w1, .ref w2, .int ik, .ref w3, .int (nI tx), .int he, .int fa, .ref w4, .ref w5, .int (nI cl), .ref w6, .ref w7, .ref w8, .ref w9])), (w0, .inl (E 0, 137, .inl wv))]) (zw_Qv D [(m0, .inr (6, [.ref w0, .ref w1, .ref w2, .int ik, .ref w3, .int (nI tx), .int he, .int fa, .ref w4, .ref w5, .int (nI cl), .ref w6, .ref w7, .ref w8, .ref w9])), (w0, .inl (E 0, 137, .inl wv))] (fun (u : (Nat → Int32)) => zv_g N (zm_exG G i j) (zm_exP P i j) u ∧ zv_off wv u) (fun (u : (Nat → Int32)) => [(m0, .inr (6, [.ref w0, .ref w1, .ref w2, .int ik, .ref w3, .int (nI tx), .int he, .int fa, .ref w4, .ref w5, .int (nI cl), .ref w6, .ref w7, .ref w8, .ref w9])), (w0, .inl (E 0, 137, .inl u))])) 0 0 (zw_A [(m0, .inr (6, [.ref w0, .ref w1, .ref w2, .int ik, .ref w3, .int (nI tx), .int he, .int fa, .ref w4, .ref w5, .int (nI cl), .ref w6, .ref w7, .ref w8, .ref w9])), (w0, .inl (E 0, 137, .inl wv))]) := by
  refine Met.ofW (cc := cX8_stands) (maxL := 6) (ret := none) (by decide) rfl ?_
  intro p e s m args below meth c s₁ Bz hml hv
  obtain ⟨rfl, hP, hK, hD0⟩ := hv
  have hx := Bz.exec
  have hb := Bz.bytes
  have hr := Bz.returns
  have hts := atoms_spec (ws := wsX8_stands) Bz.pre
  have hown : s.vm.findClass RX8 = some m.cls := findClass_of_methodNamed Bz.named
  have hlocks := Bz.notSynchronized
  have hP : va_P D vwCl [(m0, .inr (6, [.ref w0, .ref w1, .ref w2, .int ik, .ref w3, .int (nI tx), .int he, .int fa, .ref w4, .ref w5, .int (nI cl), .ref w6, .ref w7, .ref w8, .ref w9])), (w0, .inl (E 0, 137, .inl wv))] s.heap := hP
  obtain ⟨A, hAe⟩ : ∃ A : Nat → Prop, A = zw_A [(m0, .inr (6, [.ref w0, .ref w1, .ref w2, .int ik, .ref w3, .int (nI tx), .int he, .int fa, .ref w4, .ref w5, .int (nI cl), .ref w6, .ref w7, .ref w8, .ref w9])), (w0, .inl (E 0, 137, .inl wv))] := ⟨_, rfl⟩
  have hD : va_D A [(m0, .inr (6, [.ref w0, .ref w1, .ref w2, .int ik, .ref w3, .int (nI tx), .int he, .int fa, .ref w4, .ref w5, .int (nI cl), .ref w6, .ref w7, .ref w8, .ref w9])), (w0, .inl (E 0, 137, .inl wv))] := hAe ▸ zw_own hD0
  have hS : va_S A s.heap s.heap [] := va_S.rf
  have hl := lv_entry ([.ref m0, .int (nI i), .int (nI j)]) (n := 6) (Nat.le_of_ble_eq_true rfl)
  rw [lg_entry_eq]
  generalize (lg_sl ([.ref m0, .int (nI i), .int (nI j)]) ++ List.replicate (6 - (lg_sl ([.ref m0, .int (nI i), .int (nI j)])).length) Slot.unset).toArray = ls at hl ⊢
  have hl : lv_has ls 6 [(0, .ref m0), (1, .int (nI i)), (2, .int (nI j))] := hl
  refine zr_nQ (fun Q hQ => ?_)
  have hok := hvg.1
  have hN := hok.1
  have hvn := hvg.2.1
  have hokx := zm_ex_ok hok hi0 hj0
  refine lv_iconst (v := nI 0) hx hb dX8_stands_0 (by rfl) ?_
  refine lv_istore_n (lv' := [(3, .int (nI 0)), (0, .ref m0), (1, .int (nI i)), (2, .int (nI j))]) hx hb dX8_stands_1 rfl hl (by decide) rfl (fun ls hl => ?_)
  suffices KL2 : ∀ (kz : Nat) (r : Nat) (wvr : Nat → Int32) (H : Heap) (locs : List Loc) (ls : Array Slot), (N - r) < kz → (zv_done N (zm_exG G i j) G r 0 wv wvr) → (r ≤ N - 1) → va_P D vwCl [(m0, .inr (6, [.ref w0, .ref w1, .ref w2, .int ik, .ref w3, .int (nI tx), .int he, .int fa, .ref w4, .ref w5, .int (nI cl), .ref w6, .ref w7, .ref w8, .ref w9])), (w0, .inl (E 0, 137, .inl wvr))] H → va_D A [(m0, .inr (6, [.ref w0, .ref w1, .ref w2, .int ik, .ref w3, .int (nI tx), .int he, .int fa, .ref w4, .ref w5, .int (nI cl), .ref w6, .ref w7, .ref w8, .ref w9])), (w0, .inl (E 0, 137, .inl wvr))] → va_S A s.heap H locs → lv_has ls 6 [(0, .ref m0), (1, .int (nI i)), (2, .int (nI j)), (3, .int (nI r))] → W p l e (headSpec wsX8_stands ({ frames := 1, cells := 0, slots := 0, locals := 20 })).room s m ([.ref m0, .int (nI i), .int (nI j)] : List Value).toArray below meth c H locs 0 0 Q (F0 m 2 ls []) from
    KL2 _ 0 wv _ _ ls (Nat.lt_succ_self _) (⟨fun _ _ _ _ hd => by omega, fun q x hq hx _ => hvg.2.2 q x hq hx, zv_off_r⟩) (by omega) hP hD hS (lv_sub hl [1, 2, 3, 0] rfl)
  clear hP hS hl hD
  intro kz
  induction kz with
  | zero => intro r wvr H locs ls hkz; exact absurd hkz (Nat.not_lt_zero _)
  | succ kz ih2 =>
    intro r wvr H locs ls hkz hI hrl hP hD hS hl
    have hv0 := (hI.2.2 0 (by omega)).trans hvn
    refine lv_iload_n hx hb dX8_stands_2 rfl (lv_at hl 3 rfl) ?_
    refine lv_aload_n hx hb dX8_stands_3 rfl (lv_at hl 0 rfl) ?_
    refine zr_ci hP hS (va_runV (As := []) (rest := [.int (nI r)]) ⟨hx, hb, hml, hown, hts⟩ (c_X8_rounds l D E m0 w0 w1 w2 w3 w4 w5 w6 w7 w8 w9 ik tx he fa cl wvr N (hv0) (hN)) (cwV 0 hts gX8_stands_X8_rounds rfl rfl rfl (by decide +kernel) ⟨Nat.le_of_ble_eq_true rfl, Nat.le_of_ble_eq_true rfl⟩) (zr_V hK (hP.sub (ws' := [(m0, .inr (6, [.ref w0, .ref w1, .ref w2, .int ik, .ref w3, .int (nI tx), .int he, .int fa, .ref w4, .ref w5, .int (nI cl), .ref w6, .ref w7, .ref w8, .ref w9])), (w0, .inl (E 0, 137, .inl wvr))]) [0, 1] rfl) (ci := 6) (q0 := 0) rfl rfl) rfl rfl hl.1 rfl (lv_room (Nat.le_of_ble_eq_true rfl)) dX8_stands_4 ⟨Nat.zero_le _, Nat.zero_le _⟩) (fun r_1 H locs hw_2 hP hS => ?_)
    subst hw_2
    refine lv_icmp_ge (tgt := 92) hx hb dX8_stands_7 (by decide) (fun cn_3 => ?_) (fun cn_3 => ?_)
    · skip
      have cn_3 : N - 1 ≤ r := (nI_leI (a := N - 1) (b := r) (by omega) (by omega)).mp cn_3
      have hre : N - 1 ≤ r := by omega
      subst hQ; subst hAe
      exact W.vret hx hb hr (fun tz htz hWz => ⟨⟨wvr, rfl, zv_done_e hokx hvn hre hI, by rw [htz]; exact hP, hD⟩, hS.F htz⟩) hS.2.2 dX8_stands_92
    · skip
      have cn_3 : ¬ (N - 1 ≤ r) := fun hz => cn_3 ((nI_leI (a := N - 1) (b := r) (by omega) (by omega)).mpr hz)
      have hrr : r < N - 1 := by omega
      refine lv_iconst (v := nI 0) hx hb dX8_stands_10 (by rfl) ?_
      refine lv_istore (lv' := [(4, .int (nI 0)), (0, .ref m0), (1, .int (nI i)), (2, .int (nI j)), (3, .int (nI r))]) hx hb dX8_stands_11 hl (by decide) rfl (fun ls hl => ?_)
      suffices KL13 : ∀ (kz : Nat) (k : Nat) (wvk : Nat → Int32) (H : Heap) (locs : List Loc) (ls : Array Slot), (N - k) < kz → (zv_done N (zm_exG G i j) G r k wv wvk) → (k ≤ N) → va_P D vwCl [(m0, .inr (6, [.ref w0, .ref w1, .ref w2, .int ik, .ref w3, .int (nI tx), .int he, .int fa, .ref w4, .ref w5, .int (nI cl), .ref w6, .ref w7, .ref w8, .ref w9])), (w0, .inl (E 0, 137, .inl wvk))] H → va_D A [(m0, .inr (6, [.ref w0, .ref w1, .ref w2, .int ik, .ref w3, .int (nI tx), .int he, .int fa, .ref w4, .ref w5, .int (nI cl), .ref w6, .ref w7, .ref w8, .ref w9])), (w0, .inl (E 0, 137, .inl wvk))] → va_S A s.heap H locs → lv_has ls 6 [(0, .ref m0), (1, .int (nI i)), (2, .int (nI j)), (3, .int (nI r)), (4, .int (nI k))] → W p l e (headSpec wsX8_stands ({ frames := 1, cells := 0, slots := 0, locals := 20 })).room s m ([.ref m0, .int (nI i), .int (nI j)] : List Value).toArray below meth c H locs 0 0 Q (F0 m 13 ls []) from
        KL13 _ 0 wvr _ _ ls (Nat.lt_succ_self _) (hI) (by omega) hP hD hS (lv_sub hl [1, 2, 3, 4, 0] rfl)
      clear hP hS hl hD
      intro kz
      induction kz with
      | zero => intro k wvk H locs ls hkz; exact absurd hkz (Nat.not_lt_zero _)
      | succ kz ih13 =>
        intro k wvk H locs ls hkz hI2 hk2 hP hD hS hl
        have hv0 := (hI2.2.2 0 (by omega)).trans hvn
        refine lv_iload hx hb dX8_stands_13 (lv_at hl 4 rfl) ?_
        refine lv_aload_n hx hb dX8_stands_15 rfl (lv_at hl 0 rfl) ?_
        refine va_get (D := D) (ci := 6) (v := .ref w0) (C := RX8) (T := TX8) (N := 15) hx hb hts (by decide +kernel) hown hK.1 hP 0 rfl rfl 0 (by decide) (hts (.fieldLink RX8 11 "HomeRoundsModel" "w" "[I") (by decide +kernel)) (fun _ h9 => h9) rfl dX8_stands_16 ?_
        refine lv_iconst (v := nI 0) hx hb dX8_stands_19 (by rfl) ?_
        refine va_iald hx hb hK.1 hP 1 0 rfl rfl (vp_in_nI (by omega) (by omega)) dX8_stands_20 ?_
        refine zr_ti (y := nI N) ((congrArg wvk (nI_clamp (by omega))).trans (hv0)) ?_
        refine lv_icmp_ge (tgt := 86) hx hb dX8_stands_21 (by decide) (fun cn_4 => ?_) (fun cn_4 => ?_)
        · skip
          have cn_4 : N ≤ k := (nI_leI (a := N) (b := k) (by omega) (by omega)).mp cn_4
          refine lv_iinc (v := nI (r + 1)) (lv' := [(3, .int (nI (r + 1))), (0, .ref m0), (1, .int (nI i)), (2, .int (nI j)), (4, .int (nI k))]) hx hb dX8_stands_86 hl (k := 3) rfl (nI_add _ _) (by decide) rfl (fun ls hl => ?_)
          refine lv_goto (tgt := 2) hx hb dX8_stands_89 (by decide) ?_
          have hl : lv_has ls 6 [(0, .ref m0), (1, .int (nI i)), (2, .int (nI j)), (3, .int (nI (r + 1)))] := lv_sub hl [1, 2, 3, 0] rfl
          exact ih2 (r + 1) wvk H locs ls (by omega) (zv_done_r (by omega) hI2) (by omega) hP hD hS hl
        · skip
          have cn_4 : ¬ (N ≤ k) := fun hz => cn_4 ((nI_leI (a := N) (b := k) (by omega) (by omega)).mpr hz)
          have hkk : k < N := by omega
          have hgk := hI2.2.1 r k hrr hkk (Or.inr ⟨rfl, Nat.le_refl _⟩)
          have hg9 := zm_G_lt hok hrr hkk
          refine lv_bipush (v := nI 57) hx hb dX8_stands_24 (by rfl) ?_
          refine lv_bipush (v := nI 6) hx hb dX8_stands_26 (by rfl) ?_
          refine lv_iload_n hx hb dX8_stands_28 rfl (lv_at hl 3 rfl) ?_
          refine lv_imul hx hb dX8_stands_29 ?_
          refine zr_ti (y := nI (6 * r)) (pk_mul _ _) ?_
          refine lv_iadd hx hb dX8_stands_30 ?_
          refine zr_ti (y := nI (57 + (6 * r))) (nI_add _ _) ?_
          refine lv_iload hx hb dX8_stands_31 (lv_at hl 4 rfl) ?_
          refine lv_iadd hx hb dX8_stands_33 ?_
          refine zr_ti (y := nI ((57 + (6 * r)) + k)) (nI_add _ _) ?_
          refine lv_istore (lv' := [(5, .int (nI ((57 + (6 * r)) + k))), (0, .ref m0), (1, .int (nI i)), (2, .int (nI j)), (3, .int (nI r)), (4, .int (nI k))]) hx hb dX8_stands_34 hl (by decide) rfl (fun ls hl => ?_)
          refine lv_aload_n hx hb dX8_stands_36 rfl (lv_at hl 1 rfl) ?_
          refine va_get (D := D) (ci := 6) (v := .ref w0) (C := RX8) (T := TX8) (N := 15) hx hb hts (by decide +kernel) hown hK.1 hP 0 rfl rfl 0 (by decide) (hts (.fieldLink RX8 11 "HomeRoundsModel" "w" "[I") (by decide +kernel)) (fun _ h9 => h9) rfl dX8_stands_37 ?_
          refine lv_iload hx hb dX8_stands_40 (lv_at hl 0 rfl) ?_
          refine lv_aload_n hx hb dX8_stands_42 rfl (lv_at hl 1 rfl) ?_
          refine va_get (D := D) (ci := 6) (v := .ref w0) (C := RX8) (T := TX8) (N := 15) hx hb hts (by decide +kernel) hown hK.1 hP 0 rfl rfl 0 (by decide) (hts (.fieldLink RX8 11 "HomeRoundsModel" "w" "[I") (by decide +kernel)) (fun _ h9 => h9) rfl dX8_stands_43 ?_
          refine lv_iload hx hb dX8_stands_46 (lv_at hl 0 rfl) ?_
          refine va_iald hx hb hK.1 hP 1 0 rfl rfl (vp_in_nI (by omega) (by omega)) dX8_stands_48 ?_
          refine zr_ti (y := nI (G r k)) ((congrArg wvk (nI_clamp (by omega))).trans (hgk)) ?_
          refine lv_iload_n hx hb dX8_stands_49 rfl (lv_at hl 2 rfl) ?_
          refine lv_icmp_ne (tgt := 57) hx hb dX8_stands_50 (by decide) (fun cn_5 => ?_) (fun cn_5 => ?_)
          · skip
            have cn_5 : ¬ (G r k = i) := fun hz => cn_5 ((nI_eq (a := G r k) (b := i) (by omega) (by omega)).mpr hz)
            have h1 := cn_5
            refine lv_aload_n hx hb dX8_stands_57 rfl (lv_at hl 1 rfl) ?_
            refine va_get (D := D) (ci := 6) (v := .ref w0) (C := RX8) (T := TX8) (N := 15) hx hb hts (by decide +kernel) hown hK.1 hP 0 rfl rfl 0 (by decide) (hts (.fieldLink RX8 11 "HomeRoundsModel" "w" "[I") (by decide +kernel)) (fun _ h9 => h9) rfl dX8_stands_58 ?_
            refine lv_iload hx hb dX8_stands_61 (lv_at hl 0 rfl) ?_
            refine va_iald hx hb hK.1 hP 1 0 rfl rfl (vp_in_nI (by omega) (by omega)) dX8_stands_63 ?_
            refine zr_ti (y := nI (G r k)) ((congrArg wvk (nI_clamp (by omega))).trans (hgk)) ?_
            refine lv_iload_n hx hb dX8_stands_64 rfl (lv_at hl 3 rfl) ?_
            refine lv_icmp_ne (tgt := 72) hx hb dX8_stands_65 (by decide) (fun cn_6 => ?_) (fun cn_6 => ?_)
            · skip
              have cn_6 : ¬ (G r k = j) := fun hz => cn_6 ((nI_eq (a := G r k) (b := j) (by omega) (by omega)).mpr hz)
              have h2 := cn_6
              refine lv_aload_n hx hb dX8_stands_72 rfl (lv_at hl 1 rfl) ?_
              refine va_get (D := D) (ci := 6) (v := .ref w0) (C := RX8) (T := TX8) (N := 15) hx hb hts (by decide +kernel) hown hK.1 hP 0 rfl rfl 0 (by decide) (hts (.fieldLink RX8 11 "HomeRoundsModel" "w" "[I") (by decide +kernel)) (fun _ h9 => h9) rfl dX8_stands_73 ?_
              refine lv_iload hx hb dX8_stands_76 (lv_at hl 0 rfl) ?_
              refine va_iald hx hb hK.1 hP 1 0 rfl rfl (vp_in_nI (by omega) (by omega)) dX8_stands_78 ?_
              refine zr_ti (y := nI (G r k)) ((congrArg wvk (nI_clamp (by omega))).trans (hgk)) ?_
              refine va_iast hx hb hK.1 hP hD hS 1 0 rfl rfl (vp_in_nI (by omega) (by omega)) dX8_stands_79 (fun H locs hP hD hS => ?_)
              have hP : va_P D vwCl [(m0, .inr (6, [.ref w0, .ref w1, .ref w2, .int ik, .ref w3, .int (nI tx), .int he, .int fa, .ref w4, .ref w5, .int (nI cl), .ref w6, .ref w7, .ref w8, .ref w9])), (w0, .inl (E 0, 137, .inl (upd wvk (nI ((57 + (6 * r)) + k)).toNatClampNeg (nI (G r k)))))] H := hP
              have hD : va_D A [(m0, .inr (6, [.ref w0, .ref w1, .ref w2, .int ik, .ref w3, .int (nI tx), .int he, .int fa, .ref w4, .ref w5, .int (nI cl), .ref w6, .ref w7, .ref w8, .ref w9])), (w0, .inl (E 0, 137, .inl (upd wvk (nI ((57 + (6 * r)) + k)).toNatClampNeg (nI (G r k)))))] := hD
              have hcz : (upd wvk (nI ((57 + (6 * r)) + k)).toNatClampNeg (nI (G r k))) = (upd wvk ((57 + (6 * r)) + k) (nI (G r k))) := by rw [nI_clamp (n := (57 + (6 * r)) + k) (by omega)]
              rw [hcz] at hP hD
              refine lv_iinc (v := nI (k + 1)) (lv' := [(4, .int (nI (k + 1))), (5, .int (nI ((57 + (6 * r)) + k))), (0, .ref m0), (1, .int (nI i)), (2, .int (nI j)), (3, .int (nI r))]) hx hb dX8_stands_80 hl (k := 5) rfl (nI_add _ _) (by decide) rfl (fun ls hl => ?_)
              refine lv_goto (tgt := 13) hx hb dX8_stands_83 (by decide) ?_
              have hl : lv_has ls 6 [(0, .ref m0), (1, .int (nI i)), (2, .int (nI j)), (3, .int (nI r)), (4, .int (nI (k + 1)))] := lv_sub hl [2, 3, 4, 5, 0] rfl
              exact ih13 (k + 1) (upd wvk ((57 + (6 * r)) + k) (nI (G r k))) H locs ls (by omega) (zv_done_s hN hrr hkk hI2 (congrArg nI (by unfold zm_exG zm_x; repeat' split; all_goals first | rfl | assumption | omega))) (by omega) hP hD hS hl
            · skip
              have cn_6 : G r k = j := (nI_eq (a := G r k) (b := j) (by omega) (by omega)).mp cn_6
              have h2 := cn_6
              refine lv_iload_n hx hb dX8_stands_68 rfl (lv_at hl 2 rfl) ?_
              refine lv_goto (tgt := 79) hx hb dX8_stands_69 (by decide) ?_
              refine va_iast hx hb hK.1 hP hD hS 1 0 rfl rfl (vp_in_nI (by omega) (by omega)) dX8_stands_79 (fun H locs hP hD hS => ?_)
              have hP : va_P D vwCl [(m0, .inr (6, [.ref w0, .ref w1, .ref w2, .int ik, .ref w3, .int (nI tx), .int he, .int fa, .ref w4, .ref w5, .int (nI cl), .ref w6, .ref w7, .ref w8, .ref w9])), (w0, .inl (E 0, 137, .inl (upd wvk (nI ((57 + (6 * r)) + k)).toNatClampNeg (nI i))))] H := hP
              have hD : va_D A [(m0, .inr (6, [.ref w0, .ref w1, .ref w2, .int ik, .ref w3, .int (nI tx), .int he, .int fa, .ref w4, .ref w5, .int (nI cl), .ref w6, .ref w7, .ref w8, .ref w9])), (w0, .inl (E 0, 137, .inl (upd wvk (nI ((57 + (6 * r)) + k)).toNatClampNeg (nI i))))] := hD
              have hcz : (upd wvk (nI ((57 + (6 * r)) + k)).toNatClampNeg (nI i)) = (upd wvk ((57 + (6 * r)) + k) (nI i)) := by rw [nI_clamp (n := (57 + (6 * r)) + k) (by omega)]
              rw [hcz] at hP hD
              refine lv_iinc (v := nI (k + 1)) (lv' := [(4, .int (nI (k + 1))), (5, .int (nI ((57 + (6 * r)) + k))), (0, .ref m0), (1, .int (nI i)), (2, .int (nI j)), (3, .int (nI r))]) hx hb dX8_stands_80 hl (k := 5) rfl (nI_add _ _) (by decide) rfl (fun ls hl => ?_)
              refine lv_goto (tgt := 13) hx hb dX8_stands_83 (by decide) ?_
              have hl : lv_has ls 6 [(0, .ref m0), (1, .int (nI i)), (2, .int (nI j)), (3, .int (nI r)), (4, .int (nI (k + 1)))] := lv_sub hl [2, 3, 4, 5, 0] rfl
              exact ih13 (k + 1) (upd wvk ((57 + (6 * r)) + k) (nI i)) H locs ls (by omega) (zv_done_s hN hrr hkk hI2 (congrArg nI (by unfold zm_exG zm_x; repeat' split; all_goals first | rfl | assumption | omega))) (by omega) hP hD hS hl
          · skip
            have cn_5 : G r k = i := (nI_eq (a := G r k) (b := i) (by omega) (by omega)).mp cn_5
            have h1 := cn_5
            refine lv_iload_n hx hb dX8_stands_53 rfl (lv_at hl 3 rfl) ?_
            refine lv_goto (tgt := 79) hx hb dX8_stands_54 (by decide) ?_
            refine va_iast hx hb hK.1 hP hD hS 1 0 rfl rfl (vp_in_nI (by omega) (by omega)) dX8_stands_79 (fun H locs hP hD hS => ?_)
            have hP : va_P D vwCl [(m0, .inr (6, [.ref w0, .ref w1, .ref w2, .int ik, .ref w3, .int (nI tx), .int he, .int fa, .ref w4, .ref w5, .int (nI cl), .ref w6, .ref w7, .ref w8, .ref w9])), (w0, .inl (E 0, 137, .inl (upd wvk (nI ((57 + (6 * r)) + k)).toNatClampNeg (nI j))))] H := hP
            have hD : va_D A [(m0, .inr (6, [.ref w0, .ref w1, .ref w2, .int ik, .ref w3, .int (nI tx), .int he, .int fa, .ref w4, .ref w5, .int (nI cl), .ref w6, .ref w7, .ref w8, .ref w9])), (w0, .inl (E 0, 137, .inl (upd wvk (nI ((57 + (6 * r)) + k)).toNatClampNeg (nI j))))] := hD
            have hcz : (upd wvk (nI ((57 + (6 * r)) + k)).toNatClampNeg (nI j)) = (upd wvk ((57 + (6 * r)) + k) (nI j)) := by rw [nI_clamp (n := (57 + (6 * r)) + k) (by omega)]
            rw [hcz] at hP hD
            refine lv_iinc (v := nI (k + 1)) (lv' := [(4, .int (nI (k + 1))), (5, .int (nI ((57 + (6 * r)) + k))), (0, .ref m0), (1, .int (nI i)), (2, .int (nI j)), (3, .int (nI r))]) hx hb dX8_stands_80 hl (k := 5) rfl (nI_add _ _) (by decide) rfl (fun ls hl => ?_)
            refine lv_goto (tgt := 13) hx hb dX8_stands_83 (by decide) ?_
            have hl : lv_has ls 6 [(0, .ref m0), (1, .int (nI i)), (2, .int (nI j)), (3, .int (nI r)), (4, .int (nI (k + 1)))] := lv_sub hl [2, 3, 4, 5, 0] rfl
            exact ih13 (k + 1) (upd wvk ((57 + (6 * r)) + k) (nI j)) H locs ls (by omega) (zv_done_s hN hrr hkk hI2 (congrArg nI (by unfold zm_exG zm_x; repeat' split; all_goals first | rfl | assumption | omega))) (by omega) hP hD hS hl

set_option maxHeartbeats 4000000 in
set_option maxRecDepth 100000 in
theorem c_X8_plays_1 (l : Launch) (D : va_G) (E : Nat → ClassId) (m0 : Nat) (w0 : Nat) (w1 : Nat) (w2 : Nat) (w3 : Nat) (w4 : Nat) (w5 : Nat) (w6 : Nat) (w7 : Nat) (w8 : Nat) (w9 : Nat) (ik : Int32) (tx : Nat) (he : Int32) (fa : Int32) (cl : Nat) (wv : Nat → Int32) (r : Nat) (k : Nat) (one : Int32) (two : Int32) (hr5 : r < 5) (hk3 : k < 3) : Met l yX8_plays wsX8_plays ({ frames := 1, cells := 0, slots := 0, locals := 23 }) (zw_P D E [.ref m0, .int (nI r), .int (nI k), .int one, .int two, .int (nI 1)] [(m0, .inr (6, [.ref w0, .ref w1, .ref w2, .int ik, .ref w3, .int (nI tx), .int he, .int fa, .ref w4, .ref w5, .int (nI cl), .ref w6, .ref w7, .ref w8, .ref w9])), (w0, .inl (E 0, 137, .inl wv))]) (zw_Qv D [(m0, .inr (6, [.ref w0, .ref w1, .ref w2, .int ik, .ref w3, .int (nI tx), .int he, .int fa, .ref w4, .ref w5, .int (nI cl), .ref w6, .ref w7, .ref w8, .ref w9])), (w0, .inl (E 0, 137, .inl wv))] (fun (u : Unit) => True) (fun (u : Unit) => [(m0, .inr (6, [.ref w0, .ref w1, .ref w2, .int ik, .ref w3, .int (nI tx), .int he, .int fa, .ref w4, .ref w5, .int (nI cl), .ref w6, .ref w7, .ref w8, .ref w9])), (w0, .inl (E 0, 137, .inl (upd (upd wv (57 + 6 * r + 2 * k + 0) one) (57 + 6 * r + 2 * k + 1) two)))])) 0 0 (zw_A [(m0, .inr (6, [.ref w0, .ref w1, .ref w2, .int ik, .ref w3, .int (nI tx), .int he, .int fa, .ref w4, .ref w5, .int (nI cl), .ref w6, .ref w7, .ref w8, .ref w9])), (w0, .inl (E 0, 137, .inl wv))]) := by
  refine Met.ofW (cc := cX8_plays) (maxL := 6) (ret := none) (by decide) rfl ?_
  intro p e s m args below meth c s₁ Bz hml hv
  obtain ⟨rfl, hP, hK, hD0⟩ := hv
  have hx := Bz.exec
  have hb := Bz.bytes
  have hr := Bz.returns
  have hts := atoms_spec (ws := wsX8_plays) Bz.pre
  have hown : s.vm.findClass RX8 = some m.cls := findClass_of_methodNamed Bz.named
  have hlocks := Bz.notSynchronized
  have hP : va_P D vwCl [(m0, .inr (6, [.ref w0, .ref w1, .ref w2, .int ik, .ref w3, .int (nI tx), .int he, .int fa, .ref w4, .ref w5, .int (nI cl), .ref w6, .ref w7, .ref w8, .ref w9])), (w0, .inl (E 0, 137, .inl wv))] s.heap := hP
  obtain ⟨A, hAe⟩ : ∃ A : Nat → Prop, A = zw_A [(m0, .inr (6, [.ref w0, .ref w1, .ref w2, .int ik, .ref w3, .int (nI tx), .int he, .int fa, .ref w4, .ref w5, .int (nI cl), .ref w6, .ref w7, .ref w8, .ref w9])), (w0, .inl (E 0, 137, .inl wv))] := ⟨_, rfl⟩
  have hD : va_D A [(m0, .inr (6, [.ref w0, .ref w1, .ref w2, .int ik, .ref w3, .int (nI tx), .int he, .int fa, .ref w4, .ref w5, .int (nI cl), .ref w6, .ref w7, .ref w8, .ref w9])), (w0, .inl (E 0, 137, .inl wv))] := hAe ▸ zw_own hD0
  have hS : va_S A s.heap s.heap [] := va_S.rf
  have hl := lv_entry ([.ref m0, .int (nI r), .int (nI k), .int one, .int two, .int (nI 1)]) (n := 6) (Nat.le_of_ble_eq_true rfl)
  rw [lg_entry_eq]
  generalize (lg_sl ([.ref m0, .int (nI r), .int (nI k), .int one, .int two, .int (nI 1)]) ++ List.replicate (6 - (lg_sl ([.ref m0, .int (nI r), .int (nI k), .int one, .int two, .int (nI 1)])).length) Slot.unset).toArray = ls at hl ⊢
  have hl : lv_has ls 6 [(0, .ref m0), (1, .int (nI r)), (2, .int (nI k)), (3, .int one), (4, .int two), (5, .int (nI 1))] := hl
  refine zr_nQ (fun Q hQ => ?_)
  refine lv_aload_n hx hb dX8_plays_0 rfl (lv_at hl 0 rfl) ?_
  refine va_get (D := D) (ci := 6) (v := .ref w0) (C := RX8) (T := TX8) (N := 15) hx hb hts (by decide +kernel) hown hK.1 hP 0 rfl rfl 0 (by decide) (hts (.fieldLink RX8 11 "HomeRoundsModel" "w" "[I") (by decide +kernel)) (fun _ h9 => h9) rfl dX8_plays_1 ?_
  refine lv_aload_n hx hb dX8_plays_4 rfl (lv_at hl 0 rfl) ?_
  refine lv_iload_n hx hb dX8_plays_5 rfl (lv_at hl 1 rfl) ?_
  refine lv_iload_n hx hb dX8_plays_6 rfl (lv_at hl 2 rfl) ?_
  refine lv_iconst (v := nI 0) hx hb dX8_plays_7 (by rfl) ?_
  refine zr_ci hP hS (va_runV (As := [.int (nI r), .int (nI k), .int (nI 0)]) (rest := [.ref w0]) ⟨hx, hb, hml, hown, hts⟩ (c_X8_at l D E m0 w0 w1 w2 w3 w4 w5 w6 w7 w8 w9 ik tx he fa cl wv r k 0 ) (cwV 3 hts gX8_plays_X8_at rfl rfl rfl (by decide +kernel) ⟨Nat.le_of_ble_eq_true rfl, Nat.le_of_ble_eq_true rfl⟩) (zr_V hK (hP.sub (ws' := [(m0, .inr (6, [.ref w0, .ref w1, .ref w2, .int ik, .ref w3, .int (nI tx), .int he, .int fa, .ref w4, .ref w5, .int (nI cl), .ref w6, .ref w7, .ref w8, .ref w9])), (w0, .inl (E 0, 137, .inl wv))]) [0, 1] rfl) (ci := 6) (q0 := 0) rfl rfl) rfl rfl hl.1 rfl (lv_room (Nat.le_of_ble_eq_true rfl)) dX8_plays_8 ⟨Nat.zero_le _, Nat.zero_le _⟩) (fun r_1 H locs hw_2 hP hS => ?_)
  subst hw_2
  refine lv_iload hx hb dX8_plays_11 (lv_at hl 5 rfl) ?_
  refine lv_if_eq (tgt := 20) hx hb dX8_plays_13 (by decide) (fun cn_3 => ?_) (fun cn_3 => ?_)
  · skip
    exact absurd cn_3 (by decide)
  · skip
    refine lv_iload_n hx hb dX8_plays_16 rfl (lv_at hl 3 rfl) ?_
    refine lv_goto (tgt := 22) hx hb dX8_plays_17 (by decide) ?_
    refine va_iast hx hb hK.1 hP hD hS 1 0 rfl rfl (vp_in_nI (by omega) (by omega)) dX8_plays_22 (fun H locs hP hD hS => ?_)
    have hP : va_P D vwCl [(m0, .inr (6, [.ref w0, .ref w1, .ref w2, .int ik, .ref w3, .int (nI tx), .int he, .int fa, .ref w4, .ref w5, .int (nI cl), .ref w6, .ref w7, .ref w8, .ref w9])), (w0, .inl (E 0, 137, .inl (upd wv (nI (57 + 6 * r + 2 * k + 0)).toNatClampNeg one)))] H := hP
    have hD : va_D A [(m0, .inr (6, [.ref w0, .ref w1, .ref w2, .int ik, .ref w3, .int (nI tx), .int he, .int fa, .ref w4, .ref w5, .int (nI cl), .ref w6, .ref w7, .ref w8, .ref w9])), (w0, .inl (E 0, 137, .inl (upd wv (nI (57 + 6 * r + 2 * k + 0)).toNatClampNeg one)))] := hD
    have hcz : (upd wv (nI (57 + 6 * r + 2 * k + 0)).toNatClampNeg one) = (upd wv (57 + 6 * r + 2 * k + 0) one) := by rw [nI_clamp (n := 57 + 6 * r + 2 * k + 0) (by omega)]
    rw [hcz] at hP hD
    refine lv_aload_n hx hb dX8_plays_23 rfl (lv_at hl 0 rfl) ?_
    refine va_get (D := D) (ci := 6) (v := .ref w0) (C := RX8) (T := TX8) (N := 15) hx hb hts (by decide +kernel) hown hK.1 hP 0 rfl rfl 0 (by decide) (hts (.fieldLink RX8 11 "HomeRoundsModel" "w" "[I") (by decide +kernel)) (fun _ h9 => h9) rfl dX8_plays_24 ?_
    refine lv_aload_n hx hb dX8_plays_27 rfl (lv_at hl 0 rfl) ?_
    refine lv_iload_n hx hb dX8_plays_28 rfl (lv_at hl 1 rfl) ?_
    refine lv_iload_n hx hb dX8_plays_29 rfl (lv_at hl 2 rfl) ?_
    refine lv_iconst (v := nI 1) hx hb dX8_plays_30 (by rfl) ?_
    refine zr_ci hP hS (va_runV (As := [.int (nI r), .int (nI k), .int (nI 1)]) (rest := [.ref w0]) ⟨hx, hb, hml, hown, hts⟩ (c_X8_at l D E m0 w0 w1 w2 w3 w4 w5 w6 w7 w8 w9 ik tx he fa cl (upd wv (57 + 6 * r + 2 * k + 0) one) r k 1 ) (cwV 3 hts gX8_plays_X8_at rfl rfl rfl (by decide +kernel) ⟨Nat.le_of_ble_eq_true rfl, Nat.le_of_ble_eq_true rfl⟩) (zr_V hK (hP.sub (ws' := [(m0, .inr (6, [.ref w0, .ref w1, .ref w2, .int ik, .ref w3, .int (nI tx), .int he, .int fa, .ref w4, .ref w5, .int (nI cl), .ref w6, .ref w7, .ref w8, .ref w9])), (w0, .inl (E 0, 137, .inl (upd wv (57 + 6 * r + 2 * k + 0) one)))]) [0, 1] rfl) (ci := 6) (q0 := 0) rfl rfl) rfl rfl hl.1 rfl (lv_room (Nat.le_of_ble_eq_true rfl)) dX8_plays_31 ⟨Nat.zero_le _, Nat.zero_le _⟩) (fun r_4 H locs hw_5 hP hS => ?_)
    subst hw_5
    refine lv_iload hx hb dX8_plays_34 (lv_at hl 5 rfl) ?_
    refine lv_if_eq (tgt := 44) hx hb dX8_plays_36 (by decide) (fun cn_6 => ?_) (fun cn_6 => ?_)
    · skip
      exact absurd cn_6 (by decide)
    · skip
      refine lv_iload hx hb dX8_plays_39 (lv_at hl 4 rfl) ?_
      refine lv_goto (tgt := 45) hx hb dX8_plays_41 (by decide) ?_
      refine va_iast hx hb hK.1 hP hD hS 1 0 rfl rfl (vp_in_nI (by omega) (by omega)) dX8_plays_45 (fun H locs hP hD hS => ?_)
      have hP : va_P D vwCl [(m0, .inr (6, [.ref w0, .ref w1, .ref w2, .int ik, .ref w3, .int (nI tx), .int he, .int fa, .ref w4, .ref w5, .int (nI cl), .ref w6, .ref w7, .ref w8, .ref w9])), (w0, .inl (E 0, 137, .inl (upd (upd wv (57 + 6 * r + 2 * k + 0) one) (nI (57 + 6 * r + 2 * k + 1)).toNatClampNeg two)))] H := hP
      have hD : va_D A [(m0, .inr (6, [.ref w0, .ref w1, .ref w2, .int ik, .ref w3, .int (nI tx), .int he, .int fa, .ref w4, .ref w5, .int (nI cl), .ref w6, .ref w7, .ref w8, .ref w9])), (w0, .inl (E 0, 137, .inl (upd (upd wv (57 + 6 * r + 2 * k + 0) one) (nI (57 + 6 * r + 2 * k + 1)).toNatClampNeg two)))] := hD
      have hcz : (upd (upd wv (57 + 6 * r + 2 * k + 0) one) (nI (57 + 6 * r + 2 * k + 1)).toNatClampNeg two) = (upd (upd wv (57 + 6 * r + 2 * k + 0) one) (57 + 6 * r + 2 * k + 1) two) := by rw [nI_clamp (n := 57 + 6 * r + 2 * k + 1) (by omega)]
      rw [hcz] at hP hD
      subst hQ; subst hAe
      exact W.vret hx hb hr (fun tz htz hWz => ⟨⟨(), rfl, trivial, by rw [htz]; exact hP, hD⟩, hS.F htz⟩) hS.2.2 dX8_plays_46

set_option maxHeartbeats 4000000 in
set_option maxRecDepth 100000 in
theorem c_X8_plays_0 (l : Launch) (D : va_G) (E : Nat → ClassId) (m0 : Nat) (w0 : Nat) (w1 : Nat) (w2 : Nat) (w3 : Nat) (w4 : Nat) (w5 : Nat) (w6 : Nat) (w7 : Nat) (w8 : Nat) (w9 : Nat) (ik : Int32) (tx : Nat) (he : Int32) (fa : Int32) (cl : Nat) (wv : Nat → Int32) (r : Nat) (k : Nat) (one : Int32) (two : Int32) (hr5 : r < 5) (hk3 : k < 3) : Met l yX8_plays wsX8_plays ({ frames := 1, cells := 0, slots := 0, locals := 23 }) (zw_P D E [.ref m0, .int (nI r), .int (nI k), .int one, .int two, .int (nI 0)] [(m0, .inr (6, [.ref w0, .ref w1, .ref w2, .int ik, .ref w3, .int (nI tx), .int he, .int fa, .ref w4, .ref w5, .int (nI cl), .ref w6, .ref w7, .ref w8, .ref w9])), (w0, .inl (E 0, 137, .inl wv))]) (zw_Qv D [(m0, .inr (6, [.ref w0, .ref w1, .ref w2, .int ik, .ref w3, .int (nI tx), .int he, .int fa, .ref w4, .ref w5, .int (nI cl), .ref w6, .ref w7, .ref w8, .ref w9])), (w0, .inl (E 0, 137, .inl wv))] (fun (u : Unit) => True) (fun (u : Unit) => [(m0, .inr (6, [.ref w0, .ref w1, .ref w2, .int ik, .ref w3, .int (nI tx), .int he, .int fa, .ref w4, .ref w5, .int (nI cl), .ref w6, .ref w7, .ref w8, .ref w9])), (w0, .inl (E 0, 137, .inl (upd (upd wv (57 + 6 * r + 2 * k + 0) two) (57 + 6 * r + 2 * k + 1) one)))])) 0 0 (zw_A [(m0, .inr (6, [.ref w0, .ref w1, .ref w2, .int ik, .ref w3, .int (nI tx), .int he, .int fa, .ref w4, .ref w5, .int (nI cl), .ref w6, .ref w7, .ref w8, .ref w9])), (w0, .inl (E 0, 137, .inl wv))]) := by
  refine Met.ofW (cc := cX8_plays) (maxL := 6) (ret := none) (by decide) rfl ?_
  intro p e s m args below meth c s₁ Bz hml hv
  obtain ⟨rfl, hP, hK, hD0⟩ := hv
  have hx := Bz.exec
  have hb := Bz.bytes
  have hr := Bz.returns
  have hts := atoms_spec (ws := wsX8_plays) Bz.pre
  have hown : s.vm.findClass RX8 = some m.cls := findClass_of_methodNamed Bz.named
  have hlocks := Bz.notSynchronized
  have hP : va_P D vwCl [(m0, .inr (6, [.ref w0, .ref w1, .ref w2, .int ik, .ref w3, .int (nI tx), .int he, .int fa, .ref w4, .ref w5, .int (nI cl), .ref w6, .ref w7, .ref w8, .ref w9])), (w0, .inl (E 0, 137, .inl wv))] s.heap := hP
  obtain ⟨A, hAe⟩ : ∃ A : Nat → Prop, A = zw_A [(m0, .inr (6, [.ref w0, .ref w1, .ref w2, .int ik, .ref w3, .int (nI tx), .int he, .int fa, .ref w4, .ref w5, .int (nI cl), .ref w6, .ref w7, .ref w8, .ref w9])), (w0, .inl (E 0, 137, .inl wv))] := ⟨_, rfl⟩
  have hD : va_D A [(m0, .inr (6, [.ref w0, .ref w1, .ref w2, .int ik, .ref w3, .int (nI tx), .int he, .int fa, .ref w4, .ref w5, .int (nI cl), .ref w6, .ref w7, .ref w8, .ref w9])), (w0, .inl (E 0, 137, .inl wv))] := hAe ▸ zw_own hD0
  have hS : va_S A s.heap s.heap [] := va_S.rf
  have hl := lv_entry ([.ref m0, .int (nI r), .int (nI k), .int one, .int two, .int (nI 0)]) (n := 6) (Nat.le_of_ble_eq_true rfl)
  rw [lg_entry_eq]
  generalize (lg_sl ([.ref m0, .int (nI r), .int (nI k), .int one, .int two, .int (nI 0)]) ++ List.replicate (6 - (lg_sl ([.ref m0, .int (nI r), .int (nI k), .int one, .int two, .int (nI 0)])).length) Slot.unset).toArray = ls at hl ⊢
  have hl : lv_has ls 6 [(0, .ref m0), (1, .int (nI r)), (2, .int (nI k)), (3, .int one), (4, .int two), (5, .int (nI 0))] := hl
  refine zr_nQ (fun Q hQ => ?_)
  refine lv_aload_n hx hb dX8_plays_0 rfl (lv_at hl 0 rfl) ?_
  refine va_get (D := D) (ci := 6) (v := .ref w0) (C := RX8) (T := TX8) (N := 15) hx hb hts (by decide +kernel) hown hK.1 hP 0 rfl rfl 0 (by decide) (hts (.fieldLink RX8 11 "HomeRoundsModel" "w" "[I") (by decide +kernel)) (fun _ h9 => h9) rfl dX8_plays_1 ?_
  refine lv_aload_n hx hb dX8_plays_4 rfl (lv_at hl 0 rfl) ?_
  refine lv_iload_n hx hb dX8_plays_5 rfl (lv_at hl 1 rfl) ?_
  refine lv_iload_n hx hb dX8_plays_6 rfl (lv_at hl 2 rfl) ?_
  refine lv_iconst (v := nI 0) hx hb dX8_plays_7 (by rfl) ?_
  refine zr_ci hP hS (va_runV (As := [.int (nI r), .int (nI k), .int (nI 0)]) (rest := [.ref w0]) ⟨hx, hb, hml, hown, hts⟩ (c_X8_at l D E m0 w0 w1 w2 w3 w4 w5 w6 w7 w8 w9 ik tx he fa cl wv r k 0 ) (cwV 3 hts gX8_plays_X8_at rfl rfl rfl (by decide +kernel) ⟨Nat.le_of_ble_eq_true rfl, Nat.le_of_ble_eq_true rfl⟩) (zr_V hK (hP.sub (ws' := [(m0, .inr (6, [.ref w0, .ref w1, .ref w2, .int ik, .ref w3, .int (nI tx), .int he, .int fa, .ref w4, .ref w5, .int (nI cl), .ref w6, .ref w7, .ref w8, .ref w9])), (w0, .inl (E 0, 137, .inl wv))]) [0, 1] rfl) (ci := 6) (q0 := 0) rfl rfl) rfl rfl hl.1 rfl (lv_room (Nat.le_of_ble_eq_true rfl)) dX8_plays_8 ⟨Nat.zero_le _, Nat.zero_le _⟩) (fun r_1 H locs hw_2 hP hS => ?_)
  subst hw_2
  refine lv_iload hx hb dX8_plays_11 (lv_at hl 5 rfl) ?_
  refine lv_if_eq (tgt := 20) hx hb dX8_plays_13 (by decide) (fun cn_3 => ?_) (fun cn_3 => ?_)
  · skip
    refine lv_iload hx hb dX8_plays_20 (lv_at hl 4 rfl) ?_
    refine va_iast hx hb hK.1 hP hD hS 1 0 rfl rfl (vp_in_nI (by omega) (by omega)) dX8_plays_22 (fun H locs hP hD hS => ?_)
    have hP : va_P D vwCl [(m0, .inr (6, [.ref w0, .ref w1, .ref w2, .int ik, .ref w3, .int (nI tx), .int he, .int fa, .ref w4, .ref w5, .int (nI cl), .ref w6, .ref w7, .ref w8, .ref w9])), (w0, .inl (E 0, 137, .inl (upd wv (nI (57 + 6 * r + 2 * k + 0)).toNatClampNeg two)))] H := hP
    have hD : va_D A [(m0, .inr (6, [.ref w0, .ref w1, .ref w2, .int ik, .ref w3, .int (nI tx), .int he, .int fa, .ref w4, .ref w5, .int (nI cl), .ref w6, .ref w7, .ref w8, .ref w9])), (w0, .inl (E 0, 137, .inl (upd wv (nI (57 + 6 * r + 2 * k + 0)).toNatClampNeg two)))] := hD
    have hcz : (upd wv (nI (57 + 6 * r + 2 * k + 0)).toNatClampNeg two) = (upd wv (57 + 6 * r + 2 * k + 0) two) := by rw [nI_clamp (n := 57 + 6 * r + 2 * k + 0) (by omega)]
    rw [hcz] at hP hD
    refine lv_aload_n hx hb dX8_plays_23 rfl (lv_at hl 0 rfl) ?_
    refine va_get (D := D) (ci := 6) (v := .ref w0) (C := RX8) (T := TX8) (N := 15) hx hb hts (by decide +kernel) hown hK.1 hP 0 rfl rfl 0 (by decide) (hts (.fieldLink RX8 11 "HomeRoundsModel" "w" "[I") (by decide +kernel)) (fun _ h9 => h9) rfl dX8_plays_24 ?_
    refine lv_aload_n hx hb dX8_plays_27 rfl (lv_at hl 0 rfl) ?_
    refine lv_iload_n hx hb dX8_plays_28 rfl (lv_at hl 1 rfl) ?_
    refine lv_iload_n hx hb dX8_plays_29 rfl (lv_at hl 2 rfl) ?_
    refine lv_iconst (v := nI 1) hx hb dX8_plays_30 (by rfl) ?_
    refine zr_ci hP hS (va_runV (As := [.int (nI r), .int (nI k), .int (nI 1)]) (rest := [.ref w0]) ⟨hx, hb, hml, hown, hts⟩ (c_X8_at l D E m0 w0 w1 w2 w3 w4 w5 w6 w7 w8 w9 ik tx he fa cl (upd wv (57 + 6 * r + 2 * k + 0) two) r k 1 ) (cwV 3 hts gX8_plays_X8_at rfl rfl rfl (by decide +kernel) ⟨Nat.le_of_ble_eq_true rfl, Nat.le_of_ble_eq_true rfl⟩) (zr_V hK (hP.sub (ws' := [(m0, .inr (6, [.ref w0, .ref w1, .ref w2, .int ik, .ref w3, .int (nI tx), .int he, .int fa, .ref w4, .ref w5, .int (nI cl), .ref w6, .ref w7, .ref w8, .ref w9])), (w0, .inl (E 0, 137, .inl (upd wv (57 + 6 * r + 2 * k + 0) two)))]) [0, 1] rfl) (ci := 6) (q0 := 0) rfl rfl) rfl rfl hl.1 rfl (lv_room (Nat.le_of_ble_eq_true rfl)) dX8_plays_31 ⟨Nat.zero_le _, Nat.zero_le _⟩) (fun r_4 H locs hw_5 hP hS => ?_)
    subst hw_5
    refine lv_iload hx hb dX8_plays_34 (lv_at hl 5 rfl) ?_
    refine lv_if_eq (tgt := 44) hx hb dX8_plays_36 (by decide) (fun cn_6 => ?_) (fun cn_6 => ?_)
    · skip
      refine lv_iload_n hx hb dX8_plays_44 rfl (lv_at hl 3 rfl) ?_
      refine va_iast hx hb hK.1 hP hD hS 1 0 rfl rfl (vp_in_nI (by omega) (by omega)) dX8_plays_45 (fun H locs hP hD hS => ?_)
      have hP : va_P D vwCl [(m0, .inr (6, [.ref w0, .ref w1, .ref w2, .int ik, .ref w3, .int (nI tx), .int he, .int fa, .ref w4, .ref w5, .int (nI cl), .ref w6, .ref w7, .ref w8, .ref w9])), (w0, .inl (E 0, 137, .inl (upd (upd wv (57 + 6 * r + 2 * k + 0) two) (nI (57 + 6 * r + 2 * k + 1)).toNatClampNeg one)))] H := hP
      have hD : va_D A [(m0, .inr (6, [.ref w0, .ref w1, .ref w2, .int ik, .ref w3, .int (nI tx), .int he, .int fa, .ref w4, .ref w5, .int (nI cl), .ref w6, .ref w7, .ref w8, .ref w9])), (w0, .inl (E 0, 137, .inl (upd (upd wv (57 + 6 * r + 2 * k + 0) two) (nI (57 + 6 * r + 2 * k + 1)).toNatClampNeg one)))] := hD
      have hcz : (upd (upd wv (57 + 6 * r + 2 * k + 0) two) (nI (57 + 6 * r + 2 * k + 1)).toNatClampNeg one) = (upd (upd wv (57 + 6 * r + 2 * k + 0) two) (57 + 6 * r + 2 * k + 1) one) := by rw [nI_clamp (n := 57 + 6 * r + 2 * k + 1) (by omega)]
      rw [hcz] at hP hD
      subst hQ; subst hAe
      exact W.vret hx hb hr (fun tz htz hWz => ⟨⟨(), rfl, trivial, by rw [htz]; exact hP, hD⟩, hS.F htz⟩) hS.2.2 dX8_plays_46
    · skip
      exact absurd cn_6 (by decide)
  · skip
    exact absurd cn_3 (by decide)

set_option maxHeartbeats 4000000 in
set_option maxRecDepth 100000 in
theorem c_X8_circles (l : Launch) (D : va_G) (E : Nat → ClassId) (m0 : Nat) (w0 : Nat) (w1 : Nat) (w2 : Nat) (w3 : Nat) (w4 : Nat) (w5 : Nat) (w6 : Nat) (w7 : Nat) (w8 : Nat) (w9 : Nat) (ik : Int32) (tx : Nat) (he : Int32) (fa : Int32) (cl : Nat) (wv : Nat → Int32) (M : Nat) (hM : M = 4 ∨ M = 6) : Met l yX8_circles wsX8_circles ({ frames := 2, cells := 0, slots := 0, locals := 48 }) (zw_P D E [.ref m0, .int (nI M)] [(m0, .inr (6, [.ref w0, .ref w1, .ref w2, .int ik, .ref w3, .int (nI tx), .int he, .int fa, .ref w4, .ref w5, .int (nI cl), .ref w6, .ref w7, .ref w8, .ref w9])), (w0, .inl (E 0, 137, .inl wv))]) (zw_Qv D [(m0, .inr (6, [.ref w0, .ref w1, .ref w2, .int ik, .ref w3, .int (nI tx), .int he, .int fa, .ref w4, .ref w5, .int (nI cl), .ref w6, .ref w7, .ref w8, .ref w9])), (w0, .inl (E 0, 137, .inl wv))] (fun (u : (Nat → Int32)) => zv_cl M wv u) (fun (u : (Nat → Int32)) => [(m0, .inr (6, [.ref w0, .ref w1, .ref w2, .int ik, .ref w3, .int (nI tx), .int he, .int fa, .ref w4, .ref w5, .int (nI cl), .ref w6, .ref w7, .ref w8, .ref w9])), (w0, .inl (E 0, 137, .inl u))])) 0 0 (zw_A [(m0, .inr (6, [.ref w0, .ref w1, .ref w2, .int ik, .ref w3, .int (nI tx), .int he, .int fa, .ref w4, .ref w5, .int (nI cl), .ref w6, .ref w7, .ref w8, .ref w9])), (w0, .inl (E 0, 137, .inl wv))]) := by
  refine Met.ofW (cc := cX8_circles) (maxL := 4) (ret := none) (by decide) rfl ?_
  intro p e s m args below meth c s₁ Bz hml hv
  obtain ⟨rfl, hP, hK, hD0⟩ := hv
  have hx := Bz.exec
  have hb := Bz.bytes
  have hr := Bz.returns
  have hts := atoms_spec (ws := wsX8_circles) Bz.pre
  have hown : s.vm.findClass RX8 = some m.cls := findClass_of_methodNamed Bz.named
  have hlocks := Bz.notSynchronized
  have hP : va_P D vwCl [(m0, .inr (6, [.ref w0, .ref w1, .ref w2, .int ik, .ref w3, .int (nI tx), .int he, .int fa, .ref w4, .ref w5, .int (nI cl), .ref w6, .ref w7, .ref w8, .ref w9])), (w0, .inl (E 0, 137, .inl wv))] s.heap := hP
  obtain ⟨A, hAe⟩ : ∃ A : Nat → Prop, A = zw_A [(m0, .inr (6, [.ref w0, .ref w1, .ref w2, .int ik, .ref w3, .int (nI tx), .int he, .int fa, .ref w4, .ref w5, .int (nI cl), .ref w6, .ref w7, .ref w8, .ref w9])), (w0, .inl (E 0, 137, .inl wv))] := ⟨_, rfl⟩
  have hD : va_D A [(m0, .inr (6, [.ref w0, .ref w1, .ref w2, .int ik, .ref w3, .int (nI tx), .int he, .int fa, .ref w4, .ref w5, .int (nI cl), .ref w6, .ref w7, .ref w8, .ref w9])), (w0, .inl (E 0, 137, .inl wv))] := hAe ▸ zw_own hD0
  have hS : va_S A s.heap s.heap [] := va_S.rf
  have hl := lv_entry ([.ref m0, .int (nI M)]) (n := 4) (Nat.le_of_ble_eq_true rfl)
  rw [lg_entry_eq]
  generalize (lg_sl ([.ref m0, .int (nI M)]) ++ List.replicate (4 - (lg_sl ([.ref m0, .int (nI M)])).length) Slot.unset).toArray = ls at hl ⊢
  have hl : lv_has ls 4 [(0, .ref m0), (1, .int (nI M))] := hl
  refine zr_nQ (fun Q hQ => ?_)
  refine lv_aload_n hx hb dX8_circles_0 rfl (lv_at hl 0 rfl) ?_
  refine va_get (D := D) (ci := 6) (v := .ref w0) (C := RX8) (T := TX8) (N := 15) hx hb hts (by decide +kernel) hown hK.1 hP 0 rfl rfl 0 (by decide) (hts (.fieldLink RX8 11 "HomeRoundsModel" "w" "[I") (by decide +kernel)) (fun _ h9 => h9) rfl dX8_circles_1 ?_
  refine lv_iconst (v := nI 0) hx hb dX8_circles_4 (by rfl) ?_
  refine lv_iload_n hx hb dX8_circles_5 rfl (lv_at hl 1 rfl) ?_
  refine va_iast hx hb hK.1 hP hD hS 1 0 rfl rfl (vp_in_nI (by omega) (by omega)) dX8_circles_6 (fun H locs hP hD hS => ?_)
  have hP : va_P D vwCl [(m0, .inr (6, [.ref w0, .ref w1, .ref w2, .int ik, .ref w3, .int (nI tx), .int he, .int fa, .ref w4, .ref w5, .int (nI cl), .ref w6, .ref w7, .ref w8, .ref w9])), (w0, .inl (E 0, 137, .inl (upd wv (nI 0).toNatClampNeg (nI M))))] H := hP
  have hD : va_D A [(m0, .inr (6, [.ref w0, .ref w1, .ref w2, .int ik, .ref w3, .int (nI tx), .int he, .int fa, .ref w4, .ref w5, .int (nI cl), .ref w6, .ref w7, .ref w8, .ref w9])), (w0, .inl (E 0, 137, .inl (upd wv (nI 0).toNatClampNeg (nI M))))] := hD
  have hcz : (upd wv (nI 0).toNatClampNeg (nI M)) = (upd wv 0 (nI M)) := by rw [nI_clamp (n := 0) (by omega)]
  rw [hcz] at hP hD
  refine lv_aload_n hx hb dX8_circles_7 rfl (lv_at hl 0 rfl) ?_
  refine va_get (D := D) (ci := 6) (v := .ref w0) (C := RX8) (T := TX8) (N := 15) hx hb hts (by decide +kernel) hown hK.1 hP 0 rfl rfl 0 (by decide) (hts (.fieldLink RX8 11 "HomeRoundsModel" "w" "[I") (by decide +kernel)) (fun _ h9 => h9) rfl dX8_circles_8 ?_
  refine lv_iconst (v := nI 2) hx hb dX8_circles_11 (by rfl) ?_
  refine lv_iconst (v := nI 0) hx hb dX8_circles_12 (by rfl) ?_
  refine va_iast hx hb hK.1 hP hD hS 1 0 rfl rfl (vp_in_nI (by omega) (by omega)) dX8_circles_13 (fun H locs hP hD hS => ?_)
  have hP : va_P D vwCl [(m0, .inr (6, [.ref w0, .ref w1, .ref w2, .int ik, .ref w3, .int (nI tx), .int he, .int fa, .ref w4, .ref w5, .int (nI cl), .ref w6, .ref w7, .ref w8, .ref w9])), (w0, .inl (E 0, 137, .inl (upd (upd wv 0 (nI M)) (nI 2).toNatClampNeg (nI 0))))] H := hP
  have hD : va_D A [(m0, .inr (6, [.ref w0, .ref w1, .ref w2, .int ik, .ref w3, .int (nI tx), .int he, .int fa, .ref w4, .ref w5, .int (nI cl), .ref w6, .ref w7, .ref w8, .ref w9])), (w0, .inl (E 0, 137, .inl (upd (upd wv 0 (nI M)) (nI 2).toNatClampNeg (nI 0))))] := hD
  have hcz : (upd (upd wv 0 (nI M)) (nI 2).toNatClampNeg (nI 0)) = (upd (upd wv 0 (nI M)) 2 (nI 0)) := by rw [nI_clamp (n := 2) (by omega)]
  rw [hcz] at hP hD
  refine lv_aload_n hx hb dX8_circles_14 rfl (lv_at hl 0 rfl) ?_
  refine va_get (D := D) (ci := 6) (v := .ref w0) (C := RX8) (T := TX8) (N := 15) hx hb hts (by decide +kernel) hown hK.1 hP 0 rfl rfl 0 (by decide) (hts (.fieldLink RX8 11 "HomeRoundsModel" "w" "[I") (by decide +kernel)) (fun _ h9 => h9) rfl dX8_circles_15 ?_
  refine lv_iconst (v := nI 3) hx hb dX8_circles_18 (by rfl) ?_
  refine lv_iconst (v := nI 0) hx hb dX8_circles_19 (by rfl) ?_
  refine va_iast hx hb hK.1 hP hD hS 1 0 rfl rfl (vp_in_nI (by omega) (by omega)) dX8_circles_20 (fun H locs hP hD hS => ?_)
  have hP : va_P D vwCl [(m0, .inr (6, [.ref w0, .ref w1, .ref w2, .int ik, .ref w3, .int (nI tx), .int he, .int fa, .ref w4, .ref w5, .int (nI cl), .ref w6, .ref w7, .ref w8, .ref w9])), (w0, .inl (E 0, 137, .inl (upd (upd (upd wv 0 (nI M)) 2 (nI 0)) (nI 3).toNatClampNeg (nI 0))))] H := hP
  have hD : va_D A [(m0, .inr (6, [.ref w0, .ref w1, .ref w2, .int ik, .ref w3, .int (nI tx), .int he, .int fa, .ref w4, .ref w5, .int (nI cl), .ref w6, .ref w7, .ref w8, .ref w9])), (w0, .inl (E 0, 137, .inl (upd (upd (upd wv 0 (nI M)) 2 (nI 0)) (nI 3).toNatClampNeg (nI 0))))] := hD
  have hcz : (upd (upd (upd wv 0 (nI M)) 2 (nI 0)) (nI 3).toNatClampNeg (nI 0)) = (upd (upd (upd wv 0 (nI M)) 2 (nI 0)) 3 (nI 0)) := by rw [nI_clamp (n := 3) (by omega)]
  rw [hcz] at hP hD
  refine lv_aload_n hx hb dX8_circles_21 rfl (lv_at hl 0 rfl) ?_
  refine va_get (D := D) (ci := 6) (v := .ref w0) (C := RX8) (T := TX8) (N := 15) hx hb hts (by decide +kernel) hown hK.1 hP 0 rfl rfl 0 (by decide) (hts (.fieldLink RX8 11 "HomeRoundsModel" "w" "[I") (by decide +kernel)) (fun _ h9 => h9) rfl dX8_circles_22 ?_
  refine lv_iconst (v := nI 4) hx hb dX8_circles_25 (by rfl) ?_
  refine lv_iconst (v := nI 0) hx hb dX8_circles_26 (by rfl) ?_
  refine va_iast hx hb hK.1 hP hD hS 1 0 rfl rfl (vp_in_nI (by omega) (by omega)) dX8_circles_27 (fun H locs hP hD hS => ?_)
  have hP : va_P D vwCl [(m0, .inr (6, [.ref w0, .ref w1, .ref w2, .int ik, .ref w3, .int (nI tx), .int he, .int fa, .ref w4, .ref w5, .int (nI cl), .ref w6, .ref w7, .ref w8, .ref w9])), (w0, .inl (E 0, 137, .inl (upd (upd (upd (upd wv 0 (nI M)) 2 (nI 0)) 3 (nI 0)) (nI 4).toNatClampNeg (nI 0))))] H := hP
  have hD : va_D A [(m0, .inr (6, [.ref w0, .ref w1, .ref w2, .int ik, .ref w3, .int (nI tx), .int he, .int fa, .ref w4, .ref w5, .int (nI cl), .ref w6, .ref w7, .ref w8, .ref w9])), (w0, .inl (E 0, 137, .inl (upd (upd (upd (upd wv 0 (nI M)) 2 (nI 0)) 3 (nI 0)) (nI 4).toNatClampNeg (nI 0))))] := hD
  have hcz : (upd (upd (upd (upd wv 0 (nI M)) 2 (nI 0)) 3 (nI 0)) (nI 4).toNatClampNeg (nI 0)) = (upd (upd (upd (upd wv 0 (nI M)) 2 (nI 0)) 3 (nI 0)) 4 (nI 0)) := by rw [nI_clamp (n := 4) (by omega)]
  rw [hcz] at hP hD
  obtain ⟨wz1, hw1⟩ : ∃ wz1 : Nat → Int32, wz1 = (upd (upd (upd (upd wv 0 (nI M)) 2 (nI 0)) 3 (nI 0)) 4 (nI 0)) := ⟨_, rfl⟩
  rw [← hw1] at hP hD
  refine lv_iconst (v := nI 0) hx hb dX8_circles_28 (by rfl) ?_
  refine lv_istore_n (lv' := [(2, .int (nI 0)), (0, .ref m0), (1, .int (nI M))]) hx hb dX8_circles_29 rfl hl (by decide) rfl (fun ls hl => ?_)
  suffices KL30 : ∀ (kz : Nat) (k : Nat) (wvk : Nat → Int32) (H : Heap) (locs : List Loc) (ls : Array Slot), (36 - k) < kz → (∀ j, j < k → wvk (21 + j) = nI 0) → (∀ x, (x < 21 ∨ 57 ≤ x) → wvk x = wz1 x) → (k ≤ 36) → va_P D vwCl [(m0, .inr (6, [.ref w0, .ref w1, .ref w2, .int ik, .ref w3, .int (nI tx), .int he, .int fa, .ref w4, .ref w5, .int (nI cl), .ref w6, .ref w7, .ref w8, .ref w9])), (w0, .inl (E 0, 137, .inl wvk))] H → va_D A [(m0, .inr (6, [.ref w0, .ref w1, .ref w2, .int ik, .ref w3, .int (nI tx), .int he, .int fa, .ref w4, .ref w5, .int (nI cl), .ref w6, .ref w7, .ref w8, .ref w9])), (w0, .inl (E 0, 137, .inl wvk))] → va_S A s.heap H locs → lv_has ls 4 [(0, .ref m0), (1, .int (nI M)), (2, .int (nI k))] → W p l e (headSpec wsX8_circles ({ frames := 2, cells := 0, slots := 0, locals := 48 })).room s m ([.ref m0, .int (nI M)] : List Value).toArray below meth c H locs 0 0 Q (F0 m 30 ls []) from
    KL30 _ 0 wz1 _ _ ls (Nat.lt_succ_self _) (fun j hj => absurd hj (Nat.not_lt_zero _)) (fun _ _ => rfl) (by omega) hP hD hS (lv_sub hl [1, 2, 0] rfl)
  clear hP hS hl hD
  intro kz
  induction kz with
  | zero => intro k wvk H locs ls hkz; exact absurd hkz (Nat.not_lt_zero _)
  | succ kz ih30 =>
    intro k wvk H locs ls hkz hz1 hz2 hk hP hD hS hl
    refine lv_iload_n hx hb dX8_circles_30 rfl (lv_at hl 2 rfl) ?_
    refine lv_bipush (v := nI 36) hx hb dX8_circles_31 (by rfl) ?_
    refine lv_icmp_ge (tgt := 52) hx hb dX8_circles_33 (by decide) (fun cn_1 => ?_) (fun cn_1 => ?_)
    · skip
      have cn_1 : 36 ≤ k := (nI_leI (a := 36) (b := k) (by omega) (by omega)).mp cn_1
      have hke : k = 36 := by omega
      refine lv_iconst (v := nI 0) hx hb dX8_circles_52 (by rfl) ?_
      refine lv_istore_n (lv' := [(2, .int (nI 0)), (0, .ref m0), (1, .int (nI M))]) hx hb dX8_circles_53 rfl hl (by decide) rfl (fun ls hl => ?_)
      suffices KL54 : ∀ (kz : Nat) (r : Nat) (wvr : Nat → Int32) (H : Heap) (locs : List Loc) (ls : Array Slot), (M - r) < kz → (zv_ciI M r 0 wvk wvr) → (r ≤ M - 1) → va_P D vwCl [(m0, .inr (6, [.ref w0, .ref w1, .ref w2, .int ik, .ref w3, .int (nI tx), .int he, .int fa, .ref w4, .ref w5, .int (nI cl), .ref w6, .ref w7, .ref w8, .ref w9])), (w0, .inl (E 0, 137, .inl wvr))] H → va_D A [(m0, .inr (6, [.ref w0, .ref w1, .ref w2, .int ik, .ref w3, .int (nI tx), .int he, .int fa, .ref w4, .ref w5, .int (nI cl), .ref w6, .ref w7, .ref w8, .ref w9])), (w0, .inl (E 0, 137, .inl wvr))] → va_S A s.heap H locs → lv_has ls 4 [(0, .ref m0), (1, .int (nI M)), (2, .int (nI r))] → W p l e (headSpec wsX8_circles ({ frames := 2, cells := 0, slots := 0, locals := 48 })).room s m ([.ref m0, .int (nI M)] : List Value).toArray below meth c H locs 0 0 Q (F0 m 54 ls []) from
        KL54 _ 0 wvk _ _ ls (Nat.lt_succ_self _) (⟨fun _ _ _ _ hd => by omega, zv_off_r⟩) (by omega) hP hD hS (lv_sub hl [1, 2, 0] rfl)
      clear hP hS hl hD
      intro kz
      induction kz with
      | zero => intro r wvr H locs ls hkz; exact absurd hkz (Nat.not_lt_zero _)
      | succ kz ih54 =>
        intro r wvr H locs ls hkz hI hrl hP hD hS hl
        refine lv_iload_n hx hb dX8_circles_54 rfl (lv_at hl 2 rfl) ?_
        refine lv_iload_n hx hb dX8_circles_55 rfl (lv_at hl 1 rfl) ?_
        refine lv_iconst (v := nI 1) hx hb dX8_circles_56 (by rfl) ?_
        refine lv_isub hx hb dX8_circles_57 ?_
        refine zr_ti (y := nI (M - 1)) (pk_sub (by omega)) ?_
        refine lv_icmp_ge (tgt := 139) hx hb dX8_circles_58 (by decide) (fun cn_2 => ?_) (fun cn_2 => ?_)
        · skip
          have cn_2 : M - 1 ≤ r := (nI_leI (a := M - 1) (b := r) (by omega) (by omega)).mp cn_2
          have hre : M - 1 ≤ r := by omega
          subst hQ; subst hAe
          exact W.vret hx hb hr (fun tz htz hWz => ⟨⟨wvr, rfl, zv_cl_e hM hre hw1 (fun j hj => hz1 j (by omega)) hz2 hI, by rw [htz]; exact hP, hD⟩, hS.F htz⟩) hS.2.2 dX8_circles_139
        · skip
          have cn_2 : ¬ (M - 1 ≤ r) := fun hz => cn_2 ((nI_leI (a := M - 1) (b := r) (by omega) (by omega)).mpr hz)
          have hrr : r < M - 1 := by omega
          refine lv_aload_n hx hb dX8_circles_61 rfl (lv_at hl 0 rfl) ?_
          refine lv_iload_n hx hb dX8_circles_62 rfl (lv_at hl 2 rfl) ?_
          refine lv_iconst (v := nI 0) hx hb dX8_circles_63 (by rfl) ?_
          refine lv_iload_n hx hb dX8_circles_64 rfl (lv_at hl 2 rfl) ?_
          refine lv_iload_n hx hb dX8_circles_65 rfl (lv_at hl 1 rfl) ?_
          refine lv_iconst (v := nI 1) hx hb dX8_circles_66 (by rfl) ?_
          refine lv_isub hx hb dX8_circles_67 ?_
          refine zr_ti (y := nI (M - 1)) (pk_sub (by omega)) ?_
          refine lv_iload_n hx hb dX8_circles_68 rfl (lv_at hl 2 rfl) ?_
          refine lv_iconst (v := nI 2) hx hb dX8_circles_69 (by rfl) ?_
          refine lv_irem hx hb dX8_circles_70 (by decide) ?_
          refine zr_ti (y := nI (r % 2)) (pk_rem (by omega) (by omega) (by omega)) ?_
          refine lv_if_ne (tgt := 78) hx hb dX8_circles_71 (by decide) (fun cn_3 => ?_) (fun cn_3 => ?_)
          · skip
            have cn_3 : ¬ (r % 2 = 0) := fun hz => cn_3 ((nI_eq (a := r % 2) (b := 0) (by omega) (by omega)).mpr hz)
            have hb0 := cn_3
            refine lv_iconst (v := nI 0) hx hb dX8_circles_78 (by rfl) ?_
            have hPc := hP.sub (ws' := [(m0, .inr (6, [.ref w0, .ref w1, .ref w2, .int ik, .ref w3, .int (nI tx), .int he, .int fa, .ref w4, .ref w5, .int (nI cl), .ref w6, .ref w7, .ref w8, .ref w9])), (w0, .inl (E 0, 137, .inl wvr))]) [0, 1] rfl
            have hDc := hD.sub (ws' := [(m0, .inr (6, [.ref w0, .ref w1, .ref w2, .int ik, .ref w3, .int (nI tx), .int he, .int fa, .ref w4, .ref w5, .int (nI cl), .ref w6, .ref w7, .ref w8, .ref w9])), (w0, .inl (E 0, 137, .inl wvr))]) [0, 1] (by decide +kernel) rfl
            have hAc := zw_AA (wc := [(m0, .inr (6, [.ref w0, .ref w1, .ref w2, .int ik, .ref w3, .int (nI tx), .int he, .int fa, .ref w4, .ref w5, .int (nI cl), .ref w6, .ref w7, .ref w8, .ref w9])), (w0, .inl (E 0, 137, .inl wvr))]) hD [0, 1] rfl
            refine zw_cv hAc hS (va_runV (As := [.int (nI r), .int (nI 0), .int (nI r), .int (nI (M - 1)), .int (nI 0)]) (rest := []) ⟨hx, hb, hml, hown, hts⟩ (c_X8_plays_0 l D E m0 w0 w1 w2 w3 w4 w5 w6 w7 w8 w9 ik tx he fa cl wvr r 0 (nI r) (nI (M - 1)) (by omega) (by omega)) (cwV 5 hts gX8_circles_X8_plays rfl rfl rfl (by decide +kernel) ⟨Nat.le_of_ble_eq_true rfl, Nat.le_of_ble_eq_true rfl⟩) (zw_V hK hPc hDc (ci := 6) (q0 := 0) rfl rfl) rfl rfl hl.1 rfl (lv_room (Nat.le_of_ble_eq_true rfl)) dX8_circles_79 ⟨Nat.zero_le _, Nat.zero_le _⟩) (fun u_6 H locs hw_5 hP1 hD1 hk1 hS => ?_)
            obtain ⟨hP, hD⟩ := zw_join (wr := []) (w1 := [(m0, .inr (6, [.ref w0, .ref w1, .ref w2, .int ik, .ref w3, .int (nI tx), .int he, .int fa, .ref w4, .ref w5, .int (nI cl), .ref w6, .ref w7, .ref w8, .ref w9])), (w0, .inl (E 0, 137, .inl (upd (upd wvr (57 + 6 * r + 2 * 0 + 0) (nI (M - 1))) (57 + 6 * r + 2 * 0 + 1) (nI r))))]) (ws' := [(m0, .inr (6, [.ref w0, .ref w1, .ref w2, .int ik, .ref w3, .int (nI tx), .int he, .int fa, .ref w4, .ref w5, .int (nI cl), .ref w6, .ref w7, .ref w8, .ref w9])), (w0, .inl (E 0, 137, .inl (upd (upd wvr (57 + 6 * r + 2 * 0 + 0) (nI (M - 1))) (57 + 6 * r + 2 * 0 + 1) (nI r))))]) hP hD [0, 1] [] [0, 1] rfl rfl (by decide +kernel) (by decide +kernel) hAc hk1 hP1 hD1 (by decide +kernel) rfl
            clear hP1 hD1 hk1 hPc hDc hAc
            refine lv_iconst (v := nI 1) hx hb dX8_circles_82 (by rfl) ?_
            refine lv_istore_n (lv' := [(3, .int (nI 1)), (0, .ref m0), (1, .int (nI M)), (2, .int (nI r))]) hx hb dX8_circles_83 rfl hl (by decide) rfl (fun ls hl => ?_)
            suffices KL84 : ∀ (kz : Nat) (i : Nat) (wvi : Nat → Int32) (H : Heap) (locs : List Loc) (ls : Array Slot), (M - i) < kz → (zv_ciI M r i wvk wvi) → (1 ≤ i) → (i ≤ M / 2) → va_P D vwCl [(m0, .inr (6, [.ref w0, .ref w1, .ref w2, .int ik, .ref w3, .int (nI tx), .int he, .int fa, .ref w4, .ref w5, .int (nI cl), .ref w6, .ref w7, .ref w8, .ref w9])), (w0, .inl (E 0, 137, .inl wvi))] H → va_D A [(m0, .inr (6, [.ref w0, .ref w1, .ref w2, .int ik, .ref w3, .int (nI tx), .int he, .int fa, .ref w4, .ref w5, .int (nI cl), .ref w6, .ref w7, .ref w8, .ref w9])), (w0, .inl (E 0, 137, .inl wvi))] → va_S A s.heap H locs → lv_has ls 4 [(0, .ref m0), (1, .int (nI M)), (2, .int (nI r)), (3, .int (nI i))] → W p l e (headSpec wsX8_circles ({ frames := 2, cells := 0, slots := 0, locals := 48 })).room s m ([.ref m0, .int (nI M)] : List Value).toArray below meth c H locs 0 0 Q (F0 m 84 ls []) from
              KL84 _ 1 (upd (upd wvr (57 + 6 * r + 2 * 0 + 0) (nI (M - 1))) (57 + 6 * r + 2 * 0 + 1) (nI r)) _ _ ls (Nat.lt_succ_self _) (zv_ciI_s hM hrr (by omega) hI (congrArg nI (by first | exact (zv_ci_0e hb0).1.symm | exact (zv_ci_0o hb0).1.symm)) (congrArg nI (by first | exact (zv_ci_0e hb0).2.symm | exact (zv_ci_0o hb0).2.symm))) (by omega) (by omega) hP hD hS (lv_sub hl [1, 2, 3, 0] rfl)
            clear hP hS hl hD
            intro kz
            induction kz with
            | zero => intro i wvi H locs ls hkz; exact absurd hkz (Nat.not_lt_zero _)
            | succ kz ih84 =>
              intro i wvi H locs ls hkz hI2 hi1 hi2 hP hD hS hl
              refine lv_iload_n hx hb dX8_circles_84 rfl (lv_at hl 3 rfl) ?_
              refine lv_iload_n hx hb dX8_circles_85 rfl (lv_at hl 1 rfl) ?_
              refine lv_iconst (v := nI 2) hx hb dX8_circles_86 (by rfl) ?_
              refine lv_idiv hx hb dX8_circles_87 (by decide) ?_
              refine zr_ti (y := nI (M / 2)) (pk_div (by omega) (by omega) (by omega)) ?_
              refine lv_icmp_ge (tgt := 133) hx hb dX8_circles_88 (by decide) (fun cn_7 => ?_) (fun cn_7 => ?_)
              · skip
                have cn_7 : M / 2 ≤ i := (nI_leI (a := M / 2) (b := i) (by omega) (by omega)).mp cn_7
                refine lv_iinc (v := nI (r + 1)) (lv' := [(2, .int (nI (r + 1))), (0, .ref m0), (1, .int (nI M)), (3, .int (nI i))]) hx hb dX8_circles_133 hl (k := 2) rfl (nI_add _ _) (by decide) rfl (fun ls hl => ?_)
                refine lv_goto (tgt := 54) hx hb dX8_circles_136 (by decide) ?_
                have hl : lv_has ls 4 [(0, .ref m0), (1, .int (nI M)), (2, .int (nI (r + 1)))] := lv_sub hl [1, 2, 0] rfl
                exact ih54 (r + 1) wvi H locs ls (by omega) (zv_ciI_r hM (by omega) hI2) (by omega) hP hD hS hl
              · skip
                have cn_7 : ¬ (M / 2 ≤ i) := fun hz => cn_7 ((nI_leI (a := M / 2) (b := i) (by omega) (by omega)).mpr hz)
                have hii : i < M / 2 := by omega
                refine lv_aload_n hx hb dX8_circles_91 rfl (lv_at hl 0 rfl) ?_
                refine lv_iload_n hx hb dX8_circles_92 rfl (lv_at hl 2 rfl) ?_
                refine lv_iload_n hx hb dX8_circles_93 rfl (lv_at hl 3 rfl) ?_
                refine lv_iload_n hx hb dX8_circles_94 rfl (lv_at hl 2 rfl) ?_
                refine lv_iload_n hx hb dX8_circles_95 rfl (lv_at hl 3 rfl) ?_
                refine lv_iadd hx hb dX8_circles_96 ?_
                refine zr_ti (y := nI (r + i)) (nI_add _ _) ?_
                refine lv_iload_n hx hb dX8_circles_97 rfl (lv_at hl 1 rfl) ?_
                refine lv_iconst (v := nI 1) hx hb dX8_circles_98 (by rfl) ?_
                refine lv_isub hx hb dX8_circles_99 ?_
                refine zr_ti (y := nI (M - 1)) (pk_sub (by omega)) ?_
                refine lv_irem hx hb dX8_circles_100 (nI_ne0 (by omega) (by omega)) ?_
                refine zr_ti (y := nI ((r + i) % (M - 1))) (pk_rem (by omega) (by omega) (by omega)) ?_
                refine lv_iload_n hx hb dX8_circles_101 rfl (lv_at hl 2 rfl) ?_
                refine lv_iload_n hx hb dX8_circles_102 rfl (lv_at hl 3 rfl) ?_
                refine lv_isub hx hb dX8_circles_103 ?_
                refine lv_iload_n hx hb dX8_circles_104 rfl (lv_at hl 1 rfl) ?_
                refine lv_iadd hx hb dX8_circles_105 ?_
                refine zr_ti (y := nI (r + M - i)) (zn_wrap (by omega)) ?_
                refine lv_iconst (v := nI 1) hx hb dX8_circles_106 (by rfl) ?_
                refine lv_isub hx hb dX8_circles_107 ?_
                refine zr_ti (y := nI ((r + M - i) - 1)) (pk_sub (by omega)) ?_
                refine lv_iload_n hx hb dX8_circles_108 rfl (lv_at hl 1 rfl) ?_
                refine lv_iconst (v := nI 1) hx hb dX8_circles_109 (by rfl) ?_
                refine lv_isub hx hb dX8_circles_110 ?_
                refine zr_ti (y := nI (M - 1)) (pk_sub (by omega)) ?_
                refine lv_irem hx hb dX8_circles_111 (nI_ne0 (by omega) (by omega)) ?_
                refine zr_ti (y := nI (((r + M - i) - 1) % (M - 1))) (pk_rem (by omega) (by omega) (by omega)) ?_
                refine lv_iload_n hx hb dX8_circles_112 rfl (lv_at hl 3 rfl) ?_
                refine lv_iconst (v := nI 2) hx hb dX8_circles_113 (by rfl) ?_
                refine lv_irem hx hb dX8_circles_114 (by decide) ?_
                refine zr_ti (y := nI (i % 2)) (pk_rem (by omega) (by omega) (by omega)) ?_
                refine lv_iconst (v := nI 1) hx hb dX8_circles_115 (by rfl) ?_
                refine lv_icmp_ne (tgt := 123) hx hb dX8_circles_116 (by decide) (fun cn_8 => ?_) (fun cn_8 => ?_)
                · skip
                  have cn_8 : ¬ (i % 2 = 1) := fun hz => cn_8 ((nI_eq (a := i % 2) (b := 1) (by omega) (by omega)).mpr hz)
                  have hb1 := cn_8
                  refine lv_iconst (v := nI 0) hx hb dX8_circles_123 (by rfl) ?_
                  have hPc := hP.sub (ws' := [(m0, .inr (6, [.ref w0, .ref w1, .ref w2, .int ik, .ref w3, .int (nI tx), .int he, .int fa, .ref w4, .ref w5, .int (nI cl), .ref w6, .ref w7, .ref w8, .ref w9])), (w0, .inl (E 0, 137, .inl wvi))]) [0, 1] rfl
                  have hDc := hD.sub (ws' := [(m0, .inr (6, [.ref w0, .ref w1, .ref w2, .int ik, .ref w3, .int (nI tx), .int he, .int fa, .ref w4, .ref w5, .int (nI cl), .ref w6, .ref w7, .ref w8, .ref w9])), (w0, .inl (E 0, 137, .inl wvi))]) [0, 1] (by decide +kernel) rfl
                  have hAc := zw_AA (wc := [(m0, .inr (6, [.ref w0, .ref w1, .ref w2, .int ik, .ref w3, .int (nI tx), .int he, .int fa, .ref w4, .ref w5, .int (nI cl), .ref w6, .ref w7, .ref w8, .ref w9])), (w0, .inl (E 0, 137, .inl wvi))]) hD [0, 1] rfl
                  refine zw_cv hAc hS (va_runV (As := [.int (nI r), .int (nI i), .int (nI ((r + i) % (M - 1))), .int (nI (((r + M - i) - 1) % (M - 1))), .int (nI 0)]) (rest := []) ⟨hx, hb, hml, hown, hts⟩ (c_X8_plays_0 l D E m0 w0 w1 w2 w3 w4 w5 w6 w7 w8 w9 ik tx he fa cl wvi r i (nI ((r + i) % (M - 1))) (nI (((r + M - i) - 1) % (M - 1))) (by omega) (by omega)) (cwV 5 hts gX8_circles_X8_plays rfl rfl rfl (by decide +kernel) ⟨Nat.le_of_ble_eq_true rfl, Nat.le_of_ble_eq_true rfl⟩) (zw_V hK hPc hDc (ci := 6) (q0 := 0) rfl rfl) rfl rfl hl.1 rfl (lv_room (Nat.le_of_ble_eq_true rfl)) dX8_circles_124 ⟨Nat.zero_le _, Nat.zero_le _⟩) (fun u_11 H locs hw_10 hP1 hD1 hk1 hS => ?_)
                  obtain ⟨hP, hD⟩ := zw_join (wr := []) (w1 := [(m0, .inr (6, [.ref w0, .ref w1, .ref w2, .int ik, .ref w3, .int (nI tx), .int he, .int fa, .ref w4, .ref w5, .int (nI cl), .ref w6, .ref w7, .ref w8, .ref w9])), (w0, .inl (E 0, 137, .inl (upd (upd wvi (57 + 6 * r + 2 * i + 0) (nI (((r + M - i) - 1) % (M - 1)))) (57 + 6 * r + 2 * i + 1) (nI ((r + i) % (M - 1))))))]) (ws' := [(m0, .inr (6, [.ref w0, .ref w1, .ref w2, .int ik, .ref w3, .int (nI tx), .int he, .int fa, .ref w4, .ref w5, .int (nI cl), .ref w6, .ref w7, .ref w8, .ref w9])), (w0, .inl (E 0, 137, .inl (upd (upd wvi (57 + 6 * r + 2 * i + 0) (nI (((r + M - i) - 1) % (M - 1)))) (57 + 6 * r + 2 * i + 1) (nI ((r + i) % (M - 1))))))]) hP hD [0, 1] [] [0, 1] rfl rfl (by decide +kernel) (by decide +kernel) hAc hk1 hP1 hD1 (by decide +kernel) rfl
                  clear hP1 hD1 hk1 hPc hDc hAc
                  refine lv_iinc (v := nI (i + 1)) (lv' := [(3, .int (nI (i + 1))), (0, .ref m0), (1, .int (nI M)), (2, .int (nI r))]) hx hb dX8_circles_127 hl (k := 3) rfl (nI_add _ _) (by decide) rfl (fun ls hl => ?_)
                  refine lv_goto (tgt := 84) hx hb dX8_circles_130 (by decide) ?_
                  have hl : lv_has ls 4 [(0, .ref m0), (1, .int (nI M)), (2, .int (nI r)), (3, .int (nI (i + 1)))] := lv_sub hl [1, 2, 3, 0] rfl
                  exact ih84 (i + 1) (upd (upd wvi (57 + 6 * r + 2 * i + 0) (nI (((r + M - i) - 1) % (M - 1)))) (57 + 6 * r + 2 * i + 1) (nI ((r + i) % (M - 1)))) H locs ls (by omega) (zv_ciI_s hM hrr (by omega) hI2 (congrArg nI (by first | exact (zv_ci_odd hi1 hb1).1.symm | (rw [(zv_ci_even hi1 hb1).1]; congr 1; omega) | (rw [(zv_ci_odd hi1 hb1).1]; done))) (congrArg nI (by first | exact (zv_ci_even hi1 hb1).2.symm | (rw [(zv_ci_odd hi1 hb1).2]; congr 1; omega)))) (by omega) (by omega) hP hD hS hl
                · skip
                  have cn_8 : i % 2 = 1 := (nI_eq (a := i % 2) (b := 1) (by omega) (by omega)).mp cn_8
                  have hb1 := cn_8
                  refine lv_iconst (v := nI 1) hx hb dX8_circles_119 (by rfl) ?_
                  refine lv_goto (tgt := 124) hx hb dX8_circles_120 (by decide) ?_
                  have hPc := hP.sub (ws' := [(m0, .inr (6, [.ref w0, .ref w1, .ref w2, .int ik, .ref w3, .int (nI tx), .int he, .int fa, .ref w4, .ref w5, .int (nI cl), .ref w6, .ref w7, .ref w8, .ref w9])), (w0, .inl (E 0, 137, .inl wvi))]) [0, 1] rfl
                  have hDc := hD.sub (ws' := [(m0, .inr (6, [.ref w0, .ref w1, .ref w2, .int ik, .ref w3, .int (nI tx), .int he, .int fa, .ref w4, .ref w5, .int (nI cl), .ref w6, .ref w7, .ref w8, .ref w9])), (w0, .inl (E 0, 137, .inl wvi))]) [0, 1] (by decide +kernel) rfl
                  have hAc := zw_AA (wc := [(m0, .inr (6, [.ref w0, .ref w1, .ref w2, .int ik, .ref w3, .int (nI tx), .int he, .int fa, .ref w4, .ref w5, .int (nI cl), .ref w6, .ref w7, .ref w8, .ref w9])), (w0, .inl (E 0, 137, .inl wvi))]) hD [0, 1] rfl
                  refine zw_cv hAc hS (va_runV (As := [.int (nI r), .int (nI i), .int (nI ((r + i) % (M - 1))), .int (nI (((r + M - i) - 1) % (M - 1))), .int (nI 1)]) (rest := []) ⟨hx, hb, hml, hown, hts⟩ (c_X8_plays_1 l D E m0 w0 w1 w2 w3 w4 w5 w6 w7 w8 w9 ik tx he fa cl wvi r i (nI ((r + i) % (M - 1))) (nI (((r + M - i) - 1) % (M - 1))) (by omega) (by omega)) (cwV 5 hts gX8_circles_X8_plays rfl rfl rfl (by decide +kernel) ⟨Nat.le_of_ble_eq_true rfl, Nat.le_of_ble_eq_true rfl⟩) (zw_V hK hPc hDc (ci := 6) (q0 := 0) rfl rfl) rfl rfl hl.1 rfl (lv_room (Nat.le_of_ble_eq_true rfl)) dX8_circles_124 ⟨Nat.zero_le _, Nat.zero_le _⟩) (fun u_14 H locs hw_13 hP1 hD1 hk1 hS => ?_)
                  obtain ⟨hP, hD⟩ := zw_join (wr := []) (w1 := [(m0, .inr (6, [.ref w0, .ref w1, .ref w2, .int ik, .ref w3, .int (nI tx), .int he, .int fa, .ref w4, .ref w5, .int (nI cl), .ref w6, .ref w7, .ref w8, .ref w9])), (w0, .inl (E 0, 137, .inl (upd (upd wvi (57 + 6 * r + 2 * i + 0) (nI ((r + i) % (M - 1)))) (57 + 6 * r + 2 * i + 1) (nI (((r + M - i) - 1) % (M - 1))))))]) (ws' := [(m0, .inr (6, [.ref w0, .ref w1, .ref w2, .int ik, .ref w3, .int (nI tx), .int he, .int fa, .ref w4, .ref w5, .int (nI cl), .ref w6, .ref w7, .ref w8, .ref w9])), (w0, .inl (E 0, 137, .inl (upd (upd wvi (57 + 6 * r + 2 * i + 0) (nI ((r + i) % (M - 1)))) (57 + 6 * r + 2 * i + 1) (nI (((r + M - i) - 1) % (M - 1))))))]) hP hD [0, 1] [] [0, 1] rfl rfl (by decide +kernel) (by decide +kernel) hAc hk1 hP1 hD1 (by decide +kernel) rfl
                  clear hP1 hD1 hk1 hPc hDc hAc
                  refine lv_iinc (v := nI (i + 1)) (lv' := [(3, .int (nI (i + 1))), (0, .ref m0), (1, .int (nI M)), (2, .int (nI r))]) hx hb dX8_circles_127 hl (k := 3) rfl (nI_add _ _) (by decide) rfl (fun ls hl => ?_)
                  refine lv_goto (tgt := 84) hx hb dX8_circles_130 (by decide) ?_
                  have hl : lv_has ls 4 [(0, .ref m0), (1, .int (nI M)), (2, .int (nI r)), (3, .int (nI (i + 1)))] := lv_sub hl [1, 2, 3, 0] rfl
                  exact ih84 (i + 1) (upd (upd wvi (57 + 6 * r + 2 * i + 0) (nI ((r + i) % (M - 1)))) (57 + 6 * r + 2 * i + 1) (nI (((r + M - i) - 1) % (M - 1)))) H locs ls (by omega) (zv_ciI_s hM hrr (by omega) hI2 (congrArg nI (by first | exact (zv_ci_odd hi1 hb1).1.symm | (rw [(zv_ci_even hi1 hb1).1]; congr 1; omega) | (rw [(zv_ci_odd hi1 hb1).1]; done))) (congrArg nI (by first | exact (zv_ci_even hi1 hb1).2.symm | (rw [(zv_ci_odd hi1 hb1).2]; congr 1; omega)))) (by omega) (by omega) hP hD hS hl
          · skip
            have cn_3 : r % 2 = 0 := (nI_eq (a := r % 2) (b := 0) (by omega) (by omega)).mp cn_3
            have hb0 := cn_3
            refine lv_iconst (v := nI 1) hx hb dX8_circles_74 (by rfl) ?_
            refine lv_goto (tgt := 79) hx hb dX8_circles_75 (by decide) ?_
            have hPc := hP.sub (ws' := [(m0, .inr (6, [.ref w0, .ref w1, .ref w2, .int ik, .ref w3, .int (nI tx), .int he, .int fa, .ref w4, .ref w5, .int (nI cl), .ref w6, .ref w7, .ref w8, .ref w9])), (w0, .inl (E 0, 137, .inl wvr))]) [0, 1] rfl
            have hDc := hD.sub (ws' := [(m0, .inr (6, [.ref w0, .ref w1, .ref w2, .int ik, .ref w3, .int (nI tx), .int he, .int fa, .ref w4, .ref w5, .int (nI cl), .ref w6, .ref w7, .ref w8, .ref w9])), (w0, .inl (E 0, 137, .inl wvr))]) [0, 1] (by decide +kernel) rfl
            have hAc := zw_AA (wc := [(m0, .inr (6, [.ref w0, .ref w1, .ref w2, .int ik, .ref w3, .int (nI tx), .int he, .int fa, .ref w4, .ref w5, .int (nI cl), .ref w6, .ref w7, .ref w8, .ref w9])), (w0, .inl (E 0, 137, .inl wvr))]) hD [0, 1] rfl
            refine zw_cv hAc hS (va_runV (As := [.int (nI r), .int (nI 0), .int (nI r), .int (nI (M - 1)), .int (nI 1)]) (rest := []) ⟨hx, hb, hml, hown, hts⟩ (c_X8_plays_1 l D E m0 w0 w1 w2 w3 w4 w5 w6 w7 w8 w9 ik tx he fa cl wvr r 0 (nI r) (nI (M - 1)) (by omega) (by omega)) (cwV 5 hts gX8_circles_X8_plays rfl rfl rfl (by decide +kernel) ⟨Nat.le_of_ble_eq_true rfl, Nat.le_of_ble_eq_true rfl⟩) (zw_V hK hPc hDc (ci := 6) (q0 := 0) rfl rfl) rfl rfl hl.1 rfl (lv_room (Nat.le_of_ble_eq_true rfl)) dX8_circles_79 ⟨Nat.zero_le _, Nat.zero_le _⟩) (fun u_17 H locs hw_16 hP1 hD1 hk1 hS => ?_)
            obtain ⟨hP, hD⟩ := zw_join (wr := []) (w1 := [(m0, .inr (6, [.ref w0, .ref w1, .ref w2, .int ik, .ref w3, .int (nI tx), .int he, .int fa, .ref w4, .ref w5, .int (nI cl), .ref w6, .ref w7, .ref w8, .ref w9])), (w0, .inl (E 0, 137, .inl (upd (upd wvr (57 + 6 * r + 2 * 0 + 0) (nI r)) (57 + 6 * r + 2 * 0 + 1) (nI (M - 1)))))]) (ws' := [(m0, .inr (6, [.ref w0, .ref w1, .ref w2, .int ik, .ref w3, .int (nI tx), .int he, .int fa, .ref w4, .ref w5, .int (nI cl), .ref w6, .ref w7, .ref w8, .ref w9])), (w0, .inl (E 0, 137, .inl (upd (upd wvr (57 + 6 * r + 2 * 0 + 0) (nI r)) (57 + 6 * r + 2 * 0 + 1) (nI (M - 1)))))]) hP hD [0, 1] [] [0, 1] rfl rfl (by decide +kernel) (by decide +kernel) hAc hk1 hP1 hD1 (by decide +kernel) rfl
            clear hP1 hD1 hk1 hPc hDc hAc
            refine lv_iconst (v := nI 1) hx hb dX8_circles_82 (by rfl) ?_
            refine lv_istore_n (lv' := [(3, .int (nI 1)), (0, .ref m0), (1, .int (nI M)), (2, .int (nI r))]) hx hb dX8_circles_83 rfl hl (by decide) rfl (fun ls hl => ?_)
            suffices KL84 : ∀ (kz : Nat) (i : Nat) (wvi : Nat → Int32) (H : Heap) (locs : List Loc) (ls : Array Slot), (M - i) < kz → (zv_ciI M r i wvk wvi) → (1 ≤ i) → (i ≤ M / 2) → va_P D vwCl [(m0, .inr (6, [.ref w0, .ref w1, .ref w2, .int ik, .ref w3, .int (nI tx), .int he, .int fa, .ref w4, .ref w5, .int (nI cl), .ref w6, .ref w7, .ref w8, .ref w9])), (w0, .inl (E 0, 137, .inl wvi))] H → va_D A [(m0, .inr (6, [.ref w0, .ref w1, .ref w2, .int ik, .ref w3, .int (nI tx), .int he, .int fa, .ref w4, .ref w5, .int (nI cl), .ref w6, .ref w7, .ref w8, .ref w9])), (w0, .inl (E 0, 137, .inl wvi))] → va_S A s.heap H locs → lv_has ls 4 [(0, .ref m0), (1, .int (nI M)), (2, .int (nI r)), (3, .int (nI i))] → W p l e (headSpec wsX8_circles ({ frames := 2, cells := 0, slots := 0, locals := 48 })).room s m ([.ref m0, .int (nI M)] : List Value).toArray below meth c H locs 0 0 Q (F0 m 84 ls []) from
              KL84 _ 1 (upd (upd wvr (57 + 6 * r + 2 * 0 + 0) (nI r)) (57 + 6 * r + 2 * 0 + 1) (nI (M - 1))) _ _ ls (Nat.lt_succ_self _) (zv_ciI_s hM hrr (by omega) hI (congrArg nI (by first | exact (zv_ci_0e hb0).1.symm | exact (zv_ci_0o hb0).1.symm)) (congrArg nI (by first | exact (zv_ci_0e hb0).2.symm | exact (zv_ci_0o hb0).2.symm))) (by omega) (by omega) hP hD hS (lv_sub hl [1, 2, 3, 0] rfl)
            clear hP hS hl hD
            intro kz
            induction kz with
            | zero => intro i wvi H locs ls hkz; exact absurd hkz (Nat.not_lt_zero _)
            | succ kz ih84 =>
              intro i wvi H locs ls hkz hI2 hi1 hi2 hP hD hS hl
              refine lv_iload_n hx hb dX8_circles_84 rfl (lv_at hl 3 rfl) ?_
              refine lv_iload_n hx hb dX8_circles_85 rfl (lv_at hl 1 rfl) ?_
              refine lv_iconst (v := nI 2) hx hb dX8_circles_86 (by rfl) ?_
              refine lv_idiv hx hb dX8_circles_87 (by decide) ?_
              refine zr_ti (y := nI (M / 2)) (pk_div (by omega) (by omega) (by omega)) ?_
              refine lv_icmp_ge (tgt := 133) hx hb dX8_circles_88 (by decide) (fun cn_18 => ?_) (fun cn_18 => ?_)
              · skip
                have cn_18 : M / 2 ≤ i := (nI_leI (a := M / 2) (b := i) (by omega) (by omega)).mp cn_18
                refine lv_iinc (v := nI (r + 1)) (lv' := [(2, .int (nI (r + 1))), (0, .ref m0), (1, .int (nI M)), (3, .int (nI i))]) hx hb dX8_circles_133 hl (k := 2) rfl (nI_add _ _) (by decide) rfl (fun ls hl => ?_)
                refine lv_goto (tgt := 54) hx hb dX8_circles_136 (by decide) ?_
                have hl : lv_has ls 4 [(0, .ref m0), (1, .int (nI M)), (2, .int (nI (r + 1)))] := lv_sub hl [1, 2, 0] rfl
                exact ih54 (r + 1) wvi H locs ls (by omega) (zv_ciI_r hM (by omega) hI2) (by omega) hP hD hS hl
              · skip
                have cn_18 : ¬ (M / 2 ≤ i) := fun hz => cn_18 ((nI_leI (a := M / 2) (b := i) (by omega) (by omega)).mpr hz)
                have hii : i < M / 2 := by omega
                refine lv_aload_n hx hb dX8_circles_91 rfl (lv_at hl 0 rfl) ?_
                refine lv_iload_n hx hb dX8_circles_92 rfl (lv_at hl 2 rfl) ?_
                refine lv_iload_n hx hb dX8_circles_93 rfl (lv_at hl 3 rfl) ?_
                refine lv_iload_n hx hb dX8_circles_94 rfl (lv_at hl 2 rfl) ?_
                refine lv_iload_n hx hb dX8_circles_95 rfl (lv_at hl 3 rfl) ?_
                refine lv_iadd hx hb dX8_circles_96 ?_
                refine zr_ti (y := nI (r + i)) (nI_add _ _) ?_
                refine lv_iload_n hx hb dX8_circles_97 rfl (lv_at hl 1 rfl) ?_
                refine lv_iconst (v := nI 1) hx hb dX8_circles_98 (by rfl) ?_
                refine lv_isub hx hb dX8_circles_99 ?_
                refine zr_ti (y := nI (M - 1)) (pk_sub (by omega)) ?_
                refine lv_irem hx hb dX8_circles_100 (nI_ne0 (by omega) (by omega)) ?_
                refine zr_ti (y := nI ((r + i) % (M - 1))) (pk_rem (by omega) (by omega) (by omega)) ?_
                refine lv_iload_n hx hb dX8_circles_101 rfl (lv_at hl 2 rfl) ?_
                refine lv_iload_n hx hb dX8_circles_102 rfl (lv_at hl 3 rfl) ?_
                refine lv_isub hx hb dX8_circles_103 ?_
                refine lv_iload_n hx hb dX8_circles_104 rfl (lv_at hl 1 rfl) ?_
                refine lv_iadd hx hb dX8_circles_105 ?_
                refine zr_ti (y := nI (r + M - i)) (zn_wrap (by omega)) ?_
                refine lv_iconst (v := nI 1) hx hb dX8_circles_106 (by rfl) ?_
                refine lv_isub hx hb dX8_circles_107 ?_
                refine zr_ti (y := nI ((r + M - i) - 1)) (pk_sub (by omega)) ?_
                refine lv_iload_n hx hb dX8_circles_108 rfl (lv_at hl 1 rfl) ?_
                refine lv_iconst (v := nI 1) hx hb dX8_circles_109 (by rfl) ?_
                refine lv_isub hx hb dX8_circles_110 ?_
                refine zr_ti (y := nI (M - 1)) (pk_sub (by omega)) ?_
                refine lv_irem hx hb dX8_circles_111 (nI_ne0 (by omega) (by omega)) ?_
                refine zr_ti (y := nI (((r + M - i) - 1) % (M - 1))) (pk_rem (by omega) (by omega) (by omega)) ?_
                refine lv_iload_n hx hb dX8_circles_112 rfl (lv_at hl 3 rfl) ?_
                refine lv_iconst (v := nI 2) hx hb dX8_circles_113 (by rfl) ?_
                refine lv_irem hx hb dX8_circles_114 (by decide) ?_
                refine zr_ti (y := nI (i % 2)) (pk_rem (by omega) (by omega) (by omega)) ?_
                refine lv_iconst (v := nI 1) hx hb dX8_circles_115 (by rfl) ?_
                refine lv_icmp_ne (tgt := 123) hx hb dX8_circles_116 (by decide) (fun cn_19 => ?_) (fun cn_19 => ?_)
                · skip
                  have cn_19 : ¬ (i % 2 = 1) := fun hz => cn_19 ((nI_eq (a := i % 2) (b := 1) (by omega) (by omega)).mpr hz)
                  have hb1 := cn_19
                  refine lv_iconst (v := nI 0) hx hb dX8_circles_123 (by rfl) ?_
                  have hPc := hP.sub (ws' := [(m0, .inr (6, [.ref w0, .ref w1, .ref w2, .int ik, .ref w3, .int (nI tx), .int he, .int fa, .ref w4, .ref w5, .int (nI cl), .ref w6, .ref w7, .ref w8, .ref w9])), (w0, .inl (E 0, 137, .inl wvi))]) [0, 1] rfl
                  have hDc := hD.sub (ws' := [(m0, .inr (6, [.ref w0, .ref w1, .ref w2, .int ik, .ref w3, .int (nI tx), .int he, .int fa, .ref w4, .ref w5, .int (nI cl), .ref w6, .ref w7, .ref w8, .ref w9])), (w0, .inl (E 0, 137, .inl wvi))]) [0, 1] (by decide +kernel) rfl
                  have hAc := zw_AA (wc := [(m0, .inr (6, [.ref w0, .ref w1, .ref w2, .int ik, .ref w3, .int (nI tx), .int he, .int fa, .ref w4, .ref w5, .int (nI cl), .ref w6, .ref w7, .ref w8, .ref w9])), (w0, .inl (E 0, 137, .inl wvi))]) hD [0, 1] rfl
                  refine zw_cv hAc hS (va_runV (As := [.int (nI r), .int (nI i), .int (nI ((r + i) % (M - 1))), .int (nI (((r + M - i) - 1) % (M - 1))), .int (nI 0)]) (rest := []) ⟨hx, hb, hml, hown, hts⟩ (c_X8_plays_0 l D E m0 w0 w1 w2 w3 w4 w5 w6 w7 w8 w9 ik tx he fa cl wvi r i (nI ((r + i) % (M - 1))) (nI (((r + M - i) - 1) % (M - 1))) (by omega) (by omega)) (cwV 5 hts gX8_circles_X8_plays rfl rfl rfl (by decide +kernel) ⟨Nat.le_of_ble_eq_true rfl, Nat.le_of_ble_eq_true rfl⟩) (zw_V hK hPc hDc (ci := 6) (q0 := 0) rfl rfl) rfl rfl hl.1 rfl (lv_room (Nat.le_of_ble_eq_true rfl)) dX8_circles_124 ⟨Nat.zero_le _, Nat.zero_le _⟩) (fun u_22 H locs hw_21 hP1 hD1 hk1 hS => ?_)
                  obtain ⟨hP, hD⟩ := zw_join (wr := []) (w1 := [(m0, .inr (6, [.ref w0, .ref w1, .ref w2, .int ik, .ref w3, .int (nI tx), .int he, .int fa, .ref w4, .ref w5, .int (nI cl), .ref w6, .ref w7, .ref w8, .ref w9])), (w0, .inl (E 0, 137, .inl (upd (upd wvi (57 + 6 * r + 2 * i + 0) (nI (((r + M - i) - 1) % (M - 1)))) (57 + 6 * r + 2 * i + 1) (nI ((r + i) % (M - 1))))))]) (ws' := [(m0, .inr (6, [.ref w0, .ref w1, .ref w2, .int ik, .ref w3, .int (nI tx), .int he, .int fa, .ref w4, .ref w5, .int (nI cl), .ref w6, .ref w7, .ref w8, .ref w9])), (w0, .inl (E 0, 137, .inl (upd (upd wvi (57 + 6 * r + 2 * i + 0) (nI (((r + M - i) - 1) % (M - 1)))) (57 + 6 * r + 2 * i + 1) (nI ((r + i) % (M - 1))))))]) hP hD [0, 1] [] [0, 1] rfl rfl (by decide +kernel) (by decide +kernel) hAc hk1 hP1 hD1 (by decide +kernel) rfl
                  clear hP1 hD1 hk1 hPc hDc hAc
                  refine lv_iinc (v := nI (i + 1)) (lv' := [(3, .int (nI (i + 1))), (0, .ref m0), (1, .int (nI M)), (2, .int (nI r))]) hx hb dX8_circles_127 hl (k := 3) rfl (nI_add _ _) (by decide) rfl (fun ls hl => ?_)
                  refine lv_goto (tgt := 84) hx hb dX8_circles_130 (by decide) ?_
                  have hl : lv_has ls 4 [(0, .ref m0), (1, .int (nI M)), (2, .int (nI r)), (3, .int (nI (i + 1)))] := lv_sub hl [1, 2, 3, 0] rfl
                  exact ih84 (i + 1) (upd (upd wvi (57 + 6 * r + 2 * i + 0) (nI (((r + M - i) - 1) % (M - 1)))) (57 + 6 * r + 2 * i + 1) (nI ((r + i) % (M - 1)))) H locs ls (by omega) (zv_ciI_s hM hrr (by omega) hI2 (congrArg nI (by first | exact (zv_ci_odd hi1 hb1).1.symm | (rw [(zv_ci_even hi1 hb1).1]; congr 1; omega) | (rw [(zv_ci_odd hi1 hb1).1]; done))) (congrArg nI (by first | exact (zv_ci_even hi1 hb1).2.symm | (rw [(zv_ci_odd hi1 hb1).2]; congr 1; omega)))) (by omega) (by omega) hP hD hS hl
                · skip
                  have cn_19 : i % 2 = 1 := (nI_eq (a := i % 2) (b := 1) (by omega) (by omega)).mp cn_19
                  have hb1 := cn_19
                  refine lv_iconst (v := nI 1) hx hb dX8_circles_119 (by rfl) ?_
                  refine lv_goto (tgt := 124) hx hb dX8_circles_120 (by decide) ?_
                  have hPc := hP.sub (ws' := [(m0, .inr (6, [.ref w0, .ref w1, .ref w2, .int ik, .ref w3, .int (nI tx), .int he, .int fa, .ref w4, .ref w5, .int (nI cl), .ref w6, .ref w7, .ref w8, .ref w9])), (w0, .inl (E 0, 137, .inl wvi))]) [0, 1] rfl
                  have hDc := hD.sub (ws' := [(m0, .inr (6, [.ref w0, .ref w1, .ref w2, .int ik, .ref w3, .int (nI tx), .int he, .int fa, .ref w4, .ref w5, .int (nI cl), .ref w6, .ref w7, .ref w8, .ref w9])), (w0, .inl (E 0, 137, .inl wvi))]) [0, 1] (by decide +kernel) rfl
                  have hAc := zw_AA (wc := [(m0, .inr (6, [.ref w0, .ref w1, .ref w2, .int ik, .ref w3, .int (nI tx), .int he, .int fa, .ref w4, .ref w5, .int (nI cl), .ref w6, .ref w7, .ref w8, .ref w9])), (w0, .inl (E 0, 137, .inl wvi))]) hD [0, 1] rfl
                  refine zw_cv hAc hS (va_runV (As := [.int (nI r), .int (nI i), .int (nI ((r + i) % (M - 1))), .int (nI (((r + M - i) - 1) % (M - 1))), .int (nI 1)]) (rest := []) ⟨hx, hb, hml, hown, hts⟩ (c_X8_plays_1 l D E m0 w0 w1 w2 w3 w4 w5 w6 w7 w8 w9 ik tx he fa cl wvi r i (nI ((r + i) % (M - 1))) (nI (((r + M - i) - 1) % (M - 1))) (by omega) (by omega)) (cwV 5 hts gX8_circles_X8_plays rfl rfl rfl (by decide +kernel) ⟨Nat.le_of_ble_eq_true rfl, Nat.le_of_ble_eq_true rfl⟩) (zw_V hK hPc hDc (ci := 6) (q0 := 0) rfl rfl) rfl rfl hl.1 rfl (lv_room (Nat.le_of_ble_eq_true rfl)) dX8_circles_124 ⟨Nat.zero_le _, Nat.zero_le _⟩) (fun u_25 H locs hw_24 hP1 hD1 hk1 hS => ?_)
                  obtain ⟨hP, hD⟩ := zw_join (wr := []) (w1 := [(m0, .inr (6, [.ref w0, .ref w1, .ref w2, .int ik, .ref w3, .int (nI tx), .int he, .int fa, .ref w4, .ref w5, .int (nI cl), .ref w6, .ref w7, .ref w8, .ref w9])), (w0, .inl (E 0, 137, .inl (upd (upd wvi (57 + 6 * r + 2 * i + 0) (nI ((r + i) % (M - 1)))) (57 + 6 * r + 2 * i + 1) (nI (((r + M - i) - 1) % (M - 1))))))]) (ws' := [(m0, .inr (6, [.ref w0, .ref w1, .ref w2, .int ik, .ref w3, .int (nI tx), .int he, .int fa, .ref w4, .ref w5, .int (nI cl), .ref w6, .ref w7, .ref w8, .ref w9])), (w0, .inl (E 0, 137, .inl (upd (upd wvi (57 + 6 * r + 2 * i + 0) (nI ((r + i) % (M - 1)))) (57 + 6 * r + 2 * i + 1) (nI (((r + M - i) - 1) % (M - 1))))))]) hP hD [0, 1] [] [0, 1] rfl rfl (by decide +kernel) (by decide +kernel) hAc hk1 hP1 hD1 (by decide +kernel) rfl
                  clear hP1 hD1 hk1 hPc hDc hAc
                  refine lv_iinc (v := nI (i + 1)) (lv' := [(3, .int (nI (i + 1))), (0, .ref m0), (1, .int (nI M)), (2, .int (nI r))]) hx hb dX8_circles_127 hl (k := 3) rfl (nI_add _ _) (by decide) rfl (fun ls hl => ?_)
                  refine lv_goto (tgt := 84) hx hb dX8_circles_130 (by decide) ?_
                  have hl : lv_has ls 4 [(0, .ref m0), (1, .int (nI M)), (2, .int (nI r)), (3, .int (nI (i + 1)))] := lv_sub hl [1, 2, 3, 0] rfl
                  exact ih84 (i + 1) (upd (upd wvi (57 + 6 * r + 2 * i + 0) (nI ((r + i) % (M - 1)))) (57 + 6 * r + 2 * i + 1) (nI (((r + M - i) - 1) % (M - 1)))) H locs ls (by omega) (zv_ciI_s hM hrr (by omega) hI2 (congrArg nI (by first | exact (zv_ci_odd hi1 hb1).1.symm | (rw [(zv_ci_even hi1 hb1).1]; congr 1; omega) | (rw [(zv_ci_odd hi1 hb1).1]; done))) (congrArg nI (by first | exact (zv_ci_even hi1 hb1).2.symm | (rw [(zv_ci_odd hi1 hb1).2]; congr 1; omega)))) (by omega) (by omega) hP hD hS hl
    · skip
      have cn_1 : ¬ (36 ≤ k) := fun hz => cn_1 ((nI_leI (a := 36) (b := k) (by omega) (by omega)).mpr hz)
      refine lv_aload_n hx hb dX8_circles_36 rfl (lv_at hl 0 rfl) ?_
      refine va_get (D := D) (ci := 6) (v := .ref w0) (C := RX8) (T := TX8) (N := 15) hx hb hts (by decide +kernel) hown hK.1 hP 0 rfl rfl 0 (by decide) (hts (.fieldLink RX8 11 "HomeRoundsModel" "w" "[I") (by decide +kernel)) (fun _ h9 => h9) rfl dX8_circles_37 ?_
      refine lv_bipush (v := nI 21) hx hb dX8_circles_40 (by rfl) ?_
      refine lv_iload_n hx hb dX8_circles_42 rfl (lv_at hl 2 rfl) ?_
      refine lv_iadd hx hb dX8_circles_43 ?_
      refine zr_ti (y := nI (21 + k)) (nI_add _ _) ?_
      refine lv_iconst (v := nI 0) hx hb dX8_circles_44 (by rfl) ?_
      refine va_iast hx hb hK.1 hP hD hS 1 0 rfl rfl (vp_in_nI (by omega) (by omega)) dX8_circles_45 (fun H locs hP hD hS => ?_)
      have hP : va_P D vwCl [(m0, .inr (6, [.ref w0, .ref w1, .ref w2, .int ik, .ref w3, .int (nI tx), .int he, .int fa, .ref w4, .ref w5, .int (nI cl), .ref w6, .ref w7, .ref w8, .ref w9])), (w0, .inl (E 0, 137, .inl (upd wvk (nI (21 + k)).toNatClampNeg (nI 0))))] H := hP
      have hD : va_D A [(m0, .inr (6, [.ref w0, .ref w1, .ref w2, .int ik, .ref w3, .int (nI tx), .int he, .int fa, .ref w4, .ref w5, .int (nI cl), .ref w6, .ref w7, .ref w8, .ref w9])), (w0, .inl (E 0, 137, .inl (upd wvk (nI (21 + k)).toNatClampNeg (nI 0))))] := hD
      have hcz : (upd wvk (nI (21 + k)).toNatClampNeg (nI 0)) = (upd wvk (21 + k) (nI 0)) := by rw [nI_clamp (n := 21 + k) (by omega)]
      rw [hcz] at hP hD
      refine lv_iinc (v := nI (k + 1)) (lv' := [(2, .int (nI (k + 1))), (0, .ref m0), (1, .int (nI M))]) hx hb dX8_circles_46 hl (k := 2) rfl (nI_add _ _) (by decide) rfl (fun ls hl => ?_)
      refine lv_goto (tgt := 30) hx hb dX8_circles_49 (by decide) ?_
      have hl : lv_has ls 4 [(0, .ref m0), (1, .int (nI M)), (2, .int (nI (k + 1)))] := lv_sub hl [1, 2, 0] rfl
      exact ih30 (k + 1) (upd wvk (21 + k) (nI 0)) H locs ls (by omega) (fun j hj => by unfold upd; split; exact rfl; exact hz1 j (by omega)) (fun x hx => by unfold upd; rw [if_neg (by omega)]; exact hz2 x hx) (by omega) hP hD hS hl

