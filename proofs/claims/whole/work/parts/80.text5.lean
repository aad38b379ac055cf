set_option maxHeartbeats 4000000 in
set_option maxRecDepth 100000 in
theorem c_X8_number_1 (l : Launch) (D : va_G) (E : Nat → ClassId) (m0 : Nat) (w0 : Nat) (w1 : Nat) (w2 : Nat) (w3 : Nat) (w4 : Nat) (w5 : Nat) (w6 : Nat) (w7 : Nat) (w8 : Nat) (w9 : Nat) (ik : Int32) (tx : Nat) (cl : Nat) (wv : Nat → Int32) (hp : Nat) (tg : Nat → Int32) (T : Nat → Nat) (htx : zx_T tx T tg) (hpt8 : hp ≤ tx) : Met l yX8_number wsX8_number ({ frames := 2, cells := 0, slots := 0, locals := 42 }) (zw_P D E [.ref m0, .int (nI 1)] [(m0, .inr (6, [.ref w0, .ref w1, .ref w2, .int ik, .ref w3, .int (nI tx), .int (nI hp), .int (-1), .ref w4, .ref w5, .int (nI cl), .ref w6, .ref w7, .ref w8, .ref w9])), (w3, .inl (E 0, 100, .inl tg))]) (zw_Qi D [(m0, .inr (6, [.ref w0, .ref w1, .ref w2, .int ik, .ref w3, .int (nI tx), .int (nI hp), .int (-1), .ref w4, .ref w5, .int (nI cl), .ref w6, .ref w7, .ref w8, .ref w9])), (w3, .inl (E 0, 100, .inl tg))] (fun zv (u : (Nat) × (Int32)) => zx_n1 T tx 0 hp zv u.2 u.1) (fun (u : (Nat) × (Int32)) => [(m0, .inr (6, [.ref w0, .ref w1, .ref w2, .int ik, .ref w3, .int (nI tx), .int (nI u.1), .int u.2, .ref w4, .ref w5, .int (nI cl), .ref w6, .ref w7, .ref w8, .ref w9])), (w3, .inl (E 0, 100, .inl tg))])) 0 0 (zw_A [(m0, .inr (6, [.ref w0, .ref w1, .ref w2, .int ik, .ref w3, .int (nI tx), .int (nI hp), .int (-1), .ref w4, .ref w5, .int (nI cl), .ref w6, .ref w7, .ref w8, .ref w9])), (w3, .inl (E 0, 100, .inl tg))]) := by
  refine Met.ofW (cc := cX8_number) (maxL := 4) (ret := (some .int)) (by decide) rfl ?_
  intro p e s m args below meth c s₁ Bz hml hv
  obtain ⟨rfl, hP, hK, hD0⟩ := hv
  have hx := Bz.exec
  have hb := Bz.bytes
  have hr := Bz.returns
  have hts := atoms_spec (ws := wsX8_number) Bz.pre
  have hown : s.vm.findClass RX8 = some m.cls := findClass_of_methodNamed Bz.named
  have hlocks := Bz.notSynchronized
  have hP : va_P D vwCl [(m0, .inr (6, [.ref w0, .ref w1, .ref w2, .int ik, .ref w3, .int (nI tx), .int (nI hp), .int (-1), .ref w4, .ref w5, .int (nI cl), .ref w6, .ref w7, .ref w8, .ref w9])), (w3, .inl (E 0, 100, .inl tg))] s.heap := hP
  obtain ⟨A, hAe⟩ : ∃ A : Nat → Prop, A = zw_A [(m0, .inr (6, [.ref w0, .ref w1, .ref w2, .int ik, .ref w3, .int (nI tx), .int (nI hp), .int (-1), .ref w4, .ref w5, .int (nI cl), .ref w6, .ref w7, .ref w8, .ref w9])), (w3, .inl (E 0, 100, .inl tg))] := ⟨_, rfl⟩
  have hD : va_D A [(m0, .inr (6, [.ref w0, .ref w1, .ref w2, .int ik, .ref w3, .int (nI tx), .int (nI hp), .int (-1), .ref w4, .ref w5, .int (nI cl), .ref w6, .ref w7, .ref w8, .ref w9])), (w3, .inl (E 0, 100, .inl tg))] := hAe ▸ zw_own hD0
  have hS : va_S A s.heap s.heap [] := va_S.rf
  have hl := lv_entry ([.ref m0, .int (nI 1)]) (n := 4) (Nat.le_of_ble_eq_true rfl)
  rw [lg_entry_eq]
  generalize (lg_sl ([.ref m0, .int (nI 1)]) ++ List.replicate (4 - (lg_sl ([.ref m0, .int (nI 1)])).length) Slot.unset).toArray = ls at hl ⊢
  have hl : lv_has ls 4 [(0, .ref m0), (1, .int (nI 1))] := hl
  refine zr_nQ (fun Q hQ => ?_)
  have htx1 := htx.1
  have htx2 := htx.2
  refine lv_aload_n hx hb dX8_number_0 rfl (lv_at hl 0 rfl) ?_
  refine lv_bipush (v := nI 32) hx hb dX8_number_1 (by rfl) ?_
  have hPc := hP.sub (ws' := [(m0, .inr (6, [.ref w0, .ref w1, .ref w2, .int ik, .ref w3, .int (nI tx), .int (nI hp), .int (-1), .ref w4, .ref w5, .int (nI cl), .ref w6, .ref w7, .ref w8, .ref w9])), (w3, .inl (E 0, 100, .inl tg))]) [0, 1] rfl
  have hDc := hD.sub (ws' := [(m0, .inr (6, [.ref w0, .ref w1, .ref w2, .int ik, .ref w3, .int (nI tx), .int (nI hp), .int (-1), .ref w4, .ref w5, .int (nI cl), .ref w6, .ref w7, .ref w8, .ref w9])), (w3, .inl (E 0, 100, .inl tg))]) [0, 1] (by decide +kernel) rfl
  have hAc := zw_AA (wc := [(m0, .inr (6, [.ref w0, .ref w1, .ref w2, .int ik, .ref w3, .int (nI tx), .int (nI hp), .int (-1), .ref w4, .ref w5, .int (nI cl), .ref w6, .ref w7, .ref w8, .ref w9])), (w3, .inl (E 0, 100, .inl tg))]) hD [0, 1] rfl
  refine zw_cv hAc hS (va_runV (As := [.int (nI 32)]) (rest := []) ⟨hx, hb, hml, hown, hts⟩ (c_X8_takes_n l D E m0 w0 w1 w2 w3 w4 w5 w6 w7 w8 w9 ik tx cl wv hp tg T 32 (htx) (by omega) (by omega)) (cwV 1 hts gX8_number_X8_takes rfl rfl rfl (by decide +kernel) ⟨Nat.le_of_ble_eq_true rfl, Nat.le_of_ble_eq_true rfl⟩) (zw_V hK hPc hDc (ci := 6) (q0 := 0) rfl rfl) rfl rfl hl.1 rfl (lv_room (Nat.le_of_ble_eq_true rfl)) dX8_number_3 ⟨Nat.zero_le _, Nat.zero_le _⟩) (fun u_3 H locs hw_2 hP1 hD1 hk1 hS => ?_)
  obtain ⟨hpn_4, fan_5⟩ := u_3
  try dsimp only at hw_2 hP1 hD1
  obtain ⟨hP, hD⟩ := zw_join (wr := []) (w1 := [(m0, .inr (6, [.ref w0, .ref w1, .ref w2, .int ik, .ref w3, .int (nI tx), .int (nI hpn_4), .int fan_5, .ref w4, .ref w5, .int (nI cl), .ref w6, .ref w7, .ref w8, .ref w9])), (w3, .inl (E 0, 100, .inl tg))]) (ws' := [(m0, .inr (6, [.ref w0, .ref w1, .ref w2, .int ik, .ref w3, .int (nI tx), .int (nI hpn_4), .int fan_5, .ref w4, .ref w5, .int (nI cl), .ref w6, .ref w7, .ref w8, .ref w9])), (w3, .inl (E 0, 100, .inl tg))]) hP hD [0, 1] [] [0, 1] rfl rfl (by decide +kernel) (by decide +kernel) hAc hk1 hP1 hD1 (by decide +kernel) rfl
  clear hP1 hD1 hk1 hPc hDc hAc
  have htk := hw_2
  rcases htk with ⟨hat, eh, ef, hle⟩ | ⟨hnat, eh, ef⟩
  · skip
    rw [eh, ef] at hP hD
    refine lv_aload_n hx hb dX8_number_6 rfl (lv_at hl 0 rfl) ?_
    refine va_get (D := D) (ci := 6) (v := .int (nI (hp + 1))) (C := RX8) (T := TX8) (N := 15) hx hb hts (by decide +kernel) hown hK.1 hP 0 rfl rfl 6 (by decide) (hts (.fieldLink RX8 103 "HomeRoundsModel" "here" "I") (by decide +kernel)) (fun _ h9 => h9) rfl dX8_number_7 ?_
    refine lv_istore_n (lv' := [(2, .int (nI (hp + 1))), (0, .ref m0), (1, .int (nI 1))]) hx hb dX8_number_10 rfl hl (by decide) rfl (fun ls hl => ?_)
    refine lv_iconst (v := nI 0) hx hb dX8_number_11 (by rfl) ?_
    refine lv_istore_n (lv' := [(3, .int (nI 0)), (2, .int (nI (hp + 1))), (0, .ref m0), (1, .int (nI 1))]) hx hb dX8_number_12 rfl hl (by decide) rfl (fun ls hl => ?_)
    suffices KL13 : ∀ (kz : Nat) (k9 : Nat) (H : Heap) (locs : List Loc) (ls : Array Slot), (3 - k9) < kz → (k9 ≤ 1) → (∀ j, j < k9 → zx_dig T tx (hp + 1 + j) = true) → (hp + 1 + k9 ≤ tx) → va_P D vwCl [(m0, .inr (6, [.ref w0, .ref w1, .ref w2, .int ik, .ref w3, .int (nI tx), .int (nI (hp + 1 + k9)), .int (-1), .ref w4, .ref w5, .int (nI cl), .ref w6, .ref w7, .ref w8, .ref w9])), (w3, .inl (E 0, 100, .inl tg))] H → va_D A [(m0, .inr (6, [.ref w0, .ref w1, .ref w2, .int ik, .ref w3, .int (nI tx), .int (nI (hp + 1 + k9)), .int (-1), .ref w4, .ref w5, .int (nI cl), .ref w6, .ref w7, .ref w8, .ref w9])), (w3, .inl (E 0, 100, .inl tg))] → va_S A s.heap H locs → lv_has ls 4 [(0, .ref m0), (1, .int (nI 1)), (2, .int (nI (hp + 1))), (3, .int (nI (zx_vk T (hp + 1) k9)))] → W p l e (headSpec wsX8_number ({ frames := 2, cells := 0, slots := 0, locals := 42 })).room s m ([.ref m0, .int (nI 1)] : List Value).toArray below meth c H locs 0 0 Q (F0 m 13 ls []) from
      KL13 _ 0 _ _ ls (Nat.lt_succ_self _) (by omega) (fun j hj => absurd hj (Nat.not_lt_zero _)) (by omega) hP hD hS (lv_sub hl [2, 3, 1, 0] rfl)
    clear hP hS hl hD
    intro kz
    induction kz with
    | zero => intro k9 H locs ls hkz; exact absurd hkz (Nat.not_lt_zero _)
    | succ kz ih13 =>
      intro k9 H locs ls hkz hk9 hdg hkx hP hD hS hl
      refine lv_aload_n hx hb dX8_number_13 rfl (lv_at hl 0 rfl) ?_
      refine va_get (D := D) (ci := 6) (v := .int (-1)) (C := RX8) (T := TX8) (N := 15) hx hb hts (by decide +kernel) hown hK.1 hP 0 rfl rfl 7 (by decide) (hts (.fieldLink RX8 106 "HomeRoundsModel" "fault" "I") (by decide +kernel)) (fun _ h9 => h9) rfl dX8_number_14 ?_
      refine lv_if_ge (tgt := 70) hx hb dX8_number_17 (by decide) (fun cn_6 => ?_) (fun cn_6 => ?_)
      · skip
        exact absurd cn_6 (by decide)
      · skip
        refine lv_aload_n hx hb dX8_number_20 rfl (lv_at hl 0 rfl) ?_
        refine va_get (D := D) (ci := 6) (v := .int (nI (hp + 1 + k9))) (C := RX8) (T := TX8) (N := 15) hx hb hts (by decide +kernel) hown hK.1 hP 0 rfl rfl 6 (by decide) (hts (.fieldLink RX8 103 "HomeRoundsModel" "here" "I") (by decide +kernel)) (fun _ h9 => h9) rfl dX8_number_21 ?_
        refine lv_iload_n hx hb dX8_number_24 rfl (lv_at hl 2 rfl) ?_
        refine lv_isub hx hb dX8_number_25 ?_
        refine zr_ti (y := nI k9) ((pk_sub (by omega)).trans (congrArg nI (by omega))) ?_
        refine lv_iload_n hx hb dX8_number_26 rfl (lv_at hl 1 rfl) ?_
        refine lv_icmp_ge (tgt := 70) hx hb dX8_number_27 (by decide) (fun cn_7 => ?_) (fun cn_7 => ?_)
        · skip
          have cn_7 : 1 ≤ k9 := (nI_leI (a := 1) (b := k9) (by omega) (by omega)).mp cn_7
          refine lv_aload_n hx hb dX8_number_70 rfl (lv_at hl 0 rfl) ?_
          refine va_get (D := D) (ci := 6) (v := .int (nI (hp + 1 + k9))) (C := RX8) (T := TX8) (N := 15) hx hb hts (by decide +kernel) hown hK.1 hP 0 rfl rfl 6 (by decide) (hts (.fieldLink RX8 103 "HomeRoundsModel" "here" "I") (by decide +kernel)) (fun _ h9 => h9) rfl dX8_number_71 ?_
          refine lv_iload_n hx hb dX8_number_74 rfl (lv_at hl 2 rfl) ?_
          refine lv_icmp_ne (tgt := 86) hx hb dX8_number_75 (by decide) (fun cn_8 => ?_) (fun cn_8 => ?_)
          · skip
            have cn_8 : ¬ (hp + 1 + k9 = hp + 1) := fun hz => cn_8 ((nI_eq (a := hp + 1 + k9) (b := hp + 1) (by omega) (by omega)).mpr hz)
            refine lv_iload_n hx hb dX8_number_86 rfl (lv_at hl 3 rfl) ?_
            subst hQ; subst hAe
            exact W.iret (v := nI (zx_vk T (hp + 1) k9)) hx hb hr (fun tz htz hWz => ⟨⟨nI (zx_vk T (hp + 1) k9), (hp + 1 + k9, (-1)), rfl, zx_n1_d1 (by omega) hkx hat hdg, by rw [htz]; exact hP, hD⟩, hS.F htz⟩) hS.2.2 dX8_number_87
          · skip
            have cn_8 : hp + 1 + k9 = hp + 1 := (nI_eq (a := hp + 1 + k9) (b := hp + 1) (by omega) (by omega)).mp cn_8
            refine lv_aload_n hx hb dX8_number_78 rfl (lv_at hl 0 rfl) ?_
            refine lv_aload_n hx hb dX8_number_79 rfl (lv_at hl 0 rfl) ?_
            refine va_get (D := D) (ci := 6) (v := .int (nI (hp + 1 + k9))) (C := RX8) (T := TX8) (N := 15) hx hb hts (by decide +kernel) hown hK.1 hP 0 rfl rfl 6 (by decide) (hts (.fieldLink RX8 103 "HomeRoundsModel" "here" "I") (by decide +kernel)) (fun _ h9 => h9) rfl dX8_number_80 ?_
            have hPc := hP.sub (ws' := [(m0, .inr (6, [.ref w0, .ref w1, .ref w2, .int ik, .ref w3, .int (nI tx), .int (nI (hp + 1 + k9)), .int (-1), .ref w4, .ref w5, .int (nI cl), .ref w6, .ref w7, .ref w8, .ref w9])), (w3, .inl (E 0, 100, .inl tg))]) [0, 1] rfl
            have hDc := hD.sub (ws' := [(m0, .inr (6, [.ref w0, .ref w1, .ref w2, .int ik, .ref w3, .int (nI tx), .int (nI (hp + 1 + k9)), .int (-1), .ref w4, .ref w5, .int (nI cl), .ref w6, .ref w7, .ref w8, .ref w9])), (w3, .inl (E 0, 100, .inl tg))]) [0, 1] (by decide +kernel) rfl
            have hAc := zw_AA (wc := [(m0, .inr (6, [.ref w0, .ref w1, .ref w2, .int ik, .ref w3, .int (nI tx), .int (nI (hp + 1 + k9)), .int (-1), .ref w4, .ref w5, .int (nI cl), .ref w6, .ref w7, .ref w8, .ref w9])), (w3, .inl (E 0, 100, .inl tg))]) hD [0, 1] rfl
            refine zw_cv hAc hS (va_runV (As := [.int (nI (hp + 1 + k9))]) (rest := []) ⟨hx, hb, hml, hown, hts⟩ (c_X8_fails_n l D E m0 w0 w1 w2 w3 w4 w5 w6 w7 w8 w9 ik tx cl wv (hp + 1 + k9) tg T (hp + 1 + k9) (htx) (by omega)) (cwV 1 hts gX8_number_X8_fails rfl rfl rfl (by decide +kernel) ⟨Nat.le_of_ble_eq_true rfl, Nat.le_of_ble_eq_true rfl⟩) (zw_V hK hPc hDc (ci := 6) (q0 := 0) rfl rfl) rfl rfl hl.1 rfl (lv_room (Nat.le_of_ble_eq_true rfl)) dX8_number_83 ⟨Nat.zero_le _, Nat.zero_le _⟩) (fun u_11 H locs hw_10 hP1 hD1 hk1 hS => ?_)
            obtain ⟨hP, hD⟩ := zw_join (wr := []) (w1 := [(m0, .inr (6, [.ref w0, .ref w1, .ref w2, .int ik, .ref w3, .int (nI tx), .int (nI (hp + 1 + k9)), .int (nI (hp + 1 + k9)), .ref w4, .ref w5, .int (nI cl), .ref w6, .ref w7, .ref w8, .ref w9])), (w3, .inl (E 0, 100, .inl tg))]) (ws' := [(m0, .inr (6, [.ref w0, .ref w1, .ref w2, .int ik, .ref w3, .int (nI tx), .int (nI (hp + 1 + k9)), .int (nI (hp + 1 + k9)), .ref w4, .ref w5, .int (nI cl), .ref w6, .ref w7, .ref w8, .ref w9])), (w3, .inl (E 0, 100, .inl tg))]) hP hD [0, 1] [] [0, 1] rfl rfl (by decide +kernel) (by decide +kernel) hAc hk1 hP1 hD1 (by decide +kernel) rfl
            clear hP1 hD1 hk1 hPc hDc hAc
            refine lv_iload_n hx hb dX8_number_86 rfl (lv_at hl 3 rfl) ?_
            subst hQ; subst hAe
            exact W.iret (v := nI (zx_vk T (hp + 1) k9)) hx hb hr (fun tz htz hWz => ⟨⟨nI (zx_vk T (hp + 1) k9), (hp + 1 + k9, nI (hp + 1 + k9)), rfl, zx_n1_f2 (by omega) hat (by first | exact hnd | (exfalso; omega)), by rw [htz]; exact hP, hD⟩, hS.F htz⟩) hS.2.2 dX8_number_87
        · skip
          have cn_7 : ¬ (1 ≤ k9) := fun hz => cn_7 ((nI_leI (a := 1) (b := k9) (by omega) (by omega)).mpr hz)
          refine lv_aload_n hx hb dX8_number_30 rfl (lv_at hl 0 rfl) ?_
          refine zr_ci hP hS (va_runV (As := []) (rest := []) ⟨hx, hb, hml, hown, hts⟩ (c_X8_peek l D E m0 w0 w1 w2 w3 w4 w5 w6 w7 w8 w9 ik tx cl wv (hp + 1 + k9) tg T (-1) (htx) (by omega)) (cwV 0 hts gX8_number_X8_peek rfl rfl rfl (by decide +kernel) ⟨Nat.le_of_ble_eq_true rfl, Nat.le_of_ble_eq_true rfl⟩) (zr_V hK (hP.sub (ws' := [(m0, .inr (6, [.ref w0, .ref w1, .ref w2, .int ik, .ref w3, .int (nI tx), .int (nI (hp + 1 + k9)), .int (-1), .ref w4, .ref w5, .int (nI cl), .ref w6, .ref w7, .ref w8, .ref w9])), (w3, .inl (E 0, 100, .inl tg))]) [0, 1] rfl) (ci := 6) (q0 := 0) rfl rfl) rfl rfl hl.1 rfl (lv_room (Nat.le_of_ble_eq_true rfl)) dX8_number_31 ⟨Nat.zero_le _, Nat.zero_le _⟩) (fun r_12 H locs hw_13 hP hS => ?_)
          subst hw_13
          rcases Nat.lt_or_ge (hp + 1 + k9) tx with hpt | hpt
          · skip
            refine zr_ti (y := nI (T (hp + 1 + k9))) (zx_sg_t hpt) ?_
            obtain ⟨ht1, -⟩ := htx2 _ hpt
            refine lv_bipush (v := nI 48) hx hb dX8_number_34 (by rfl) ?_
            refine lv_bipush (v := nI 57) hx hb dX8_number_36 (by rfl) ?_
            refine zr_ci hP hS (va_runS (As := [.int (nI (T (hp + 1 + k9))), .int (nI 48), .int (nI 57)]) (rest := []) ⟨hx, hb, hml, hown, hts⟩ (c_X8_isIn l D E (nI (T (hp + 1 + k9))) (nI 48) (nI 57) ) (va_cwS 3 hts gX8_number_X8_isIn rfl rfl rfl (by decide +kernel) ⟨Nat.le_of_ble_eq_true rfl, Nat.le_of_ble_eq_true rfl⟩) (zr_S hK (hP.sub (ws' := []) [] rfl)) rfl rfl hl.1 rfl (lv_room (Nat.le_of_ble_eq_true rfl)) dX8_number_38 ⟨Nat.zero_le _, Nat.zero_le _⟩) (fun r_14 H locs hw_15 hP hS => ?_)
            rcases hw_15 with ⟨rfl, hw_15⟩ | ⟨rfl, hw_15⟩
            · skip
              have hdk : zx_dig T tx (hp + 1 + k9) = true := by first | exact zx_in_t hpt (zx_n_ge hw_15.1) (zx_n_le hw_15.2) | exact absurd hw_15.1 (by decide)
              have hkt := (zx_in_x hdk)
              obtain ⟨ht1, -⟩ := htx2 _ hkt.1
              refine zr_ti (y := nI 1) rfl ?_
              refine lv_if_eq (tgt := 70) hx hb dX8_number_41 (by decide) (fun cn_16 => ?_) (fun cn_16 => ?_)
              · skip
                exact absurd cn_16 (by decide)
              · skip
                have hvl := zx_vk_le (T := T) (L := tx) (p := hp + 1) k9 (by omega) hdg
                have hdg1 : ∀ j, j < k9 + 1 → zx_dig T tx (hp + 1 + j) = true := fun j hj => by
                  rcases Nat.lt_or_ge j k9 with q | q
                  · exact hdg j q
                  · rw [show j = k9 from by omega]; exact hdk
                refine lv_bipush (v := nI 10) hx hb dX8_number_44 (by rfl) ?_
                refine lv_iload_n hx hb dX8_number_46 rfl (lv_at hl 3 rfl) ?_
                refine lv_imul hx hb dX8_number_47 ?_
                refine zr_ti (y := nI (10 * (zx_vk T (hp + 1) k9))) (pk_mul _ _) ?_
                refine lv_aload_n hx hb dX8_number_48 rfl (lv_at hl 0 rfl) ?_
                refine zr_ci hP hS (va_runV (As := []) (rest := [.int (nI (10 * (zx_vk T (hp + 1) k9)))]) ⟨hx, hb, hml, hown, hts⟩ (c_X8_peek l D E m0 w0 w1 w2 w3 w4 w5 w6 w7 w8 w9 ik tx cl wv (hp + 1 + k9) tg T (-1) (htx) (by omega)) (cwV 0 hts gX8_number_X8_peek rfl rfl rfl (by decide +kernel) ⟨Nat.le_of_ble_eq_true rfl, Nat.le_of_ble_eq_true rfl⟩) (zr_V hK (hP.sub (ws' := [(m0, .inr (6, [.ref w0, .ref w1, .ref w2, .int ik, .ref w3, .int (nI tx), .int (nI (hp + 1 + k9)), .int (-1), .ref w4, .ref w5, .int (nI cl), .ref w6, .ref w7, .ref w8, .ref w9])), (w3, .inl (E 0, 100, .inl tg))]) [0, 1] rfl) (ci := 6) (q0 := 0) rfl rfl) rfl rfl hl.1 rfl (lv_room (Nat.le_of_ble_eq_true rfl)) dX8_number_49 ⟨Nat.zero_le _, Nat.zero_le _⟩) (fun r_17 H locs hw_18 hP hS => ?_)
                subst hw_18
                refine zr_ti (y := nI (T (hp + 1 + k9))) (zx_sg_t hkt.1) ?_
                refine lv_iadd hx hb dX8_number_52 ?_
                refine zr_ti (y := nI ((10 * (zx_vk T (hp + 1) k9)) + (T (hp + 1 + k9)))) (nI_add _ _) ?_
                refine lv_bipush (v := nI 48) hx hb dX8_number_53 (by rfl) ?_
                refine lv_isub hx hb dX8_number_55 ?_
                refine zr_ti (y := nI (zx_vk T (hp + 1) (k9 + 1))) ((pk_sub (by omega)).trans (congrArg nI (by rw [zx_vk]; omega))) ?_
                refine lv_istore_n (lv' := [(3, .int (nI (zx_vk T (hp + 1) (k9 + 1)))), (0, .ref m0), (1, .int (nI 1)), (2, .int (nI (hp + 1)))]) hx hb dX8_number_56 rfl hl (by decide) rfl (fun ls hl => ?_)
                refine lv_aload_n hx hb dX8_number_57 rfl (lv_at hl 1 rfl) ?_
                refine lv_dup hx hb dX8_number_58 rfl ?_
                refine va_get (D := D) (ci := 6) (v := .int (nI (hp + 1 + k9))) (C := RX8) (T := TX8) (N := 15) hx hb hts (by decide +kernel) hown hK.1 hP 0 rfl rfl 6 (by decide) (hts (.fieldLink RX8 103 "HomeRoundsModel" "here" "I") (by decide +kernel)) (fun _ h9 => h9) rfl dX8_number_59 ?_
                refine lv_iconst (v := nI 1) hx hb dX8_number_62 (by rfl) ?_
                refine lv_iadd hx hb dX8_number_63 ?_
                refine zr_ti (y := nI (hp + 1 + k9 + 1)) (nI_add _ _) ?_
                refine va_put (D := D) (ci := 6) (v := .int (nI (hp + 1 + k9 + 1))) (ty := .int) (C := RX8) (T := TX8) (N := 15) hx hb hts (by decide +kernel) tyX8 tyX8_ok nmX8 hown hK.1 hP hD hS 0 rfl rfl 6 (by decide) (hts (.fieldLink RX8 103 "HomeRoundsModel" "here" "I") (by decide +kernel)) (fun _ h9 => h9) rfl (by decide +kernel) rfl rfl (Nat.le_of_ble_eq_true rfl) dX8_number_64 (fun H locs hP hD hS => ?_)
                have hP : va_P D vwCl [(m0, .inr (6, [.ref w0, .ref w1, .ref w2, .int ik, .ref w3, .int (nI tx), .int (nI (hp + 1 + k9 + 1)), .int (-1), .ref w4, .ref w5, .int (nI cl), .ref w6, .ref w7, .ref w8, .ref w9])), (w3, .inl (E 0, 100, .inl tg))] H := hP
                have hD : va_D A [(m0, .inr (6, [.ref w0, .ref w1, .ref w2, .int ik, .ref w3, .int (nI tx), .int (nI (hp + 1 + k9 + 1)), .int (-1), .ref w4, .ref w5, .int (nI cl), .ref w6, .ref w7, .ref w8, .ref w9])), (w3, .inl (E 0, 100, .inl tg))] := hD
                refine lv_goto (tgt := 13) hx hb dX8_number_67 (by decide) ?_
                have hl : lv_has ls 4 [(0, .ref m0), (1, .int (nI 1)), (2, .int (nI (hp + 1))), (3, .int (nI (zx_vk T (hp + 1) (k9 + 1))))] := lv_sub hl [1, 2, 3, 0] rfl
                exact ih13 (k9 + 1) H locs ls (by omega) (by omega) (hdg1) (by omega) hP hD hS hl
            · skip
              have hnd : zx_dig T tx (hp + 1 + k9) = false := by first | exact zx_in_f (fun q => zx_n_no hw_15 q.2.1 q.2.2) | exact zx_in_f (by omega)
              refine zr_ti (y := nI 0) rfl ?_
              refine lv_if_eq (tgt := 70) hx hb dX8_number_41 (by decide) (fun cn_19 => ?_) (fun cn_19 => ?_)
              · skip
                refine lv_aload_n hx hb dX8_number_70 rfl (lv_at hl 0 rfl) ?_
                refine va_get (D := D) (ci := 6) (v := .int (nI (hp + 1 + k9))) (C := RX8) (T := TX8) (N := 15) hx hb hts (by decide +kernel) hown hK.1 hP 0 rfl rfl 6 (by decide) (hts (.fieldLink RX8 103 "HomeRoundsModel" "here" "I") (by decide +kernel)) (fun _ h9 => h9) rfl dX8_number_71 ?_
                refine lv_iload_n hx hb dX8_number_74 rfl (lv_at hl 2 rfl) ?_
                refine lv_icmp_ne (tgt := 86) hx hb dX8_number_75 (by decide) (fun cn_20 => ?_) (fun cn_20 => ?_)
                · skip
                  have cn_20 : ¬ (hp + 1 + k9 = hp + 1) := fun hz => cn_20 ((nI_eq (a := hp + 1 + k9) (b := hp + 1) (by omega) (by omega)).mpr hz)
                  refine lv_iload_n hx hb dX8_number_86 rfl (lv_at hl 3 rfl) ?_
                  subst hQ; subst hAe
                  exact W.iret (v := nI (zx_vk T (hp + 1) k9)) hx hb hr (fun tz htz hWz => ⟨⟨nI (zx_vk T (hp + 1) k9), (hp + 1 + k9, (-1)), rfl, zx_n1_d1 (by omega) hkx hat hdg, by rw [htz]; exact hP, hD⟩, hS.F htz⟩) hS.2.2 dX8_number_87
                · skip
                  have cn_20 : hp + 1 + k9 = hp + 1 := (nI_eq (a := hp + 1 + k9) (b := hp + 1) (by omega) (by omega)).mp cn_20
                  refine lv_aload_n hx hb dX8_number_78 rfl (lv_at hl 0 rfl) ?_
                  refine lv_aload_n hx hb dX8_number_79 rfl (lv_at hl 0 rfl) ?_
                  refine va_get (D := D) (ci := 6) (v := .int (nI (hp + 1 + k9))) (C := RX8) (T := TX8) (N := 15) hx hb hts (by decide +kernel) hown hK.1 hP 0 rfl rfl 6 (by decide) (hts (.fieldLink RX8 103 "HomeRoundsModel" "here" "I") (by decide +kernel)) (fun _ h9 => h9) rfl dX8_number_80 ?_
                  have hPc := hP.sub (ws' := [(m0, .inr (6, [.ref w0, .ref w1, .ref w2, .int ik, .ref w3, .int (nI tx), .int (nI (hp + 1 + k9)), .int (-1), .ref w4, .ref w5, .int (nI cl), .ref w6, .ref w7, .ref w8, .ref w9])), (w3, .inl (E 0, 100, .inl tg))]) [0, 1] rfl
                  have hDc := hD.sub (ws' := [(m0, .inr (6, [.ref w0, .ref w1, .ref w2, .int ik, .ref w3, .int (nI tx), .int (nI (hp + 1 + k9)), .int (-1), .ref w4, .ref w5, .int (nI cl), .ref w6, .ref w7, .ref w8, .ref w9])), (w3, .inl (E 0, 100, .inl tg))]) [0, 1] (by decide +kernel) rfl
                  have hAc := zw_AA (wc := [(m0, .inr (6, [.ref w0, .ref w1, .ref w2, .int ik, .ref w3, .int (nI tx), .int (nI (hp + 1 + k9)), .int (-1), .ref w4, .ref w5, .int (nI cl), .ref w6, .ref w7, .ref w8, .ref w9])), (w3, .inl (E 0, 100, .inl tg))]) hD [0, 1] rfl
                  refine zw_cv hAc hS (va_runV (As := [.int (nI (hp + 1 + k9))]) (rest := []) ⟨hx, hb, hml, hown, hts⟩ (c_X8_fails_n l D E m0 w0 w1 w2 w3 w4 w5 w6 w7 w8 w9 ik tx cl wv (hp + 1 + k9) tg T (hp + 1 + k9) (htx) (by omega)) (cwV 1 hts gX8_number_X8_fails rfl rfl rfl (by decide +kernel) ⟨Nat.le_of_ble_eq_true rfl, Nat.le_of_ble_eq_true rfl⟩) (zw_V hK hPc hDc (ci := 6) (q0 := 0) rfl rfl) rfl rfl hl.1 rfl (lv_room (Nat.le_of_ble_eq_true rfl)) dX8_number_83 ⟨Nat.zero_le _, Nat.zero_le _⟩) (fun u_23 H locs hw_22 hP1 hD1 hk1 hS => ?_)
                  obtain ⟨hP, hD⟩ := zw_join (wr := []) (w1 := [(m0, .inr (6, [.ref w0, .ref w1, .ref w2, .int ik, .ref w3, .int (nI tx), .int (nI (hp + 1 + k9)), .int (nI (hp + 1 + k9)), .ref w4, .ref w5, .int (nI cl), .ref w6, .ref w7, .ref w8, .ref w9])), (w3, .inl (E 0, 100, .inl tg))]) (ws' := [(m0, .inr (6, [.ref w0, .ref w1, .ref w2, .int ik, .ref w3, .int (nI tx), .int (nI (hp + 1 + k9)), .int (nI (hp + 1 + k9)), .ref w4, .ref w5, .int (nI cl), .ref w6, .ref w7, .ref w8, .ref w9])), (w3, .inl (E 0, 100, .inl tg))]) hP hD [0, 1] [] [0, 1] rfl rfl (by decide +kernel) (by decide +kernel) hAc hk1 hP1 hD1 (by decide +kernel) rfl
                  clear hP1 hD1 hk1 hPc hDc hAc
                  refine lv_iload_n hx hb dX8_number_86 rfl (lv_at hl 3 rfl) ?_
                  subst hQ; subst hAe
                  exact W.iret (v := nI (zx_vk T (hp + 1) k9)) hx hb hr (fun tz htz hWz => ⟨⟨nI (zx_vk T (hp + 1) k9), (hp + 1 + k9, nI (hp + 1 + k9)), rfl, zx_n1_f2 (by omega) hat (by first | exact hnd | (exfalso; omega)), by rw [htz]; exact hP, hD⟩, hS.F htz⟩) hS.2.2 dX8_number_87
              · skip
                exact absurd cn_19 (by decide)
          · skip
            refine zr_ti (y := -1) (zx_sg_f hpt) ?_
            refine lv_bipush (v := nI 48) hx hb dX8_number_34 (by rfl) ?_
            refine lv_bipush (v := nI 57) hx hb dX8_number_36 (by rfl) ?_
            refine zr_ci hP hS (va_runS (As := [.int (-1), .int (nI 48), .int (nI 57)]) (rest := []) ⟨hx, hb, hml, hown, hts⟩ (c_X8_isIn l D E (-1) (nI 48) (nI 57) ) (va_cwS 3 hts gX8_number_X8_isIn rfl rfl rfl (by decide +kernel) ⟨Nat.le_of_ble_eq_true rfl, Nat.le_of_ble_eq_true rfl⟩) (zr_S hK (hP.sub (ws' := []) [] rfl)) rfl rfl hl.1 rfl (lv_room (Nat.le_of_ble_eq_true rfl)) dX8_number_38 ⟨Nat.zero_le _, Nat.zero_le _⟩) (fun r_24 H locs hw_25 hP hS => ?_)
            rcases hw_25 with ⟨rfl, hw_25⟩ | ⟨rfl, hw_25⟩
            · skip
              have hdk : zx_dig T tx (hp + 1 + k9) = true := by first | exact zx_in_t hpt (zx_n_ge hw_25.1) (zx_n_le hw_25.2) | exact absurd hw_25.1 (by decide)
              have hkt := (zx_in_x hdk)
              obtain ⟨ht1, -⟩ := htx2 _ hkt.1
              refine zr_ti (y := nI 1) rfl ?_
              refine lv_if_eq (tgt := 70) hx hb dX8_number_41 (by decide) (fun cn_26 => ?_) (fun cn_26 => ?_)
              · skip
                exact absurd cn_26 (by decide)
              · skip
                have hvl := zx_vk_le (T := T) (L := tx) (p := hp + 1) k9 (by omega) hdg
                have hdg1 : ∀ j, j < k9 + 1 → zx_dig T tx (hp + 1 + j) = true := fun j hj => by
                  rcases Nat.lt_or_ge j k9 with q | q
                  · exact hdg j q
                  · rw [show j = k9 from by omega]; exact hdk
                refine lv_bipush (v := nI 10) hx hb dX8_number_44 (by rfl) ?_
                refine lv_iload_n hx hb dX8_number_46 rfl (lv_at hl 3 rfl) ?_
                refine lv_imul hx hb dX8_number_47 ?_
                refine zr_ti (y := nI (10 * (zx_vk T (hp + 1) k9))) (pk_mul _ _) ?_
                refine lv_aload_n hx hb dX8_number_48 rfl (lv_at hl 0 rfl) ?_
                refine zr_ci hP hS (va_runV (As := []) (rest := [.int (nI (10 * (zx_vk T (hp + 1) k9)))]) ⟨hx, hb, hml, hown, hts⟩ (c_X8_peek l D E m0 w0 w1 w2 w3 w4 w5 w6 w7 w8 w9 ik tx cl wv (hp + 1 + k9) tg T (-1) (htx) (by omega)) (cwV 0 hts gX8_number_X8_peek rfl rfl rfl (by decide +kernel) ⟨Nat.le_of_ble_eq_true rfl, Nat.le_of_ble_eq_true rfl⟩) (zr_V hK (hP.sub (ws' := [(m0, .inr (6, [.ref w0, .ref w1, .ref w2, .int ik, .ref w3, .int (nI tx), .int (nI (hp + 1 + k9)), .int (-1), .ref w4, .ref w5, .int (nI cl), .ref w6, .ref w7, .ref w8, .ref w9])), (w3, .inl (E 0, 100, .inl tg))]) [0, 1] rfl) (ci := 6) (q0 := 0) rfl rfl) rfl rfl hl.1 rfl (lv_room (Nat.le_of_ble_eq_true rfl)) dX8_number_49 ⟨Nat.zero_le _, Nat.zero_le _⟩) (fun r_27 H locs hw_28 hP hS => ?_)
                subst hw_28
                refine zr_ti (y := nI (T (hp + 1 + k9))) (zx_sg_t hkt.1) ?_
                refine lv_iadd hx hb dX8_number_52 ?_
                refine zr_ti (y := nI ((10 * (zx_vk T (hp + 1) k9)) + (T (hp + 1 + k9)))) (nI_add _ _) ?_
                refine lv_bipush (v := nI 48) hx hb dX8_number_53 (by rfl) ?_
                refine lv_isub hx hb dX8_number_55 ?_
                refine zr_ti (y := nI (zx_vk T (hp + 1) (k9 + 1))) ((pk_sub (by omega)).trans (congrArg nI (by rw [zx_vk]; omega))) ?_
                refine lv_istore_n (lv' := [(3, .int (nI (zx_vk T (hp + 1) (k9 + 1)))), (0, .ref m0), (1, .int (nI 1)), (2, .int (nI (hp + 1)))]) hx hb dX8_number_56 rfl hl (by decide) rfl (fun ls hl => ?_)
                refine lv_aload_n hx hb dX8_number_57 rfl (lv_at hl 1 rfl) ?_
                refine lv_dup hx hb dX8_number_58 rfl ?_
                refine va_get (D := D) (ci := 6) (v := .int (nI (hp + 1 + k9))) (C := RX8) (T := TX8) (N := 15) hx hb hts (by decide +kernel) hown hK.1 hP 0 rfl rfl 6 (by decide) (hts (.fieldLink RX8 103 "HomeRoundsModel" "here" "I") (by decide +kernel)) (fun _ h9 => h9) rfl dX8_number_59 ?_
                refine lv_iconst (v := nI 1) hx hb dX8_number_62 (by rfl) ?_
                refine lv_iadd hx hb dX8_number_63 ?_
                refine zr_ti (y := nI (hp + 1 + k9 + 1)) (nI_add _ _) ?_
                refine va_put (D := D) (ci := 6) (v := .int (nI (hp + 1 + k9 + 1))) (ty := .int) (C := RX8) (T := TX8) (N := 15) hx hb hts (by decide +kernel) tyX8 tyX8_ok nmX8 hown hK.1 hP hD hS 0 rfl rfl 6 (by decide) (hts (.fieldLink RX8 103 "HomeRoundsModel" "here" "I") (by decide +kernel)) (fun _ h9 => h9) rfl (by decide +kernel) rfl rfl (Nat.le_of_ble_eq_true rfl) dX8_number_64 (fun H locs hP hD hS => ?_)
                have hP : va_P D vwCl [(m0, .inr (6, [.ref w0, .ref w1, .ref w2, .int ik, .ref w3, .int (nI tx), .int (nI (hp + 1 + k9 + 1)), .int (-1), .ref w4, .ref w5, .int (nI cl), .ref w6, .ref w7, .ref w8, .ref w9])), (w3, .inl (E 0, 100, .inl tg))] H := hP
                have hD : va_D A [(m0, .inr (6, [.ref w0, .ref w1, .ref w2, .int ik, .ref w3, .int (nI tx), .int (nI (hp + 1 + k9 + 1)), .int (-1), .ref w4, .ref w5, .int (nI cl), .ref w6, .ref w7, .ref w8, .ref w9])), (w3, .inl (E 0, 100, .inl tg))] := hD
                refine lv_goto (tgt := 13) hx hb dX8_number_67 (by decide) ?_
                have hl : lv_has ls 4 [(0, .ref m0), (1, .int (nI 1)), (2, .int (nI (hp + 1))), (3, .int (nI (zx_vk T (hp + 1) (k9 + 1))))] := lv_sub hl [1, 2, 3, 0] rfl
                exact ih13 (k9 + 1) H locs ls (by omega) (by omega) (hdg1) (by omega) hP hD hS hl
            · skip
              have hnd : zx_dig T tx (hp + 1 + k9) = false := by first | exact zx_in_f (fun q => zx_n_no hw_25 q.2.1 q.2.2) | exact zx_in_f (by omega)
              refine zr_ti (y := nI 0) rfl ?_
              refine lv_if_eq (tgt := 70) hx hb dX8_number_41 (by decide) (fun cn_29 => ?_) (fun cn_29 => ?_)
              · skip
                refine lv_aload_n hx hb dX8_number_70 rfl (lv_at hl 0 rfl) ?_
                refine va_get (D := D) (ci := 6) (v := .int (nI (hp + 1 + k9))) (C := RX8) (T := TX8) (N := 15) hx hb hts (by decide +kernel) hown hK.1 hP 0 rfl rfl 6 (by decide) (hts (.fieldLink RX8 103 "HomeRoundsModel" "here" "I") (by decide +kernel)) (fun _ h9 => h9) rfl dX8_number_71 ?_
                refine lv_iload_n hx hb dX8_number_74 rfl (lv_at hl 2 rfl) ?_
                refine lv_icmp_ne (tgt := 86) hx hb dX8_number_75 (by decide) (fun cn_30 => ?_) (fun cn_30 => ?_)
                · skip
                  have cn_30 : ¬ (hp + 1 + k9 = hp + 1) := fun hz => cn_30 ((nI_eq (a := hp + 1 + k9) (b := hp + 1) (by omega) (by omega)).mpr hz)
                  refine lv_iload_n hx hb dX8_number_86 rfl (lv_at hl 3 rfl) ?_
                  subst hQ; subst hAe
                  exact W.iret (v := nI (zx_vk T (hp + 1) k9)) hx hb hr (fun tz htz hWz => ⟨⟨nI (zx_vk T (hp + 1) k9), (hp + 1 + k9, (-1)), rfl, zx_n1_d1 (by omega) hkx hat hdg, by rw [htz]; exact hP, hD⟩, hS.F htz⟩) hS.2.2 dX8_number_87
                · skip
                  have cn_30 : hp + 1 + k9 = hp + 1 := (nI_eq (a := hp + 1 + k9) (b := hp + 1) (by omega) (by omega)).mp cn_30
                  refine lv_aload_n hx hb dX8_number_78 rfl (lv_at hl 0 rfl) ?_
                  refine lv_aload_n hx hb dX8_number_79 rfl (lv_at hl 0 rfl) ?_
                  refine va_get (D := D) (ci := 6) (v := .int (nI (hp + 1 + k9))) (C := RX8) (T := TX8) (N := 15) hx hb hts (by decide +kernel) hown hK.1 hP 0 rfl rfl 6 (by decide) (hts (.fieldLink RX8 103 "HomeRoundsModel" "here" "I") (by decide +kernel)) (fun _ h9 => h9) rfl dX8_number_80 ?_
                  have hPc := hP.sub (ws' := [(m0, .inr (6, [.ref w0, .ref w1, .ref w2, .int ik, .ref w3, .int (nI tx), .int (nI (hp + 1 + k9)), .int (-1), .ref w4, .ref w5, .int (nI cl), .ref w6, .ref w7, .ref w8, .ref w9])), (w3, .inl (E 0, 100, .inl tg))]) [0, 1] rfl
                  have hDc := hD.sub (ws' := [(m0, .inr (6, [.ref w0, .ref w1, .ref w2, .int ik, .ref w3, .int (nI tx), .int (nI (hp + 1 + k9)), .int (-1), .ref w4, .ref w5, .int (nI cl), .ref w6, .ref w7, .ref w8, .ref w9])), (w3, .inl (E 0, 100, .inl tg))]) [0, 1] (by decide +kernel) rfl
                  have hAc := zw_AA (wc := [(m0, .inr (6, [.ref w0, .ref w1, .ref w2, .int ik, .ref w3, .int (nI tx), .int (nI (hp + 1 + k9)), .int (-1), .ref w4, .ref w5, .int (nI cl), .ref w6, .ref w7, .ref w8, .ref w9])), (w3, .inl (E 0, 100, .inl tg))]) hD [0, 1] rfl
                  refine zw_cv hAc hS (va_runV (As := [.int (nI (hp + 1 + k9))]) (rest := []) ⟨hx, hb, hml, hown, hts⟩ (c_X8_fails_n l D E m0 w0 w1 w2 w3 w4 w5 w6 w7 w8 w9 ik tx cl wv (hp + 1 + k9) tg T (hp + 1 + k9) (htx) (by omega)) (cwV 1 hts gX8_number_X8_fails rfl rfl rfl (by decide +kernel) ⟨Nat.le_of_ble_eq_true rfl, Nat.le_of_ble_eq_true rfl⟩) (zw_V hK hPc hDc (ci := 6) (q0 := 0) rfl rfl) rfl rfl hl.1 rfl (lv_room (Nat.le_of_ble_eq_true rfl)) dX8_number_83 ⟨Nat.zero_le _, Nat.zero_le _⟩) (fun u_33 H locs hw_32 hP1 hD1 hk1 hS => ?_)
                  obtain ⟨hP, hD⟩ := zw_join (wr := []) (w1 := [(m0, .inr (6, [.ref w0, .ref w1, .ref w2, .int ik, .ref w3, .int (nI tx), .int (nI (hp + 1 + k9)), .int (nI (hp + 1 + k9)), .ref w4, .ref w5, .int (nI cl), .ref w6, .ref w7, .ref w8, .ref w9])), (w3, .inl (E 0, 100, .inl tg))]) (ws' := [(m0, .inr (6, [.ref w0, .ref w1, .ref w2, .int ik, .ref w3, .int (nI tx), .int (nI (hp + 1 + k9)), .int (nI (hp + 1 + k9)), .ref w4, .ref w5, .int (nI cl), .ref w6, .ref w7, .ref w8, .ref w9])), (w3, .inl (E 0, 100, .inl tg))]) hP hD [0, 1] [] [0, 1] rfl rfl (by decide +kernel) (by decide +kernel) hAc hk1 hP1 hD1 (by decide +kernel) rfl
                  clear hP1 hD1 hk1 hPc hDc hAc
                  refine lv_iload_n hx hb dX8_number_86 rfl (lv_at hl 3 rfl) ?_
                  subst hQ; subst hAe
                  exact W.iret (v := nI (zx_vk T (hp + 1) k9)) hx hb hr (fun tz htz hWz => ⟨⟨nI (zx_vk T (hp + 1) k9), (hp + 1 + k9, nI (hp + 1 + k9)), rfl, zx_n1_f2 (by omega) hat (by first | exact hnd | (exfalso; omega)), by rw [htz]; exact hP, hD⟩, hS.F htz⟩) hS.2.2 dX8_number_87
              · skip
                exact absurd cn_29 (by decide)
  · skip
    rw [eh, ef] at hP hD
    refine lv_aload_n hx hb dX8_number_6 rfl (lv_at hl 0 rfl) ?_
    refine va_get (D := D) (ci := 6) (v := .int (nI hp)) (C := RX8) (T := TX8) (N := 15) hx hb hts (by decide +kernel) hown hK.1 hP 0 rfl rfl 6 (by decide) (hts (.fieldLink RX8 103 "HomeRoundsModel" "here" "I") (by decide +kernel)) (fun _ h9 => h9) rfl dX8_number_7 ?_
    refine lv_istore_n (lv' := [(2, .int (nI hp)), (0, .ref m0), (1, .int (nI 1))]) hx hb dX8_number_10 rfl hl (by decide) rfl (fun ls hl => ?_)
    refine lv_iconst (v := nI 0) hx hb dX8_number_11 (by rfl) ?_
    refine lv_istore_n (lv' := [(3, .int (nI 0)), (2, .int (nI hp)), (0, .ref m0), (1, .int (nI 1))]) hx hb dX8_number_12 rfl hl (by decide) rfl (fun ls hl => ?_)
    suffices KL13 : ∀ (kz : Nat) (k9 : Nat) (H : Heap) (locs : List Loc) (ls : Array Slot), (3 - k9) < kz → (k9 = 0) → va_P D vwCl [(m0, .inr (6, [.ref w0, .ref w1, .ref w2, .int ik, .ref w3, .int (nI tx), .int (nI hp), .int (nI hp), .ref w4, .ref w5, .int (nI cl), .ref w6, .ref w7, .ref w8, .ref w9])), (w3, .inl (E 0, 100, .inl tg))] H → va_D A [(m0, .inr (6, [.ref w0, .ref w1, .ref w2, .int ik, .ref w3, .int (nI tx), .int (nI hp), .int (nI hp), .ref w4, .ref w5, .int (nI cl), .ref w6, .ref w7, .ref w8, .ref w9])), (w3, .inl (E 0, 100, .inl tg))] → va_S A s.heap H locs → lv_has ls 4 [(0, .ref m0), (1, .int (nI 1)), (2, .int (nI hp)), (3, .int (nI 0))] → W p l e (headSpec wsX8_number ({ frames := 2, cells := 0, slots := 0, locals := 42 })).room s m ([.ref m0, .int (nI 1)] : List Value).toArray below meth c H locs 0 0 Q (F0 m 13 ls []) from
      KL13 _ 0 _ _ ls (Nat.lt_succ_self _) (rfl) hP hD hS (lv_sub hl [2, 3, 1, 0] rfl)
    clear hP hS hl hD
    intro kz
    induction kz with
    | zero => intro k9 H locs ls hkz; exact absurd hkz (Nat.not_lt_zero _)
    | succ kz ih13 =>
      intro k9 H locs ls hkz hk0 hP hD hS hl
      refine lv_aload_n hx hb dX8_number_13 rfl (lv_at hl 0 rfl) ?_
      refine va_get (D := D) (ci := 6) (v := .int (nI hp)) (C := RX8) (T := TX8) (N := 15) hx hb hts (by decide +kernel) hown hK.1 hP 0 rfl rfl 7 (by decide) (hts (.fieldLink RX8 106 "HomeRoundsModel" "fault" "I") (by decide +kernel)) (fun _ h9 => h9) rfl dX8_number_14 ?_
      refine lv_if_ge (tgt := 70) hx hb dX8_number_17 (by decide) (fun cn_34 => ?_) (fun cn_34 => ?_)
      · skip
        have cn_34 : 0 ≤ hp := (nI_leI (a := 0) (b := hp) (by omega) (by omega)).mp cn_34
        refine lv_aload_n hx hb dX8_number_70 rfl (lv_at hl 0 rfl) ?_
        refine va_get (D := D) (ci := 6) (v := .int (nI hp)) (C := RX8) (T := TX8) (N := 15) hx hb hts (by decide +kernel) hown hK.1 hP 0 rfl rfl 6 (by decide) (hts (.fieldLink RX8 103 "HomeRoundsModel" "here" "I") (by decide +kernel)) (fun _ h9 => h9) rfl dX8_number_71 ?_
        refine lv_iload_n hx hb dX8_number_74 rfl (lv_at hl 2 rfl) ?_
        refine lv_icmp_ne (tgt := 86) hx hb dX8_number_75 (by decide) (fun cn_35 => ?_) (fun cn_35 => ?_)
        · skip
          have cn_35 : ¬ (hp = hp) := fun hz => cn_35 ((nI_eq (a := hp) (b := hp) (by omega) (by omega)).mpr hz)
          exfalso; omega
        · skip
          have cn_35 : hp = hp := (nI_eq (a := hp) (b := hp) (by omega) (by omega)).mp cn_35
          refine lv_aload_n hx hb dX8_number_78 rfl (lv_at hl 0 rfl) ?_
          refine lv_aload_n hx hb dX8_number_79 rfl (lv_at hl 0 rfl) ?_
          refine va_get (D := D) (ci := 6) (v := .int (nI hp)) (C := RX8) (T := TX8) (N := 15) hx hb hts (by decide +kernel) hown hK.1 hP 0 rfl rfl 6 (by decide) (hts (.fieldLink RX8 103 "HomeRoundsModel" "here" "I") (by decide +kernel)) (fun _ h9 => h9) rfl dX8_number_80 ?_
          have hPc := hP.sub (ws' := [(m0, .inr (6, [.ref w0, .ref w1, .ref w2, .int ik, .ref w3, .int (nI tx), .int (nI hp), .int (nI hp), .ref w4, .ref w5, .int (nI cl), .ref w6, .ref w7, .ref w8, .ref w9])), (w3, .inl (E 0, 100, .inl tg))]) [0, 1] rfl
          have hDc := hD.sub (ws' := [(m0, .inr (6, [.ref w0, .ref w1, .ref w2, .int ik, .ref w3, .int (nI tx), .int (nI hp), .int (nI hp), .ref w4, .ref w5, .int (nI cl), .ref w6, .ref w7, .ref w8, .ref w9])), (w3, .inl (E 0, 100, .inl tg))]) [0, 1] (by decide +kernel) rfl
          have hAc := zw_AA (wc := [(m0, .inr (6, [.ref w0, .ref w1, .ref w2, .int ik, .ref w3, .int (nI tx), .int (nI hp), .int (nI hp), .ref w4, .ref w5, .int (nI cl), .ref w6, .ref w7, .ref w8, .ref w9])), (w3, .inl (E 0, 100, .inl tg))]) hD [0, 1] rfl
          refine zw_cv hAc hS (va_runV (As := [.int (nI hp)]) (rest := []) ⟨hx, hb, hml, hown, hts⟩ (c_X8_fails_f l D E m0 w0 w1 w2 w3 w4 w5 w6 w7 w8 w9 ik tx cl wv hp tg T hp hp (htx) (by omega) (by omega)) (cwV 1 hts gX8_number_X8_fails rfl rfl rfl (by decide +kernel) ⟨Nat.le_of_ble_eq_true rfl, Nat.le_of_ble_eq_true rfl⟩) (zw_V hK hPc hDc (ci := 6) (q0 := 0) rfl rfl) rfl rfl hl.1 rfl (lv_room (Nat.le_of_ble_eq_true rfl)) dX8_number_83 ⟨Nat.zero_le _, Nat.zero_le _⟩) (fun u_38 H locs hw_37 hP1 hD1 hk1 hS => ?_)
          obtain ⟨hP, hD⟩ := zw_join (wr := []) (w1 := [(m0, .inr (6, [.ref w0, .ref w1, .ref w2, .int ik, .ref w3, .int (nI tx), .int (nI hp), .int (nI hp), .ref w4, .ref w5, .int (nI cl), .ref w6, .ref w7, .ref w8, .ref w9])), (w3, .inl (E 0, 100, .inl tg))]) (ws' := [(m0, .inr (6, [.ref w0, .ref w1, .ref w2, .int ik, .ref w3, .int (nI tx), .int (nI hp), .int (nI hp), .ref w4, .ref w5, .int (nI cl), .ref w6, .ref w7, .ref w8, .ref w9])), (w3, .inl (E 0, 100, .inl tg))]) hP hD [0, 1] [] [0, 1] rfl rfl (by decide +kernel) (by decide +kernel) hAc hk1 hP1 hD1 (by decide +kernel) rfl
          clear hP1 hD1 hk1 hPc hDc hAc
          refine lv_iload_n hx hb dX8_number_86 rfl (lv_at hl 3 rfl) ?_
          subst hQ; subst hAe
          exact W.iret (v := nI 0) hx hb hr (fun tz htz hWz => ⟨⟨nI 0, (hp, nI hp), rfl, zx_n1_f1 hpt8 hnat, by rw [htz]; exact hP, hD⟩, hS.F htz⟩) hS.2.2 dX8_number_87
      · skip
        have cn_34 : ¬ (0 ≤ hp) := fun hz => cn_34 ((nI_leI (a := 0) (b := hp) (by omega) (by omega)).mpr hz)
        exfalso; omega

set_option maxHeartbeats 4000000 in
set_option maxRecDepth 100000 in
theorem c_X8_number_2 (l : Launch) (D : va_G) (E : Nat → ClassId) (m0 : Nat) (w0 : Nat) (w1 : Nat) (w2 : Nat) (w3 : Nat) (w4 : Nat) (w5 : Nat) (w6 : Nat) (w7 : Nat) (w8 : Nat) (w9 : Nat) (ik : Int32) (tx : Nat) (cl : Nat) (wv : Nat → Int32) (hp : Nat) (tg : Nat → Int32) (T : Nat → Nat) (htx : zx_T tx T tg) (hpt8 : hp ≤ tx) : Met l yX8_number wsX8_number ({ frames := 2, cells := 0, slots := 0, locals := 42 }) (zw_P D E [.ref m0, .int (nI 2)] [(m0, .inr (6, [.ref w0, .ref w1, .ref w2, .int ik, .ref w3, .int (nI tx), .int (nI hp), .int (-1), .ref w4, .ref w5, .int (nI cl), .ref w6, .ref w7, .ref w8, .ref w9])), (w3, .inl (E 0, 100, .inl tg))]) (zw_Qi D [(m0, .inr (6, [.ref w0, .ref w1, .ref w2, .int ik, .ref w3, .int (nI tx), .int (nI hp), .int (-1), .ref w4, .ref w5, .int (nI cl), .ref w6, .ref w7, .ref w8, .ref w9])), (w3, .inl (E 0, 100, .inl tg))] (fun zv (u : (Nat) × (Int32)) => zx_n1 T tx 1 hp zv u.2 u.1) (fun (u : (Nat) × (Int32)) => [(m0, .inr (6, [.ref w0, .ref w1, .ref w2, .int ik, .ref w3, .int (nI tx), .int (nI u.1), .int u.2, .ref w4, .ref w5, .int (nI cl), .ref w6, .ref w7, .ref w8, .ref w9])), (w3, .inl (E 0, 100, .inl tg))])) 0 0 (zw_A [(m0, .inr (6, [.ref w0, .ref w1, .ref w2, .int ik, .ref w3, .int (nI tx), .int (nI hp), .int (-1), .ref w4, .ref w5, .int (nI cl), .ref w6, .ref w7, .ref w8, .ref w9])), (w3, .inl (E 0, 100, .inl tg))]) := by
  refine Met.ofW (cc := cX8_number) (maxL := 4) (ret := (some .int)) (by decide) rfl ?_
  intro p e s m args below meth c s₁ Bz hml hv
  obtain ⟨rfl, hP, hK, hD0⟩ := hv
  have hx := Bz.exec
  have hb := Bz.bytes
  have hr := Bz.returns
  have hts := atoms_spec (ws := wsX8_number) Bz.pre
  have hown : s.vm.findClass RX8 = some m.cls := findClass_of_methodNamed Bz.named
  have hlocks := Bz.notSynchronized
  have hP : va_P D vwCl [(m0, .inr (6, [.ref w0, .ref w1, .ref w2, .int ik, .ref w3, .int (nI tx), .int (nI hp), .int (-1), .ref w4, .ref w5, .int (nI cl), .ref w6, .ref w7, .ref w8, .ref w9])), (w3, .inl (E 0, 100, .inl tg))] s.heap := hP
  obtain ⟨A, hAe⟩ : ∃ A : Nat → Prop, A = zw_A [(m0, .inr (6, [.ref w0, .ref w1, .ref w2, .int ik, .ref w3, .int (nI tx), .int (nI hp), .int (-1), .ref w4, .ref w5, .int (nI cl), .ref w6, .ref w7, .ref w8, .ref w9])), (w3, .inl (E 0, 100, .inl tg))] := ⟨_, rfl⟩
  have hD : va_D A [(m0, .inr (6, [.ref w0, .ref w1, .ref w2, .int ik, .ref w3, .int (nI tx), .int (nI hp), .int (-1), .ref w4, .ref w5, .int (nI cl), .ref w6, .ref w7, .ref w8, .ref w9])), (w3, .inl (E 0, 100, .inl tg))] := hAe ▸ zw_own hD0
  have hS : va_S A s.heap s.heap [] := va_S.rf
  have hl := lv_entry ([.ref m0, .int (nI 2)]) (n := 4) (Nat.le_of_ble_eq_true rfl)
  rw [lg_entry_eq]
  generalize (lg_sl ([.ref m0, .int (nI 2)]) ++ List.replicate (4 - (lg_sl ([.ref m0, .int (nI 2)])).length) Slot.unset).toArray = ls at hl ⊢
  have hl : lv_has ls 4 [(0, .ref m0), (1, .int (nI 2))] := hl
  refine zr_nQ (fun Q hQ => ?_)
  have htx1 := htx.1
  have htx2 := htx.2
  refine lv_aload_n hx hb dX8_number_0 rfl (lv_at hl 0 rfl) ?_
  refine lv_bipush (v := nI 32) hx hb dX8_number_1 (by rfl) ?_
  have hPc := hP.sub (ws' := [(m0, .inr (6, [.ref w0, .ref w1, .ref w2, .int ik, .ref w3, .int (nI tx), .int (nI hp), .int (-1), .ref w4, .ref w5, .int (nI cl), .ref w6, .ref w7, .ref w8, .ref w9])), (w3, .inl (E 0, 100, .inl tg))]) [0, 1] rfl
  have hDc := hD.sub (ws' := [(m0, .inr (6, [.ref w0, .ref w1, .ref w2, .int ik, .ref w3, .int (nI tx), .int (nI hp), .int (-1), .ref w4, .ref w5, .int (nI cl), .ref w6, .ref w7, .ref w8, .ref w9])), (w3, .inl (E 0, 100, .inl tg))]) [0, 1] (by decide +kernel) rfl
  have hAc := zw_AA (wc := [(m0, .inr (6, [.ref w0, .ref w1, .ref w2, .int ik, .ref w3, .int (nI tx), .int (nI hp), .int (-1), .ref w4, .ref w5, .int (nI cl), .ref w6, .ref w7, .ref w8, .ref w9])), (w3, .inl (E 0, 100, .inl tg))]) hD [0, 1] rfl
  refine zw_cv hAc hS (va_runV (As := [.int (nI 32)]) (rest := []) ⟨hx, hb, hml, hown, hts⟩ (c_X8_takes_n l D E m0 w0 w1 w2 w3 w4 w5 w6 w7 w8 w9 ik tx cl wv hp tg T 32 (htx) (by omega) (by omega)) (cwV 1 hts gX8_number_X8_takes rfl rfl rfl (by decide +kernel) ⟨Nat.le_of_ble_eq_true rfl, Nat.le_of_ble_eq_true rfl⟩) (zw_V hK hPc hDc (ci := 6) (q0 := 0) rfl rfl) rfl rfl hl.1 rfl (lv_room (Nat.le_of_ble_eq_true rfl)) dX8_number_3 ⟨Nat.zero_le _, Nat.zero_le _⟩) (fun u_3 H locs hw_2 hP1 hD1 hk1 hS => ?_)
  obtain ⟨hpn_4, fan_5⟩ := u_3
  try dsimp only at hw_2 hP1 hD1
  obtain ⟨hP, hD⟩ := zw_join (wr := []) (w1 := [(m0, .inr (6, [.ref w0, .ref w1, .ref w2, .int ik, .ref w3, .int (nI tx), .int (nI hpn_4), .int fan_5, .ref w4, .ref w5, .int (nI cl), .ref w6, .ref w7, .ref w8, .ref w9])), (w3, .inl (E 0, 100, .inl tg))]) (ws' := [(m0, .inr (6, [.ref w0, .ref w1, .ref w2, .int ik, .ref w3, .int (nI tx), .int (nI hpn_4), .int fan_5, .ref w4, .ref w5, .int (nI cl), .ref w6, .ref w7, .ref w8, .ref w9])), (w3, .inl (E 0, 100, .inl tg))]) hP hD [0, 1] [] [0, 1] rfl rfl (by decide +kernel) (by decide +kernel) hAc hk1 hP1 hD1 (by decide +kernel) rfl
  clear hP1 hD1 hk1 hPc hDc hAc
  have htk := hw_2
  rcases htk with ⟨hat, eh, ef, hle⟩ | ⟨hnat, eh, ef⟩
  · skip
    rw [eh, ef] at hP hD
    refine lv_aload_n hx hb dX8_number_6 rfl (lv_at hl 0 rfl) ?_
    refine va_get (D := D) (ci := 6) (v := .int (nI (hp + 1))) (C := RX8) (T := TX8) (N := 15) hx hb hts (by decide +kernel) hown hK.1 hP 0 rfl rfl 6 (by decide) (hts (.fieldLink RX8 103 "HomeRoundsModel" "here" "I") (by decide +kernel)) (fun _ h9 => h9) rfl dX8_number_7 ?_
    refine lv_istore_n (lv' := [(2, .int (nI (hp + 1))), (0, .ref m0), (1, .int (nI 2))]) hx hb dX8_number_10 rfl hl (by decide) rfl (fun ls hl => ?_)
    refine lv_iconst (v := nI 0) hx hb dX8_number_11 (by rfl) ?_
    refine lv_istore_n (lv' := [(3, .int (nI 0)), (2, .int (nI (hp + 1))), (0, .ref m0), (1, .int (nI 2))]) hx hb dX8_number_12 rfl hl (by decide) rfl (fun ls hl => ?_)
    suffices KL13 : ∀ (kz : Nat) (k9 : Nat) (H : Heap) (locs : List Loc) (ls : Array Slot), (3 - k9) < kz → (k9 ≤ 2) → (∀ j, j < k9 → zx_dig T tx (hp + 1 + j) = true) → (hp + 1 + k9 ≤ tx) → va_P D vwCl [(m0, .inr (6, [.ref w0, .ref w1, .ref w2, .int ik, .ref w3, .int (nI tx), .int (nI (hp + 1 + k9)), .int (-1), .ref w4, .ref w5, .int (nI cl), .ref w6, .ref w7, .ref w8, .ref w9])), (w3, .inl (E 0, 100, .inl tg))] H → va_D A [(m0, .inr (6, [.ref w0, .ref w1, .ref w2, .int ik, .ref w3, .int (nI tx), .int (nI (hp + 1 + k9)), .int (-1), .ref w4, .ref w5, .int (nI cl), .ref w6, .ref w7, .ref w8, .ref w9])), (w3, .inl (E 0, 100, .inl tg))] → va_S A s.heap H locs → lv_has ls 4 [(0, .ref m0), (1, .int (nI 2)), (2, .int (nI (hp + 1))), (3, .int (nI (zx_vk T (hp + 1) k9)))] → W p l e (headSpec wsX8_number ({ frames := 2, cells := 0, slots := 0, locals := 42 })).room s m ([.ref m0, .int (nI 2)] : List Value).toArray below meth c H locs 0 0 Q (F0 m 13 ls []) from
      KL13 _ 0 _ _ ls (Nat.lt_succ_self _) (by omega) (fun j hj => absurd hj (Nat.not_lt_zero _)) (by omega) hP hD hS (lv_sub hl [2, 3, 1, 0] rfl)
    clear hP hS hl hD
    intro kz
    induction kz with
    | zero => intro k9 H locs ls hkz; exact absurd hkz (Nat.not_lt_zero _)
    | succ kz ih13 =>
      intro k9 H locs ls hkz hk9 hdg hkx hP hD hS hl
      refine lv_aload_n hx hb dX8_number_13 rfl (lv_at hl 0 rfl) ?_
      refine va_get (D := D) (ci := 6) (v := .int (-1)) (C := RX8) (T := TX8) (N := 15) hx hb hts (by decide +kernel) hown hK.1 hP 0 rfl rfl 7 (by decide) (hts (.fieldLink RX8 106 "HomeRoundsModel" "fault" "I") (by decide +kernel)) (fun _ h9 => h9) rfl dX8_number_14 ?_
      refine lv_if_ge (tgt := 70) hx hb dX8_number_17 (by decide) (fun cn_6 => ?_) (fun cn_6 => ?_)
      · skip
        exact absurd cn_6 (by decide)
      · skip
        refine lv_aload_n hx hb dX8_number_20 rfl (lv_at hl 0 rfl) ?_
        refine va_get (D := D) (ci := 6) (v := .int (nI (hp + 1 + k9))) (C := RX8) (T := TX8) (N := 15) hx hb hts (by decide +kernel) hown hK.1 hP 0 rfl rfl 6 (by decide) (hts (.fieldLink RX8 103 "HomeRoundsModel" "here" "I") (by decide +kernel)) (fun _ h9 => h9) rfl dX8_number_21 ?_
        refine lv_iload_n hx hb dX8_number_24 rfl (lv_at hl 2 rfl) ?_
        refine lv_isub hx hb dX8_number_25 ?_
        refine zr_ti (y := nI k9) ((pk_sub (by omega)).trans (congrArg nI (by omega))) ?_
        refine lv_iload_n hx hb dX8_number_26 rfl (lv_at hl 1 rfl) ?_
        refine lv_icmp_ge (tgt := 70) hx hb dX8_number_27 (by decide) (fun cn_7 => ?_) (fun cn_7 => ?_)
        · skip
          have cn_7 : 2 ≤ k9 := (nI_leI (a := 2) (b := k9) (by omega) (by omega)).mp cn_7
          refine lv_aload_n hx hb dX8_number_70 rfl (lv_at hl 0 rfl) ?_
          refine va_get (D := D) (ci := 6) (v := .int (nI (hp + 1 + k9))) (C := RX8) (T := TX8) (N := 15) hx hb hts (by decide +kernel) hown hK.1 hP 0 rfl rfl 6 (by decide) (hts (.fieldLink RX8 103 "HomeRoundsModel" "here" "I") (by decide +kernel)) (fun _ h9 => h9) rfl dX8_number_71 ?_
          refine lv_iload_n hx hb dX8_number_74 rfl (lv_at hl 2 rfl) ?_
          refine lv_icmp_ne (tgt := 86) hx hb dX8_number_75 (by decide) (fun cn_8 => ?_) (fun cn_8 => ?_)
          · skip
            have cn_8 : ¬ (hp + 1 + k9 = hp + 1) := fun hz => cn_8 ((nI_eq (a := hp + 1 + k9) (b := hp + 1) (by omega) (by omega)).mpr hz)
            refine lv_iload_n hx hb dX8_number_86 rfl (lv_at hl 3 rfl) ?_
            subst hQ; subst hAe
            exact W.iret (v := nI (zx_vk T (hp + 1) k9)) hx hb hr (fun tz htz hWz => ⟨⟨nI (zx_vk T (hp + 1) k9), (hp + 1 + k9, (-1)), rfl, zx_n1_d2 (by omega) hk9 hkx hat hdg (by first | exact Or.inr hnd | exact Or.inl (by omega)), by rw [htz]; exact hP, hD⟩, hS.F htz⟩) hS.2.2 dX8_number_87
          · skip
            have cn_8 : hp + 1 + k9 = hp + 1 := (nI_eq (a := hp + 1 + k9) (b := hp + 1) (by omega) (by omega)).mp cn_8
            refine lv_aload_n hx hb dX8_number_78 rfl (lv_at hl 0 rfl) ?_
            refine lv_aload_n hx hb dX8_number_79 rfl (lv_at hl 0 rfl) ?_
            refine va_get (D := D) (ci := 6) (v := .int (nI (hp + 1 + k9))) (C := RX8) (T := TX8) (N := 15) hx hb hts (by decide +kernel) hown hK.1 hP 0 rfl rfl 6 (by decide) (hts (.fieldLink RX8 103 "HomeRoundsModel" "here" "I") (by decide +kernel)) (fun _ h9 => h9) rfl dX8_number_80 ?_
            have hPc := hP.sub (ws' := [(m0, .inr (6, [.ref w0, .ref w1, .ref w2, .int ik, .ref w3, .int (nI tx), .int (nI (hp + 1 + k9)), .int (-1), .ref w4, .ref w5, .int (nI cl), .ref w6, .ref w7, .ref w8, .ref w9])), (w3, .inl (E 0, 100, .inl tg))]) [0, 1] rfl
            have hDc := hD.sub (ws' := [(m0, .inr (6, [.ref w0, .ref w1, .ref w2, .int ik, .ref w3, .int (nI tx), .int (nI (hp + 1 + k9)), .int (-1), .ref w4, .ref w5, .int (nI cl), .ref w6, .ref w7, .ref w8, .ref w9])), (w3, .inl (E 0, 100, .inl tg))]) [0, 1] (by decide +kernel) rfl
            have hAc := zw_AA (wc := [(m0, .inr (6, [.ref w0, .ref w1, .ref w2, .int ik, .ref w3, .int (nI tx), .int (nI (hp + 1 + k9)), .int (-1), .ref w4, .ref w5, .int (nI cl), .ref w6, .ref w7, .ref w8, .ref w9])), (w3, .inl (E 0, 100, .inl tg))]) hD [0, 1] rfl
            refine zw_cv hAc hS (va_runV (As := [.int (nI (hp + 1 + k9))]) (rest := []) ⟨hx, hb, hml, hown, hts⟩ (c_X8_fails_n l D E m0 w0 w1 w2 w3 w4 w5 w6 w7 w8 w9 ik tx cl wv (hp + 1 + k9) tg T (hp + 1 + k9) (htx) (by omega)) (cwV 1 hts gX8_number_X8_fails rfl rfl rfl (by decide +kernel) ⟨Nat.le_of_ble_eq_true rfl, Nat.le_of_ble_eq_true rfl⟩) (zw_V hK hPc hDc (ci := 6) (q0 := 0) rfl rfl) rfl rfl hl.1 rfl (lv_room (Nat.le_of_ble_eq_true rfl)) dX8_number_83 ⟨Nat.zero_le _, Nat.zero_le _⟩) (fun u_11 H locs hw_10 hP1 hD1 hk1 hS => ?_)
            obtain ⟨hP, hD⟩ := zw_join (wr := []) (w1 := [(m0, .inr (6, [.ref w0, .ref w1, .ref w2, .int ik, .ref w3, .int (nI tx), .int (nI (hp + 1 + k9)), .int (nI (hp + 1 + k9)), .ref w4, .ref w5, .int (nI cl), .ref w6, .ref w7, .ref w8, .ref w9])), (w3, .inl (E 0, 100, .inl tg))]) (ws' := [(m0, .inr (6, [.ref w0, .ref w1, .ref w2, .int ik, .ref w3, .int (nI tx), .int (nI (hp + 1 + k9)), .int (nI (hp + 1 + k9)), .ref w4, .ref w5, .int (nI cl), .ref w6, .ref w7, .ref w8, .ref w9])), (w3, .inl (E 0, 100, .inl tg))]) hP hD [0, 1] [] [0, 1] rfl rfl (by decide +kernel) (by decide +kernel) hAc hk1 hP1 hD1 (by decide +kernel) rfl
            clear hP1 hD1 hk1 hPc hDc hAc
            refine lv_iload_n hx hb dX8_number_86 rfl (lv_at hl 3 rfl) ?_
            subst hQ; subst hAe
            exact W.iret (v := nI (zx_vk T (hp + 1) k9)) hx hb hr (fun tz htz hWz => ⟨⟨nI (zx_vk T (hp + 1) k9), (hp + 1 + k9, nI (hp + 1 + k9)), rfl, zx_n1_f2 (by omega) hat (by first | exact hnd | (exfalso; omega)), by rw [htz]; exact hP, hD⟩, hS.F htz⟩) hS.2.2 dX8_number_87
        · skip
          have cn_7 : ¬ (2 ≤ k9) := fun hz => cn_7 ((nI_leI (a := 2) (b := k9) (by omega) (by omega)).mpr hz)
          refine lv_aload_n hx hb dX8_number_30 rfl (lv_at hl 0 rfl) ?_
          refine zr_ci hP hS (va_runV (As := []) (rest := []) ⟨hx, hb, hml, hown, hts⟩ (c_X8_peek l D E m0 w0 w1 w2 w3 w4 w5 w6 w7 w8 w9 ik tx cl wv (hp + 1 + k9) tg T (-1) (htx) (by omega)) (cwV 0 hts gX8_number_X8_peek rfl rfl rfl (by decide +kernel) ⟨Nat.le_of_ble_eq_true rfl, Nat.le_of_ble_eq_true rfl⟩) (zr_V hK (hP.sub (ws' := [(m0, .inr (6, [.ref w0, .ref w1, .ref w2, .int ik, .ref w3, .int (nI tx), .int (nI (hp + 1 + k9)), .int (-1), .ref w4, .ref w5, .int (nI cl), .ref w6, .ref w7, .ref w8, .ref w9])), (w3, .inl (E 0, 100, .inl tg))]) [0, 1] rfl) (ci := 6) (q0 := 0) rfl rfl) rfl rfl hl.1 rfl (lv_room (Nat.le_of_ble_eq_true rfl)) dX8_number_31 ⟨Nat.zero_le _, Nat.zero_le _⟩) (fun r_12 H locs hw_13 hP hS => ?_)
          subst hw_13
          rcases Nat.lt_or_ge (hp + 1 + k9) tx with hpt | hpt
          · skip
            refine zr_ti (y := nI (T (hp + 1 + k9))) (zx_sg_t hpt) ?_
            obtain ⟨ht1, -⟩ := htx2 _ hpt
            refine lv_bipush (v := nI 48) hx hb dX8_number_34 (by rfl) ?_
            refine lv_bipush (v := nI 57) hx hb dX8_number_36 (by rfl) ?_
            refine zr_ci hP hS (va_runS (As := [.int (nI (T (hp + 1 + k9))), .int (nI 48), .int (nI 57)]) (rest := []) ⟨hx, hb, hml, hown, hts⟩ (c_X8_isIn l D E (nI (T (hp + 1 + k9))) (nI 48) (nI 57) ) (va_cwS 3 hts gX8_number_X8_isIn rfl rfl rfl (by decide +kernel) ⟨Nat.le_of_ble_eq_true rfl, Nat.le_of_ble_eq_true rfl⟩) (zr_S hK (hP.sub (ws' := []) [] rfl)) rfl rfl hl.1 rfl (lv_room (Nat.le_of_ble_eq_true rfl)) dX8_number_38 ⟨Nat.zero_le _, Nat.zero_le _⟩) (fun r_14 H locs hw_15 hP hS => ?_)
            rcases hw_15 with ⟨rfl, hw_15⟩ | ⟨rfl, hw_15⟩
            · skip
              have hdk : zx_dig T tx (hp + 1 + k9) = true := by first | exact zx_in_t hpt (zx_n_ge hw_15.1) (zx_n_le hw_15.2) | exact absurd hw_15.1 (by decide)
              have hkt := (zx_in_x hdk)
              obtain ⟨ht1, -⟩ := htx2 _ hkt.1
              refine zr_ti (y := nI 1) rfl ?_
              refine lv_if_eq (tgt := 70) hx hb dX8_number_41 (by decide) (fun cn_16 => ?_) (fun cn_16 => ?_)
              · skip
                exact absurd cn_16 (by decide)
              · skip
                have hvl := zx_vk_le (T := T) (L := tx) (p := hp + 1) k9 (by omega) hdg
                have hdg1 : ∀ j, j < k9 + 1 → zx_dig T tx (hp + 1 + j) = true := fun j hj => by
                  rcases Nat.lt_or_ge j k9 with q | q
                  · exact hdg j q
                  · rw [show j = k9 from by omega]; exact hdk
                refine lv_bipush (v := nI 10) hx hb dX8_number_44 (by rfl) ?_
                refine lv_iload_n hx hb dX8_number_46 rfl (lv_at hl 3 rfl) ?_
                refine lv_imul hx hb dX8_number_47 ?_
                refine zr_ti (y := nI (10 * (zx_vk T (hp + 1) k9))) (pk_mul _ _) ?_
                refine lv_aload_n hx hb dX8_number_48 rfl (lv_at hl 0 rfl) ?_
                refine zr_ci hP hS (va_runV (As := []) (rest := [.int (nI (10 * (zx_vk T (hp + 1) k9)))]) ⟨hx, hb, hml, hown, hts⟩ (c_X8_peek l D E m0 w0 w1 w2 w3 w4 w5 w6 w7 w8 w9 ik tx cl wv (hp + 1 + k9) tg T (-1) (htx) (by omega)) (cwV 0 hts gX8_number_X8_peek rfl rfl rfl (by decide +kernel) ⟨Nat.le_of_ble_eq_true rfl, Nat.le_of_ble_eq_true rfl⟩) (zr_V hK (hP.sub (ws' := [(m0, .inr (6, [.ref w0, .ref w1, .ref w2, .int ik, .ref w3, .int (nI tx), .int (nI (hp + 1 + k9)), .int (-1), .ref w4, .ref w5, .int (nI cl), .ref w6, .ref w7, .ref w8, .ref w9])), (w3, .inl (E 0, 100, .inl tg))]) [0, 1] rfl) (ci := 6) (q0 := 0) rfl rfl) rfl rfl hl.1 rfl (lv_room (Nat.le_of_ble_eq_true rfl)) dX8_number_49 ⟨Nat.zero_le _, Nat.zero_le _⟩) (fun r_17 H locs hw_18 hP hS => ?_)
                subst hw_18
                refine zr_ti (y := nI (T (hp + 1 + k9))) (zx_sg_t hkt.1) ?_
                refine lv_iadd hx hb dX8_number_52 ?_
                refine zr_ti (y := nI ((10 * (zx_vk T (hp + 1) k9)) + (T (hp + 1 + k9)))) (nI_add _ _) ?_
                refine lv_bipush (v := nI 48) hx hb dX8_number_53 (by rfl) ?_
                refine lv_isub hx hb dX8_number_55 ?_
                refine zr_ti (y := nI (zx_vk T (hp + 1) (k9 + 1))) ((pk_sub (by omega)).trans (congrArg nI (by rw [zx_vk]; omega))) ?_
                refine lv_istore_n (lv' := [(3, .int (nI (zx_vk T (hp + 1) (k9 + 1)))), (0, .ref m0), (1, .int (nI 2)), (2, .int (nI (hp + 1)))]) hx hb dX8_number_56 rfl hl (by decide) rfl (fun ls hl => ?_)
                refine lv_aload_n hx hb dX8_number_57 rfl (lv_at hl 1 rfl) ?_
                refine lv_dup hx hb dX8_number_58 rfl ?_
                refine va_get (D := D) (ci := 6) (v := .int (nI (hp + 1 + k9))) (C := RX8) (T := TX8) (N := 15) hx hb hts (by decide +kernel) hown hK.1 hP 0 rfl rfl 6 (by decide) (hts (.fieldLink RX8 103 "HomeRoundsModel" "here" "I") (by decide +kernel)) (fun _ h9 => h9) rfl dX8_number_59 ?_
                refine lv_iconst (v := nI 1) hx hb dX8_number_62 (by rfl) ?_
                refine lv_iadd hx hb dX8_number_63 ?_
                refine zr_ti (y := nI (hp + 1 + k9 + 1)) (nI_add _ _) ?_
                refine va_put (D := D) (ci := 6) (v := .int (nI (hp + 1 + k9 + 1))) (ty := .int) (C := RX8) (T := TX8) (N := 15) hx hb hts (by decide +kernel) tyX8 tyX8_ok nmX8 hown hK.1 hP hD hS 0 rfl rfl 6 (by decide) (hts (.fieldLink RX8 103 "HomeRoundsModel" "here" "I") (by decide +kernel)) (fun _ h9 => h9) rfl (by decide +kernel) rfl rfl (Nat.le_of_ble_eq_true rfl) dX8_number_64 (fun H locs hP hD hS => ?_)
                have hP : va_P D vwCl [(m0, .inr (6, [.ref w0, .ref w1, .ref w2, .int ik, .ref w3, .int (nI tx), .int (nI (hp + 1 + k9 + 1)), .int (-1), .ref w4, .ref w5, .int (nI cl), .ref w6, .ref w7, .ref w8, .ref w9])), (w3, .inl (E 0, 100, .inl tg))] H := hP
                have hD : va_D A [(m0, .inr (6, [.ref w0, .ref w1, .ref w2, .int ik, .ref w3, .int (nI tx), .int (nI (hp + 1 + k9 + 1)), .int (-1), .ref w4, .ref w5, .int (nI cl), .ref w6, .ref w7, .ref w8, .ref w9])), (w3, .inl (E 0, 100, .inl tg))] := hD
                refine lv_goto (tgt := 13) hx hb dX8_number_67 (by decide) ?_
                have hl : lv_has ls 4 [(0, .ref m0), (1, .int (nI 2)), (2, .int (nI (hp + 1))), (3, .int (nI (zx_vk T (hp + 1) (k9 + 1))))] := lv_sub hl [1, 2, 3, 0] rfl
                exact ih13 (k9 + 1) H locs ls (by omega) (by omega) (hdg1) (by omega) hP hD hS hl
            · skip
              have hnd : zx_dig T tx (hp + 1 + k9) = false := by first | exact zx_in_f (fun q => zx_n_no hw_15 q.2.1 q.2.2) | exact zx_in_f (by omega)
              refine zr_ti (y := nI 0) rfl ?_
              refine lv_if_eq (tgt := 70) hx hb dX8_number_41 (by decide) (fun cn_19 => ?_) (fun cn_19 => ?_)
              · skip
                refine lv_aload_n hx hb dX8_number_70 rfl (lv_at hl 0 rfl) ?_
                refine va_get (D := D) (ci := 6) (v := .int (nI (hp + 1 + k9))) (C := RX8) (T := TX8) (N := 15) hx hb hts (by decide +kernel) hown hK.1 hP 0 rfl rfl 6 (by decide) (hts (.fieldLink RX8 103 "HomeRoundsModel" "here" "I") (by decide +kernel)) (fun _ h9 => h9) rfl dX8_number_71 ?_
                refine lv_iload_n hx hb dX8_number_74 rfl (lv_at hl 2 rfl) ?_
                refine lv_icmp_ne (tgt := 86) hx hb dX8_number_75 (by decide) (fun cn_20 => ?_) (fun cn_20 => ?_)
                · skip
                  have cn_20 : ¬ (hp + 1 + k9 = hp + 1) := fun hz => cn_20 ((nI_eq (a := hp + 1 + k9) (b := hp + 1) (by omega) (by omega)).mpr hz)
                  refine lv_iload_n hx hb dX8_number_86 rfl (lv_at hl 3 rfl) ?_
                  subst hQ; subst hAe
                  exact W.iret (v := nI (zx_vk T (hp + 1) k9)) hx hb hr (fun tz htz hWz => ⟨⟨nI (zx_vk T (hp + 1) k9), (hp + 1 + k9, (-1)), rfl, zx_n1_d2 (by omega) hk9 hkx hat hdg (by first | exact Or.inr hnd | exact Or.inl (by omega)), by rw [htz]; exact hP, hD⟩, hS.F htz⟩) hS.2.2 dX8_number_87
                · skip
                  have cn_20 : hp + 1 + k9 = hp + 1 := (nI_eq (a := hp + 1 + k9) (b := hp + 1) (by omega) (by omega)).mp cn_20
                  refine lv_aload_n hx hb dX8_number_78 rfl (lv_at hl 0 rfl) ?_
                  refine lv_aload_n hx hb dX8_number_79 rfl (lv_at hl 0 rfl) ?_
                  refine va_get (D := D) (ci := 6) (v := .int (nI (hp + 1 + k9))) (C := RX8) (T := TX8) (N := 15) hx hb hts (by decide +kernel) hown hK.1 hP 0 rfl rfl 6 (by decide) (hts (.fieldLink RX8 103 "HomeRoundsModel" "here" "I") (by decide +kernel)) (fun _ h9 => h9) rfl dX8_number_80 ?_
                  have hPc := hP.sub (ws' := [(m0, .inr (6, [.ref w0, .ref w1, .ref w2, .int ik, .ref w3, .int (nI tx), .int (nI (hp + 1 + k9)), .int (-1), .ref w4, .ref w5, .int (nI cl), .ref w6, .ref w7, .ref w8, .ref w9])), (w3, .inl (E 0, 100, .inl tg))]) [0, 1] rfl
                  have hDc := hD.sub (ws' := [(m0, .inr (6, [.ref w0, .ref w1, .ref w2, .int ik, .ref w3, .int (nI tx), .int (nI (hp + 1 + k9)), .int (-1), .ref w4, .ref w5, .int (nI cl), .ref w6, .ref w7, .ref w8, .ref w9])), (w3, .inl (E 0, 100, .inl tg))]) [0, 1] (by decide +kernel) rfl
                  have hAc := zw_AA (wc := [(m0, .inr (6, [.ref w0, .ref w1, .ref w2, .int ik, .ref w3, .int (nI tx), .int (nI (hp + 1 + k9)), .int (-1), .ref w4, .ref w5, .int (nI cl), .ref w6, .ref w7, .ref w8, .ref w9])), (w3, .inl (E 0, 100, .inl tg))]) hD [0, 1] rfl
                  refine zw_cv hAc hS (va_runV (As := [.int (nI (hp + 1 + k9))]) (rest := []) ⟨hx, hb, hml, hown, hts⟩ (c_X8_fails_n l D E m0 w0 w1 w2 w3 w4 w5 w6 w7 w8 w9 ik tx cl wv (hp + 1 + k9) tg T (hp + 1 + k9) (htx) (by omega)) (cwV 1 hts gX8_number_X8_fails rfl rfl rfl (by decide +kernel) ⟨Nat.le_of_ble_eq_true rfl, Nat.le_of_ble_eq_true rfl⟩) (zw_V hK hPc hDc (ci := 6) (q0 := 0) rfl rfl) rfl rfl hl.1 rfl (lv_room (Nat.le_of_ble_eq_true rfl)) dX8_number_83 ⟨Nat.zero_le _, Nat.zero_le _⟩) (fun u_23 H locs hw_22 hP1 hD1 hk1 hS => ?_)
                  obtain ⟨hP, hD⟩ := zw_join (wr := []) (w1 := [(m0, .inr (6, [.ref w0, .ref w1, .ref w2, .int ik, .ref w3, .int (nI tx), .int (nI (hp + 1 + k9)), .int (nI (hp + 1 + k9)), .ref w4, .ref w5, .int (nI cl), .ref w6, .ref w7, .ref w8, .ref w9])), (w3, .inl (E 0, 100, .inl tg))]) (ws' := [(m0, .inr (6, [.ref w0, .ref w1, .ref w2, .int ik, .ref w3, .int (nI tx), .int (nI (hp + 1 + k9)), .int (nI (hp + 1 + k9)), .ref w4, .ref w5, .int (nI cl), .ref w6, .ref w7, .ref w8, .ref w9])), (w3, .inl (E 0, 100, .inl tg))]) hP hD [0, 1] [] [0, 1] rfl rfl (by decide +kernel) (by decide +kernel) hAc hk1 hP1 hD1 (by decide +kernel) rfl
                  clear hP1 hD1 hk1 hPc hDc hAc
                  refine lv_iload_n hx hb dX8_number_86 rfl (lv_at hl 3 rfl) ?_
                  subst hQ; subst hAe
                  exact W.iret (v := nI (zx_vk T (hp + 1) k9)) hx hb hr (fun tz htz hWz => ⟨⟨nI (zx_vk T (hp + 1) k9), (hp + 1 + k9, nI (hp + 1 + k9)), rfl, zx_n1_f2 (by omega) hat (by first | exact hnd | (exfalso; omega)), by rw [htz]; exact hP, hD⟩, hS.F htz⟩) hS.2.2 dX8_number_87
              · skip
                exact absurd cn_19 (by decide)
          · skip
            refine zr_ti (y := -1) (zx_sg_f hpt) ?_
            refine lv_bipush (v := nI 48) hx hb dX8_number_34 (by rfl) ?_
            refine lv_bipush (v := nI 57) hx hb dX8_number_36 (by rfl) ?_
            refine zr_ci hP hS (va_runS (As := [.int (-1), .int (nI 48), .int (nI 57)]) (rest := []) ⟨hx, hb, hml, hown, hts⟩ (c_X8_isIn l D E (-1) (nI 48) (nI 57) ) (va_cwS 3 hts gX8_number_X8_isIn rfl rfl rfl (by decide +kernel) ⟨Nat.le_of_ble_eq_true rfl, Nat.le_of_ble_eq_true rfl⟩) (zr_S hK (hP.sub (ws' := []) [] rfl)) rfl rfl hl.1 rfl (lv_room (Nat.le_of_ble_eq_true rfl)) dX8_number_38 ⟨Nat.zero_le _, Nat.zero_le _⟩) (fun r_24 H locs hw_25 hP hS => ?_)
            rcases hw_25 with ⟨rfl, hw_25⟩ | ⟨rfl, hw_25⟩
            · skip
              have hdk : zx_dig T tx (hp + 1 + k9) = true := by first | exact zx_in_t hpt (zx_n_ge hw_25.1) (zx_n_le hw_25.2) | exact absurd hw_25.1 (by decide)
              have hkt := (zx_in_x hdk)
              obtain ⟨ht1, -⟩ := htx2 _ hkt.1
              refine zr_ti (y := nI 1) rfl ?_
              refine lv_if_eq (tgt := 70) hx hb dX8_number_41 (by decide) (fun cn_26 => ?_) (fun cn_26 => ?_)
              · skip
                exact absurd cn_26 (by decide)
              · skip
                have hvl := zx_vk_le (T := T) (L := tx) (p := hp + 1) k9 (by omega) hdg
                have hdg1 : ∀ j, j < k9 + 1 → zx_dig T tx (hp + 1 + j) = true := fun j hj => by
                  rcases Nat.lt_or_ge j k9 with q | q
                  · exact hdg j q
                  · rw [show j = k9 from by omega]; exact hdk
                refine lv_bipush (v := nI 10) hx hb dX8_number_44 (by rfl) ?_
                refine lv_iload_n hx hb dX8_number_46 rfl (lv_at hl 3 rfl) ?_
                refine lv_imul hx hb dX8_number_47 ?_
                refine zr_ti (y := nI (10 * (zx_vk T (hp + 1) k9))) (pk_mul _ _) ?_
                refine lv_aload_n hx hb dX8_number_48 rfl (lv_at hl 0 rfl) ?_
                refine zr_ci hP hS (va_runV (As := []) (rest := [.int (nI (10 * (zx_vk T (hp + 1) k9)))]) ⟨hx, hb, hml, hown, hts⟩ (c_X8_peek l D E m0 w0 w1 w2 w3 w4 w5 w6 w7 w8 w9 ik tx cl wv (hp + 1 + k9) tg T (-1) (htx) (by omega)) (cwV 0 hts gX8_number_X8_peek rfl rfl rfl (by decide +kernel) ⟨Nat.le_of_ble_eq_true rfl, Nat.le_of_ble_eq_true rfl⟩) (zr_V hK (hP.sub (ws' := [(m0, .inr (6, [.ref w0, .ref w1, .ref w2, .int ik, .ref w3, .int (nI tx), .int (nI (hp + 1 + k9)), .int (-1), .ref w4, .ref w5, .int (nI cl), .ref w6, .ref w7, .ref w8, .ref w9])), (w3, .inl (E 0, 100, .inl tg))]) [0, 1] rfl) (ci := 6) (q0 := 0) rfl rfl) rfl rfl hl.1 rfl (lv_room (Nat.le_of_ble_eq_true rfl)) dX8_number_49 ⟨Nat.zero_le _, Nat.zero_le _⟩) (fun r_27 H locs hw_28 hP hS => ?_)
                subst hw_28
                refine zr_ti (y := nI (T (hp + 1 + k9))) (zx_sg_t hkt.1) ?_
                refine lv_iadd hx hb dX8_number_52 ?_
                refine zr_ti (y := nI ((10 * (zx_vk T (hp + 1) k9)) + (T (hp + 1 + k9)))) (nI_add _ _) ?_
                refine lv_bipush (v := nI 48) hx hb dX8_number_53 (by rfl) ?_
                refine lv_isub hx hb dX8_number_55 ?_
                refine zr_ti (y := nI (zx_vk T (hp + 1) (k9 + 1))) ((pk_sub (by omega)).trans (congrArg nI (by rw [zx_vk]; omega))) ?_
                refine lv_istore_n (lv' := [(3, .int (nI (zx_vk T (hp + 1) (k9 + 1)))), (0, .ref m0), (1, .int (nI 2)), (2, .int (nI (hp + 1)))]) hx hb dX8_number_56 rfl hl (by decide) rfl (fun ls hl => ?_)
                refine lv_aload_n hx hb dX8_number_57 rfl (lv_at hl 1 rfl) ?_
                refine lv_dup hx hb dX8_number_58 rfl ?_
                refine va_get (D := D) (ci := 6) (v := .int (nI (hp + 1 + k9))) (C := RX8) (T := TX8) (N := 15) hx hb hts (by decide +kernel) hown hK.1 hP 0 rfl rfl 6 (by decide) (hts (.fieldLink RX8 103 "HomeRoundsModel" "here" "I") (by decide +kernel)) (fun _ h9 => h9) rfl dX8_number_59 ?_
                refine lv_iconst (v := nI 1) hx hb dX8_number_62 (by rfl) ?_
                refine lv_iadd hx hb dX8_number_63 ?_
                refine zr_ti (y := nI (hp + 1 + k9 + 1)) (nI_add _ _) ?_
                refine va_put (D := D) (ci := 6) (v := .int (nI (hp + 1 + k9 + 1))) (ty := .int) (C := RX8) (T := TX8) (N := 15) hx hb hts (by decide +kernel) tyX8 tyX8_ok nmX8 hown hK.1 hP hD hS 0 rfl rfl 6 (by decide) (hts (.fieldLink RX8 103 "HomeRoundsModel" "here" "I") (by decide +kernel)) (fun _ h9 => h9) rfl (by decide +kernel) rfl rfl (Nat.le_of_ble_eq_true rfl) dX8_number_64 (fun H locs hP hD hS => ?_)
                have hP : va_P D vwCl [(m0, .inr (6, [.ref w0, .ref w1, .ref w2, .int ik, .ref w3, .int (nI tx), .int (nI (hp + 1 + k9 + 1)), .int (-1), .ref w4, .ref w5, .int (nI cl), .ref w6, .ref w7, .ref w8, .ref w9])), (w3, .inl (E 0, 100, .inl tg))] H := hP
                have hD : va_D A [(m0, .inr (6, [.ref w0, .ref w1, .ref w2, .int ik, .ref w3, .int (nI tx), .int (nI (hp + 1 + k9 + 1)), .int (-1), .ref w4, .ref w5, .int (nI cl), .ref w6, .ref w7, .ref w8, .ref w9])), (w3, .inl (E 0, 100, .inl tg))] := hD
                refine lv_goto (tgt := 13) hx hb dX8_number_67 (by decide) ?_
                have hl : lv_has ls 4 [(0, .ref m0), (1, .int (nI 2)), (2, .int (nI (hp + 1))), (3, .int (nI (zx_vk T (hp + 1) (k9 + 1))))] := lv_sub hl [1, 2, 3, 0] rfl
                exact ih13 (k9 + 1) H locs ls (by omega) (by omega) (hdg1) (by omega) hP hD hS hl
            · skip
              have hnd : zx_dig T tx (hp + 1 + k9) = false := by first | exact zx_in_f (fun q => zx_n_no hw_25 q.2.1 q.2.2) | exact zx_in_f (by omega)
              refine zr_ti (y := nI 0) rfl ?_
              refine lv_if_eq (tgt := 70) hx hb dX8_number_41 (by decide) (fun cn_29 => ?_) (fun cn_29 => ?_)
              · skip
                refine lv_aload_n hx hb dX8_number_70 rfl (lv_at hl 0 rfl) ?_
                refine va_get (D := D) (ci := 6) (v := .int (nI (hp + 1 + k9))) (C := RX8) (T := TX8) (N := 15) hx hb hts (by decide +kernel) hown hK.1 hP 0 rfl rfl 6 (by decide) (hts (.fieldLink RX8 103 "HomeRoundsModel" "here" "I") (by decide +kernel)) (fun _ h9 => h9) rfl dX8_number_71 ?_
                refine lv_iload_n hx hb dX8_number_74 rfl (lv_at hl 2 rfl) ?_
                refine lv_icmp_ne (tgt := 86) hx hb dX8_number_75 (by decide) (fun cn_30 => ?_) (fun cn_30 => ?_)
                · skip
                  have cn_30 : ¬ (hp + 1 + k9 = hp + 1) := fun hz => cn_30 ((nI_eq (a := hp + 1 + k9) (b := hp + 1) (by omega) (by omega)).mpr hz)
                  refine lv_iload_n hx hb dX8_number_86 rfl (lv_at hl 3 rfl) ?_
                  subst hQ; subst hAe
                  exact W.iret (v := nI (zx_vk T (hp + 1) k9)) hx hb hr (fun tz htz hWz => ⟨⟨nI (zx_vk T (hp + 1) k9), (hp + 1 + k9, (-1)), rfl, zx_n1_d2 (by omega) hk9 hkx hat hdg (by first | exact Or.inr hnd | exact Or.inl (by omega)), by rw [htz]; exact hP, hD⟩, hS.F htz⟩) hS.2.2 dX8_number_87
                · skip
                  have cn_30 : hp + 1 + k9 = hp + 1 := (nI_eq (a := hp + 1 + k9) (b := hp + 1) (by omega) (by omega)).mp cn_30
                  refine lv_aload_n hx hb dX8_number_78 rfl (lv_at hl 0 rfl) ?_
                  refine lv_aload_n hx hb dX8_number_79 rfl (lv_at hl 0 rfl) ?_
                  refine va_get (D := D) (ci := 6) (v := .int (nI (hp + 1 + k9))) (C := RX8) (T := TX8) (N := 15) hx hb hts (by decide +kernel) hown hK.1 hP 0 rfl rfl 6 (by decide) (hts (.fieldLink RX8 103 "HomeRoundsModel" "here" "I") (by decide +kernel)) (fun _ h9 => h9) rfl dX8_number_80 ?_
                  have hPc := hP.sub (ws' := [(m0, .inr (6, [.ref w0, .ref w1, .ref w2, .int ik, .ref w3, .int (nI tx), .int (nI (hp + 1 + k9)), .int (-1), .ref w4, .ref w5, .int (nI cl), .ref w6, .ref w7, .ref w8, .ref w9])), (w3, .inl (E 0, 100, .inl tg))]) [0, 1] rfl
                  have hDc := hD.sub (ws' := [(m0, .inr (6, [.ref w0, .ref w1, .ref w2, .int ik, .ref w3, .int (nI tx), .int (nI (hp + 1 + k9)), .int (-1), .ref w4, .ref w5, .int (nI cl), .ref w6, .ref w7, .ref w8, .ref w9])), (w3, .inl (E 0, 100, .inl tg))]) [0, 1] (by decide +kernel) rfl
                  have hAc := zw_AA (wc := [(m0, .inr (6, [.ref w0, .ref w1, .ref w2, .int ik, .ref w3, .int (nI tx), .int (nI (hp + 1 + k9)), .int (-1), .ref w4, .ref w5, .int (nI cl), .ref w6, .ref w7, .ref w8, .ref w9])), (w3, .inl (E 0, 100, .inl tg))]) hD [0, 1] rfl
                  refine zw_cv hAc hS (va_runV (As := [.int (nI (hp + 1 + k9))]) (rest := []) ⟨hx, hb, hml, hown, hts⟩ (c_X8_fails_n l D E m0 w0 w1 w2 w3 w4 w5 w6 w7 w8 w9 ik tx cl wv (hp + 1 + k9) tg T (hp + 1 + k9) (htx) (by omega)) (cwV 1 hts gX8_number_X8_fails rfl rfl rfl (by decide +kernel) ⟨Nat.le_of_ble_eq_true rfl, Nat.le_of_ble_eq_true rfl⟩) (zw_V hK hPc hDc (ci := 6) (q0 := 0) rfl rfl) rfl rfl hl.1 rfl (lv_room (Nat.le_of_ble_eq_true rfl)) dX8_number_83 ⟨Nat.zero_le _, Nat.zero_le _⟩) (fun u_33 H locs hw_32 hP1 hD1 hk1 hS => ?_)
                  obtain ⟨hP, hD⟩ := zw_join (wr := []) (w1 := [(m0, .inr (6, [.ref w0, .ref w1, .ref w2, .int ik, .ref w3, .int (nI tx), .int (nI (hp + 1 + k9)), .int (nI (hp + 1 + k9)), .ref w4, .ref w5, .int (nI cl), .ref w6, .ref w7, .ref w8, .ref w9])), (w3, .inl (E 0, 100, .inl tg))]) (ws' := [(m0, .inr (6, [.ref w0, .ref w1, .ref w2, .int ik, .ref w3, .int (nI tx), .int (nI (hp + 1 + k9)), .int (nI (hp + 1 + k9)), .ref w4, .ref w5, .int (nI cl), .ref w6, .ref w7, .ref w8, .ref w9])), (w3, .inl (E 0, 100, .inl tg))]) hP hD [0, 1] [] [0, 1] rfl rfl (by decide +kernel) (by decide +kernel) hAc hk1 hP1 hD1 (by decide +kernel) rfl
                  clear hP1 hD1 hk1 hPc hDc hAc
                  refine lv_iload_n hx hb dX8_number_86 rfl (lv_at hl 3 rfl) ?_
                  subst hQ; subst hAe
                  exact W.iret (v := nI (zx_vk T (hp + 1) k9)) hx hb hr (fun tz htz hWz => ⟨⟨nI (zx_vk T (hp + 1) k9), (hp + 1 + k9, nI (hp + 1 + k9)), rfl, zx_n1_f2 (by omega) hat (by first | exact hnd | (exfalso; omega)), by rw [htz]; exact hP, hD⟩, hS.F htz⟩) hS.2.2 dX8_number_87
              · skip
                exact absurd cn_29 (by decide)
  · skip
    rw [eh, ef] at hP hD
    refine lv_aload_n hx hb dX8_number_6 rfl (lv_at hl 0 rfl) ?_
    refine va_get (D := D) (ci := 6) (v := .int (nI hp)) (C := RX8) (T := TX8) (N := 15) hx hb hts (by decide +kernel) hown hK.1 hP 0 rfl rfl 6 (by decide) (hts (.fieldLink RX8 103 "HomeRoundsModel" "here" "I") (by decide +kernel)) (fun _ h9 => h9) rfl dX8_number_7 ?_
    refine lv_istore_n (lv' := [(2, .int (nI hp)), (0, .ref m0), (1, .int (nI 2))]) hx hb dX8_number_10 rfl hl (by decide) rfl (fun ls hl => ?_)
    refine lv_iconst (v := nI 0) hx hb dX8_number_11 (by rfl) ?_
    refine lv_istore_n (lv' := [(3, .int (nI 0)), (2, .int (nI hp)), (0, .ref m0), (1, .int (nI 2))]) hx hb dX8_number_12 rfl hl (by decide) rfl (fun ls hl => ?_)
    suffices KL13 : ∀ (kz : Nat) (k9 : Nat) (H : Heap) (locs : List Loc) (ls : Array Slot), (3 - k9) < kz → (k9 = 0) → va_P D vwCl [(m0, .inr (6, [.ref w0, .ref w1, .ref w2, .int ik, .ref w3, .int (nI tx), .int (nI hp), .int (nI hp), .ref w4, .ref w5, .int (nI cl), .ref w6, .ref w7, .ref w8, .ref w9])), (w3, .inl (E 0, 100, .inl tg))] H → va_D A [(m0, .inr (6, [.ref w0, .ref w1, .ref w2, .int ik, .ref w3, .int (nI tx), .int (nI hp), .int (nI hp), .ref w4, .ref w5, .int (nI cl), .ref w6, .ref w7, .ref w8, .ref w9])), (w3, .inl (E 0, 100, .inl tg))] → va_S A s.heap H locs → lv_has ls 4 [(0, .ref m0), (1, .int (nI 2)), (2, .int (nI hp)), (3, .int (nI 0))] → W p l e (headSpec wsX8_number ({ frames := 2, cells := 0, slots := 0, locals := 42 })).room s m ([.ref m0, .int (nI 2)] : List Value).toArray below meth c H locs 0 0 Q (F0 m 13 ls []) from
      KL13 _ 0 _ _ ls (Nat.lt_succ_self _) (rfl) hP hD hS (lv_sub hl [2, 3, 1, 0] rfl)
    clear hP hS hl hD
    intro kz
    induction kz with
    | zero => intro k9 H locs ls hkz; exact absurd hkz (Nat.not_lt_zero _)
    | succ kz ih13 =>
      intro k9 H locs ls hkz hk0 hP hD hS hl
      refine lv_aload_n hx hb dX8_number_13 rfl (lv_at hl 0 rfl) ?_
      refine va_get (D := D) (ci := 6) (v := .int (nI hp)) (C := RX8) (T := TX8) (N := 15) hx hb hts (by decide +kernel) hown hK.1 hP 0 rfl rfl 7 (by decide) (hts (.fieldLink RX8 106 "HomeRoundsModel" "fault" "I") (by decide +kernel)) (fun _ h9 => h9) rfl dX8_number_14 ?_
      refine lv_if_ge (tgt := 70) hx hb dX8_number_17 (by decide) (fun cn_34 => ?_) (fun cn_34 => ?_)
      · skip
        have cn_34 : 0 ≤ hp := (nI_leI (a := 0) (b := hp) (by omega) (by omega)).mp cn_34
        refine lv_aload_n hx hb dX8_number_70 rfl (lv_at hl 0 rfl) ?_
        refine va_get (D := D) (ci := 6) (v := .int (nI hp)) (C := RX8) (T := TX8) (N := 15) hx hb hts (by decide +kernel) hown hK.1 hP 0 rfl rfl 6 (by decide) (hts (.fieldLink RX8 103 "HomeRoundsModel" "here" "I") (by decide +kernel)) (fun _ h9 => h9) rfl dX8_number_71 ?_
        refine lv_iload_n hx hb dX8_number_74 rfl (lv_at hl 2 rfl) ?_
        refine lv_icmp_ne (tgt := 86) hx hb dX8_number_75 (by decide) (fun cn_35 => ?_) (fun cn_35 => ?_)
        · skip
          have cn_35 : ¬ (hp = hp) := fun hz => cn_35 ((nI_eq (a := hp) (b := hp) (by omega) (by omega)).mpr hz)
          exfalso; omega
        · skip
          have cn_35 : hp = hp := (nI_eq (a := hp) (b := hp) (by omega) (by omega)).mp cn_35
          refine lv_aload_n hx hb dX8_number_78 rfl (lv_at hl 0 rfl) ?_
          refine lv_aload_n hx hb dX8_number_79 rfl (lv_at hl 0 rfl) ?_
          refine va_get (D := D) (ci := 6) (v := .int (nI hp)) (C := RX8) (T := TX8) (N := 15) hx hb hts (by decide +kernel) hown hK.1 hP 0 rfl rfl 6 (by decide) (hts (.fieldLink RX8 103 "HomeRoundsModel" "here" "I") (by decide +kernel)) (fun _ h9 => h9) rfl dX8_number_80 ?_
          have hPc := hP.sub (ws' := [(m0, .inr (6, [.ref w0, .ref w1, .ref w2, .int ik, .ref w3, .int (nI tx), .int (nI hp), .int (nI hp), .ref w4, .ref w5, .int (nI cl), .ref w6, .ref w7, .ref w8, .ref w9])), (w3, .inl (E 0, 100, .inl tg))]) [0, 1] rfl
          have hDc := hD.sub (ws' := [(m0, .inr (6, [.ref w0, .ref w1, .ref w2, .int ik, .ref w3, .int (nI tx), .int (nI hp), .int (nI hp), .ref w4, .ref w5, .int (nI cl), .ref w6, .ref w7, .ref w8, .ref w9])), (w3, .inl (E 0, 100, .inl tg))]) [0, 1] (by decide +kernel) rfl
          have hAc := zw_AA (wc := [(m0, .inr (6, [.ref w0, .ref w1, .ref w2, .int ik, .ref w3, .int (nI tx), .int (nI hp), .int (nI hp), .ref w4, .ref w5, .int (nI cl), .ref w6, .ref w7, .ref w8, .ref w9])), (w3, .inl (E 0, 100, .inl tg))]) hD [0, 1] rfl
          refine zw_cv hAc hS (va_runV (As := [.int (nI hp)]) (rest := []) ⟨hx, hb, hml, hown, hts⟩ (c_X8_fails_f l D E m0 w0 w1 w2 w3 w4 w5 w6 w7 w8 w9 ik tx cl wv hp tg T hp hp (htx) (by omega) (by omega)) (cwV 1 hts gX8_number_X8_fails rfl rfl rfl (by decide +kernel) ⟨Nat.le_of_ble_eq_true rfl, Nat.le_of_ble_eq_true rfl⟩) (zw_V hK hPc hDc (ci := 6) (q0 := 0) rfl rfl) rfl rfl hl.1 rfl (lv_room (Nat.le_of_ble_eq_true rfl)) dX8_number_83 ⟨Nat.zero_le _, Nat.zero_le _⟩) (fun u_38 H locs hw_37 hP1 hD1 hk1 hS => ?_)
          obtain ⟨hP, hD⟩ := zw_join (wr := []) (w1 := [(m0, .inr (6, [.ref w0, .ref w1, .ref w2, .int ik, .ref w3, .int (nI tx), .int (nI hp), .int (nI hp), .ref w4, .ref w5, .int (nI cl), .ref w6, .ref w7, .ref w8, .ref w9])), (w3, .inl (E 0, 100, .inl tg))]) (ws' := [(m0, .inr (6, [.ref w0, .ref w1, .ref w2, .int ik, .ref w3, .int (nI tx), .int (nI hp), .int (nI hp), .ref w4, .ref w5, .int (nI cl), .ref w6, .ref w7, .ref w8, .ref w9])), (w3, .inl (E 0, 100, .inl tg))]) hP hD [0, 1] [] [0, 1] rfl rfl (by decide +kernel) (by decide +kernel) hAc hk1 hP1 hD1 (by decide +kernel) rfl
          clear hP1 hD1 hk1 hPc hDc hAc
          refine lv_iload_n hx hb dX8_number_86 rfl (lv_at hl 3 rfl) ?_
          subst hQ; subst hAe
          exact W.iret (v := nI 0) hx hb hr (fun tz htz hWz => ⟨⟨nI 0, (hp, nI hp), rfl, zx_n1_f1 hpt8 hnat, by rw [htz]; exact hP, hD⟩, hS.F htz⟩) hS.2.2 dX8_number_87
      · skip
        have cn_34 : ¬ (0 ≤ hp) := fun hz => cn_34 ((nI_leI (a := 0) (b := hp) (by omega) (by omega)).mpr hz)
        exfalso; omega

set_option maxHeartbeats 4000000 in
set_option maxRecDepth 100000 in
theorem c_X8_number_f (l : Launch) (D : va_G) (E : Nat → ClassId) (m0 : Nat) (w0 : Nat) (w1 : Nat) (w2 : Nat) (w3 : Nat) (w4 : Nat) (w5 : Nat) (w6 : Nat) (w7 : Nat) (w8 : Nat) (w9 : Nat) (ik : Int32) (tx : Nat) (cl : Nat) (wv : Nat → Int32) (hp : Nat) (tg : Nat → Int32) (T : Nat → Nat) (d9 : Nat) (f9 : Nat) (htx : zx_T tx T tg) (hpt8 : hp ≤ tx) (hf9 : f9 ≤ 1000) : Met l yX8_number wsX8_number ({ frames := 2, cells := 0, slots := 0, locals := 42 }) (zw_P D E [.ref m0, .int (nI d9)] [(m0, .inr (6, [.ref w0, .ref w1, .ref w2, .int ik, .ref w3, .int (nI tx), .int (nI hp), .int (nI f9), .ref w4, .ref w5, .int (nI cl), .ref w6, .ref w7, .ref w8, .ref w9])), (w3, .inl (E 0, 100, .inl tg))]) (zw_Qi D [(m0, .inr (6, [.ref w0, .ref w1, .ref w2, .int ik, .ref w3, .int (nI tx), .int (nI hp), .int (nI f9), .ref w4, .ref w5, .int (nI cl), .ref w6, .ref w7, .ref w8, .ref w9])), (w3, .inl (E 0, 100, .inl tg))] (fun zv (u : Unit) => zv = nI 0 ∧ True) (fun (u : Unit) => [(m0, .inr (6, [.ref w0, .ref w1, .ref w2, .int ik, .ref w3, .int (nI tx), .int (nI hp), .int (nI f9), .ref w4, .ref w5, .int (nI cl), .ref w6, .ref w7, .ref w8, .ref w9])), (w3, .inl (E 0, 100, .inl tg))])) 0 0 (zw_A [(m0, .inr (6, [.ref w0, .ref w1, .ref w2, .int ik, .ref w3, .int (nI tx), .int (nI hp), .int (nI f9), .ref w4, .ref w5, .int (nI cl), .ref w6, .ref w7, .ref w8, .ref w9])), (w3, .inl (E 0, 100, .inl tg))]) := by
  refine Met.ofW (cc := cX8_number) (maxL := 4) (ret := (some .int)) (by decide) rfl ?_
  intro p e s m args below meth c s₁ Bz hml hv
  obtain ⟨rfl, hP, hK, hD0⟩ := hv
  have hx := Bz.exec
  have hb := Bz.bytes
  have hr := Bz.returns
  have hts := atoms_spec (ws := wsX8_number) Bz.pre
  have hown : s.vm.findClass RX8 = some m.cls := findClass_of_methodNamed Bz.named
  have hlocks := Bz.notSynchronized
  have hP : va_P D vwCl [(m0, .inr (6, [.ref w0, .ref w1, .ref w2, .int ik, .ref w3, .int (nI tx), .int (nI hp), .int (nI f9), .ref w4, .ref w5, .int (nI cl), .ref w6, .ref w7, .ref w8, .ref w9])), (w3, .inl (E 0, 100, .inl tg))] s.heap := hP
  obtain ⟨A, hAe⟩ : ∃ A : Nat → Prop, A = zw_A [(m0, .inr (6, [.ref w0, .ref w1, .ref w2, .int ik, .ref w3, .int (nI tx), .int (nI hp), .int (nI f9), .ref w4, .ref w5, .int (nI cl), .ref w6, .ref w7, .ref w8, .ref w9])), (w3, .inl (E 0, 100, .inl tg))] := ⟨_, rfl⟩
  have hD : va_D A [(m0, .inr (6, [.ref w0, .ref w1, .ref w2, .int ik, .ref w3, .int (nI tx), .int (nI hp), .int (nI f9), .ref w4, .ref w5, .int (nI cl), .ref w6, .ref w7, .ref w8, .ref w9])), (w3, .inl (E 0, 100, .inl tg))] := hAe ▸ zw_own hD0
  have hS : va_S A s.heap s.heap [] := va_S.rf
  have hl := lv_entry ([.ref m0, .int (nI d9)]) (n := 4) (Nat.le_of_ble_eq_true rfl)
  rw [lg_entry_eq]
  generalize (lg_sl ([.ref m0, .int (nI d9)]) ++ List.replicate (4 - (lg_sl ([.ref m0, .int (nI d9)])).length) Slot.unset).toArray = ls at hl ⊢
  have hl : lv_has ls 4 [(0, .ref m0), (1, .int (nI d9))] := hl
  refine zr_nQ (fun Q hQ => ?_)
  have htx1 := htx.1
  have htx2 := htx.2
  refine lv_aload_n hx hb dX8_number_0 rfl (lv_at hl 0 rfl) ?_
  refine lv_bipush (v := nI 32) hx hb dX8_number_1 (by rfl) ?_
  have hPc := hP.sub (ws' := [(m0, .inr (6, [.ref w0, .ref w1, .ref w2, .int ik, .ref w3, .int (nI tx), .int (nI hp), .int (nI f9), .ref w4, .ref w5, .int (nI cl), .ref w6, .ref w7, .ref w8, .ref w9])), (w3, .inl (E 0, 100, .inl tg))]) [0, 1] rfl
  have hDc := hD.sub (ws' := [(m0, .inr (6, [.ref w0, .ref w1, .ref w2, .int ik, .ref w3, .int (nI tx), .int (nI hp), .int (nI f9), .ref w4, .ref w5, .int (nI cl), .ref w6, .ref w7, .ref w8, .ref w9])), (w3, .inl (E 0, 100, .inl tg))]) [0, 1] (by decide +kernel) rfl
  have hAc := zw_AA (wc := [(m0, .inr (6, [.ref w0, .ref w1, .ref w2, .int ik, .ref w3, .int (nI tx), .int (nI hp), .int (nI f9), .ref w4, .ref w5, .int (nI cl), .ref w6, .ref w7, .ref w8, .ref w9])), (w3, .inl (E 0, 100, .inl tg))]) hD [0, 1] rfl
  refine zw_cv hAc hS (va_runV (As := [.int (nI 32)]) (rest := []) ⟨hx, hb, hml, hown, hts⟩ (c_X8_takes_f l D E m0 w0 w1 w2 w3 w4 w5 w6 w7 w8 w9 ik tx cl wv hp tg T 32 f9 (htx) (by omega) (by omega)) (cwV 1 hts gX8_number_X8_takes rfl rfl rfl (by decide +kernel) ⟨Nat.le_of_ble_eq_true rfl, Nat.le_of_ble_eq_true rfl⟩) (zw_V hK hPc hDc (ci := 6) (q0 := 0) rfl rfl) rfl rfl hl.1 rfl (lv_room (Nat.le_of_ble_eq_true rfl)) dX8_number_3 ⟨Nat.zero_le _, Nat.zero_le _⟩) (fun u_3 H locs hw_2 hP1 hD1 hk1 hS => ?_)
  obtain ⟨hP, hD⟩ := zw_join (wr := []) (w1 := [(m0, .inr (6, [.ref w0, .ref w1, .ref w2, .int ik, .ref w3, .int (nI tx), .int (nI hp), .int (nI f9), .ref w4, .ref w5, .int (nI cl), .ref w6, .ref w7, .ref w8, .ref w9])), (w3, .inl (E 0, 100, .inl tg))]) (ws' := [(m0, .inr (6, [.ref w0, .ref w1, .ref w2, .int ik, .ref w3, .int (nI tx), .int (nI hp), .int (nI f9), .ref w4, .ref w5, .int (nI cl), .ref w6, .ref w7, .ref w8, .ref w9])), (w3, .inl (E 0, 100, .inl tg))]) hP hD [0, 1] [] [0, 1] rfl rfl (by decide +kernel) (by decide +kernel) hAc hk1 hP1 hD1 (by decide +kernel) rfl
  clear hP1 hD1 hk1 hPc hDc hAc
  refine lv_aload_n hx hb dX8_number_6 rfl (lv_at hl 0 rfl) ?_
  refine va_get (D := D) (ci := 6) (v := .int (nI hp)) (C := RX8) (T := TX8) (N := 15) hx hb hts (by decide +kernel) hown hK.1 hP 0 rfl rfl 6 (by decide) (hts (.fieldLink RX8 103 "HomeRoundsModel" "here" "I") (by decide +kernel)) (fun _ h9 => h9) rfl dX8_number_7 ?_
  refine lv_istore_n (lv' := [(2, .int (nI hp)), (0, .ref m0), (1, .int (nI d9))]) hx hb dX8_number_10 rfl hl (by decide) rfl (fun ls hl => ?_)
  refine lv_iconst (v := nI 0) hx hb dX8_number_11 (by rfl) ?_
  refine lv_istore_n (lv' := [(3, .int (nI 0)), (2, .int (nI hp)), (0, .ref m0), (1, .int (nI d9))]) hx hb dX8_number_12 rfl hl (by decide) rfl (fun ls hl => ?_)
  suffices KL13 : ∀ (kz : Nat) (k9 : Nat) (H : Heap) (locs : List Loc) (ls : Array Slot), (3 - k9) < kz → (k9 = 0) → va_P D vwCl [(m0, .inr (6, [.ref w0, .ref w1, .ref w2, .int ik, .ref w3, .int (nI tx), .int (nI hp), .int (nI f9), .ref w4, .ref w5, .int (nI cl), .ref w6, .ref w7, .ref w8, .ref w9])), (w3, .inl (E 0, 100, .inl tg))] H → va_D A [(m0, .inr (6, [.ref w0, .ref w1, .ref w2, .int ik, .ref w3, .int (nI tx), .int (nI hp), .int (nI f9), .ref w4, .ref w5, .int (nI cl), .ref w6, .ref w7, .ref w8, .ref w9])), (w3, .inl (E 0, 100, .inl tg))] → va_S A s.heap H locs → lv_has ls 4 [(0, .ref m0), (1, .int (nI d9)), (2, .int (nI hp)), (3, .int (nI 0))] → W p l e (headSpec wsX8_number ({ frames := 2, cells := 0, slots := 0, locals := 42 })).room s m ([.ref m0, .int (nI d9)] : List Value).toArray below meth c H locs 0 0 Q (F0 m 13 ls []) from
    KL13 _ 0 _ _ ls (Nat.lt_succ_self _) (rfl) hP hD hS (lv_sub hl [2, 3, 1, 0] rfl)
  clear hP hS hl hD
  intro kz
  induction kz with
  | zero => intro k9 H locs ls hkz; exact absurd hkz (Nat.not_lt_zero _)
  | succ kz ih13 =>
    intro k9 H locs ls hkz hk0 hP hD hS hl
    refine lv_aload_n hx hb dX8_number_13 rfl (lv_at hl 0 rfl) ?_
    refine va_get (D := D) (ci := 6) (v := .int (nI f9)) (C := RX8) (T := TX8) (N := 15) hx hb hts (by decide +kernel) hown hK.1 hP 0 rfl rfl 7 (by decide) (hts (.fieldLink RX8 106 "HomeRoundsModel" "fault" "I") (by decide +kernel)) (fun _ h9 => h9) rfl dX8_number_14 ?_
    refine lv_if_ge (tgt := 70) hx hb dX8_number_17 (by decide) (fun cn_4 => ?_) (fun cn_4 => ?_)
    · skip
      have cn_4 : 0 ≤ f9 := (nI_leI (a := 0) (b := f9) (by omega) (by omega)).mp cn_4
      refine lv_aload_n hx hb dX8_number_70 rfl (lv_at hl 0 rfl) ?_
      refine va_get (D := D) (ci := 6) (v := .int (nI hp)) (C := RX8) (T := TX8) (N := 15) hx hb hts (by decide +kernel) hown hK.1 hP 0 rfl rfl 6 (by decide) (hts (.fieldLink RX8 103 "HomeRoundsModel" "here" "I") (by decide +kernel)) (fun _ h9 => h9) rfl dX8_number_71 ?_
      refine lv_iload_n hx hb dX8_number_74 rfl (lv_at hl 2 rfl) ?_
      refine lv_icmp_ne (tgt := 86) hx hb dX8_number_75 (by decide) (fun cn_5 => ?_) (fun cn_5 => ?_)
      · skip
        have cn_5 : ¬ (hp = hp) := fun hz => cn_5 ((nI_eq (a := hp) (b := hp) (by omega) (by omega)).mpr hz)
        exfalso; omega
      · skip
        have cn_5 : hp = hp := (nI_eq (a := hp) (b := hp) (by omega) (by omega)).mp cn_5
        refine lv_aload_n hx hb dX8_number_78 rfl (lv_at hl 0 rfl) ?_
        refine lv_aload_n hx hb dX8_number_79 rfl (lv_at hl 0 rfl) ?_
        refine va_get (D := D) (ci := 6) (v := .int (nI hp)) (C := RX8) (T := TX8) (N := 15) hx hb hts (by decide +kernel) hown hK.1 hP 0 rfl rfl 6 (by decide) (hts (.fieldLink RX8 103 "HomeRoundsModel" "here" "I") (by decide +kernel)) (fun _ h9 => h9) rfl dX8_number_80 ?_
        have hPc := hP.sub (ws' := [(m0, .inr (6, [.ref w0, .ref w1, .ref w2, .int ik, .ref w3, .int (nI tx), .int (nI hp), .int (nI f9), .ref w4, .ref w5, .int (nI cl), .ref w6, .ref w7, .ref w8, .ref w9])), (w3, .inl (E 0, 100, .inl tg))]) [0, 1] rfl
        have hDc := hD.sub (ws' := [(m0, .inr (6, [.ref w0, .ref w1, .ref w2, .int ik, .ref w3, .int (nI tx), .int (nI hp), .int (nI f9), .ref w4, .ref w5, .int (nI cl), .ref w6, .ref w7, .ref w8, .ref w9])), (w3, .inl (E 0, 100, .inl tg))]) [0, 1] (by decide +kernel) rfl
        have hAc := zw_AA (wc := [(m0, .inr (6, [.ref w0, .ref w1, .ref w2, .int ik, .ref w3, .int (nI tx), .int (nI hp), .int (nI f9), .ref w4, .ref w5, .int (nI cl), .ref w6, .ref w7, .ref w8, .ref w9])), (w3, .inl (E 0, 100, .inl tg))]) hD [0, 1] rfl
        refine zw_cv hAc hS (va_runV (As := [.int (nI hp)]) (rest := []) ⟨hx, hb, hml, hown, hts⟩ (c_X8_fails_f l D E m0 w0 w1 w2 w3 w4 w5 w6 w7 w8 w9 ik tx cl wv hp tg T hp f9 (htx) (by omega) (by omega)) (cwV 1 hts gX8_number_X8_fails rfl rfl rfl (by decide +kernel) ⟨Nat.le_of_ble_eq_true rfl, Nat.le_of_ble_eq_true rfl⟩) (zw_V hK hPc hDc (ci := 6) (q0 := 0) rfl rfl) rfl rfl hl.1 rfl (lv_room (Nat.le_of_ble_eq_true rfl)) dX8_number_83 ⟨Nat.zero_le _, Nat.zero_le _⟩) (fun u_8 H locs hw_7 hP1 hD1 hk1 hS => ?_)
        obtain ⟨hP, hD⟩ := zw_join (wr := []) (w1 := [(m0, .inr (6, [.ref w0, .ref w1, .ref w2, .int ik, .ref w3, .int (nI tx), .int (nI hp), .int (nI f9), .ref w4, .ref w5, .int (nI cl), .ref w6, .ref w7, .ref w8, .ref w9])), (w3, .inl (E 0, 100, .inl tg))]) (ws' := [(m0, .inr (6, [.ref w0, .ref w1, .ref w2, .int ik, .ref w3, .int (nI tx), .int (nI hp), .int (nI f9), .ref w4, .ref w5, .int (nI cl), .ref w6, .ref w7, .ref w8, .ref w9])), (w3, .inl (E 0, 100, .inl tg))]) hP hD [0, 1] [] [0, 1] rfl rfl (by decide +kernel) (by decide +kernel) hAc hk1 hP1 hD1 (by decide +kernel) rfl
        clear hP1 hD1 hk1 hPc hDc hAc
        refine lv_iload_n hx hb dX8_number_86 rfl (lv_at hl 3 rfl) ?_
        subst hQ; subst hAe
        exact W.iret (v := nI 0) hx hb hr (fun tz htz hWz => ⟨⟨nI 0, (), rfl, ⟨rfl, trivial⟩, by rw [htz]; exact hP, hD⟩, hS.F htz⟩) hS.2.2 dX8_number_87
    · skip
      have cn_4 : ¬ (0 ≤ f9) := fun hz => cn_4 ((nI_leI (a := 0) (b := f9) (by omega) (by omega)).mpr hz)
      exfalso; omega

