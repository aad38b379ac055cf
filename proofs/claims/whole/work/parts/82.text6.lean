set_option maxHeartbeats 4000000 in
set_option maxRecDepth 100000 in
theorem c_X8_clause (l : Launch) (D : va_G) (E : Nat → ClassId) (adK adV ad : Nat → Nat) (wa sa : Nat) (m0 : Nat) (w0 : Nat) (w1 : Nat) (w2 : Nat) (w3 : Nat) (w4 : Nat) (w5 : Nat) (w6 : Nat) (w7 : Nat) (w8 : Nat) (w9 : Nat) (ik : Int32) (tx : Nat) (cl : Nat) (wv : Nat → Int32) (hp : Nat) (tg : Nat → Int32) (T : Nat → Nat) (wd : Nat → Int32) (nu : Nat → Int32) (htx : zx_T tx T tg) (hpt8 : hp ≤ tx) (hcl : cl < 12) : Met l yX8_clause wsX8_clause ({ frames := 6, cells := 0, slots := 0, locals := 132 }) (zwE_P D E adK adV ad wa sa [.ref m0] [(m0, .inr (6, [.ref w0, .ref w1, .ref w2, .int ik, .ref w3, .int (nI tx), .int (nI hp), .int (-1), .ref w4, .ref w5, .int (nI cl), .ref w6, .ref w7, .ref w8, .ref w9])), (w3, .inl (E 0, 100, .inl tg)), (w4, .inl (E 0, 12, .inl wd)), (w5, .inl (E 0, 36, .inl nu))]) (zw_Qv D [(m0, .inr (6, [.ref w0, .ref w1, .ref w2, .int ik, .ref w3, .int (nI tx), .int (nI hp), .int (-1), .ref w4, .ref w5, .int (nI cl), .ref w6, .ref w7, .ref w8, .ref w9])), (w3, .inl (E 0, 100, .inl tg)), (w4, .inl (E 0, 12, .inl wd)), (w5, .inl (E 0, 36, .inl nu))] (fun (u : (Nat) × (Int32) × (Nat) × (Nat → Int32) × (Nat → Int32)) => u.2.1 = zx_fz (zx_cF T tx hp) ∧ (zx_cF T tx hp = none → u.1 = zx_cP T tx hp ∧ u.2.2.1 = cl + 1 ∧ zx_mput T tx hp cl wd u.2.2.2.1 nu u.2.2.2.2)) (fun (u : (Nat) × (Int32) × (Nat) × (Nat → Int32) × (Nat → Int32)) => [(m0, .inr (6, [.ref w0, .ref w1, .ref w2, .int ik, .ref w3, .int (nI tx), .int (nI u.1), .int u.2.1, .ref w4, .ref w5, .int (nI u.2.2.1), .ref w6, .ref w7, .ref w8, .ref w9])), (w3, .inl (E 0, 100, .inl tg)), (w4, .inl (E 0, 12, .inl u.2.2.2.1)), (w5, .inl (E 0, 36, .inl u.2.2.2.2))])) 0 0 (zw_A [(m0, .inr (6, [.ref w0, .ref w1, .ref w2, .int ik, .ref w3, .int (nI tx), .int (nI hp), .int (-1), .ref w4, .ref w5, .int (nI cl), .ref w6, .ref w7, .ref w8, .ref w9])), (w3, .inl (E 0, 100, .inl tg)), (w4, .inl (E 0, 12, .inl wd)), (w5, .inl (E 0, 36, .inl nu))]) := by
  refine Met.ofW (cc := cX8_clause) (maxL := 3) (ret := none) (by decide) rfl ?_
  intro p e s m args below meth c s₁ Bz hml hv
  obtain ⟨rfl, hP, hK, hD0, hE, hR⟩ := hv
  have hx := Bz.exec
  have hb := Bz.bytes
  have hr := Bz.returns
  have hts := atoms_spec (ws := wsX8_clause) Bz.pre
  have hown : s.vm.findClass RX8 = some m.cls := findClass_of_methodNamed Bz.named
  have hlocks := Bz.notSynchronized
  have hP : va_P D vwCl [(m0, .inr (6, [.ref w0, .ref w1, .ref w2, .int ik, .ref w3, .int (nI tx), .int (nI hp), .int (-1), .ref w4, .ref w5, .int (nI cl), .ref w6, .ref w7, .ref w8, .ref w9])), (w3, .inl (E 0, 100, .inl tg)), (w4, .inl (E 0, 12, .inl wd)), (w5, .inl (E 0, 36, .inl nu))] s.heap := hP
  obtain ⟨A, hAe⟩ : ∃ A : Nat → Prop, A = zw_A [(m0, .inr (6, [.ref w0, .ref w1, .ref w2, .int ik, .ref w3, .int (nI tx), .int (nI hp), .int (-1), .ref w4, .ref w5, .int (nI cl), .ref w6, .ref w7, .ref w8, .ref w9])), (w3, .inl (E 0, 100, .inl tg)), (w4, .inl (E 0, 12, .inl wd)), (w5, .inl (E 0, 36, .inl nu))] := ⟨_, rfl⟩
  have hD : va_D A [(m0, .inr (6, [.ref w0, .ref w1, .ref w2, .int ik, .ref w3, .int (nI tx), .int (nI hp), .int (-1), .ref w4, .ref w5, .int (nI cl), .ref w6, .ref w7, .ref w8, .ref w9])), (w3, .inl (E 0, 100, .inl tg)), (w4, .inl (E 0, 12, .inl wd)), (w5, .inl (E 0, 36, .inl nu))] := hAe ▸ zw_own hD0
  have hE : zc_E adK adV ad wa sa A s s.heap := by rw [hAe]; exact hE
  have hS : va_S A s.heap s.heap [] := va_S.rf
  have hl := lv_entry ([.ref m0]) (n := 3) (Nat.le_of_ble_eq_true rfl)
  rw [lg_entry_eq]
  generalize (lg_sl ([.ref m0]) ++ List.replicate (3 - (lg_sl ([.ref m0])).length) Slot.unset).toArray = ls at hl ⊢
  have hl : lv_has ls 3 [(0, .ref m0)] := hl
  refine zr_nQ (fun Q hQ => ?_)
  have htx1 := htx.1
  have htx2 := htx.2
  refine lv_aload_n hx hb dX8_clause_0 rfl (lv_at hl 0 rfl) ?_
  have hPc := hP.sub (ws' := [(m0, .inr (6, [.ref w0, .ref w1, .ref w2, .int ik, .ref w3, .int (nI tx), .int (nI hp), .int (-1), .ref w4, .ref w5, .int (nI cl), .ref w6, .ref w7, .ref w8, .ref w9])), (w3, .inl (E 0, 100, .inl tg))]) [0, 1] rfl
  have hDc := hD.sub (ws' := [(m0, .inr (6, [.ref w0, .ref w1, .ref w2, .int ik, .ref w3, .int (nI tx), .int (nI hp), .int (-1), .ref w4, .ref w5, .int (nI cl), .ref w6, .ref w7, .ref w8, .ref w9])), (w3, .inl (E 0, 100, .inl tg))]) [0, 1] (by decide +kernel) rfl
  have hAc := zw_AA (wc := [(m0, .inr (6, [.ref w0, .ref w1, .ref w2, .int ik, .ref w3, .int (nI tx), .int (nI hp), .int (-1), .ref w4, .ref w5, .int (nI cl), .ref w6, .ref w7, .ref w8, .ref w9])), (w3, .inl (E 0, 100, .inl tg))]) hD [0, 1] rfl
  refine zw_ci hAc hS (va_runV (As := []) (rest := []) ⟨hx, hb, hml, hown, hts⟩ (c_X8_word l D E adK adV ad wa sa m0 w0 w1 w2 w3 w4 w5 w6 w7 w8 w9 ik tx cl wv hp tg T (htx) (by omega)) (cwV 0 hts gX8_clause_X8_word rfl rfl rfl (by decide +kernel) ⟨Nat.le_of_ble_eq_true rfl, Nat.le_of_ble_eq_true rfl⟩) (zwE_V hE hR hS hAc hK hPc hDc (ci := 6) (q0 := 0) rfl rfl) rfl rfl hl.1 rfl (lv_room (Nat.le_of_ble_eq_true rfl)) dX8_clause_1 ⟨Nat.zero_le _, Nat.zero_le _⟩) (fun r_1 u_3 H locs hw_2 hP1 hD1 hk1 hS => ?_)
  obtain ⟨hpn_4, fan_5⟩ := u_3
  try dsimp only at hw_2 hP1 hD1
  obtain ⟨hP, hD⟩ := zw_join (wr := [(w4, .inl (E 0, 12, .inl wd)), (w5, .inl (E 0, 36, .inl nu))]) (w1 := [(m0, .inr (6, [.ref w0, .ref w1, .ref w2, .int ik, .ref w3, .int (nI tx), .int (nI hpn_4), .int fan_5, .ref w4, .ref w5, .int (nI cl), .ref w6, .ref w7, .ref w8, .ref w9])), (w3, .inl (E 0, 100, .inl tg))]) (ws' := [(m0, .inr (6, [.ref w0, .ref w1, .ref w2, .int ik, .ref w3, .int (nI tx), .int (nI hpn_4), .int fan_5, .ref w4, .ref w5, .int (nI cl), .ref w6, .ref w7, .ref w8, .ref w9])), (w3, .inl (E 0, 100, .inl tg)), (w4, .inl (E 0, 12, .inl wd)), (w5, .inl (E 0, 36, .inl nu))]) hP hD [0, 1] [2, 3] [2, 3, 0, 1] rfl rfl (by decide +kernel) (by decide +kernel) hAc hk1 hP1 hD1 (by decide +kernel) rfl
  clear hP1 hD1 hk1 hPc hDc hAc
  obtain ⟨hwz, hpe, hfa⟩ := hw_2
  rcases zx_w9 (zx_cw_le (T := T) (L := tx) (p := hp)) with hcw | hcw | hcw | hcw | hcw | hcw | hcw | hcw | hcw
  · skip
    refine zr_ti (y := nI 0) (hwz.trans (by rw [hcw]; rfl)) ?_
    rw [hpe, hfa, hcw, if_pos (by decide)] at hP hD
    have hcF : zx_cF T tx hp = zx_fl T tx [0] (zx_we T tx 100 hp) := by unfold zx_cF; rw [hcw, if_neg (by decide)]; rfl
    have hle2 := zx_we_le (T := T) (L := tx) 100 hp hpt8
    refine lv_istore_n (lv' := [(1, .int (nI 0)), (0, .ref m0)]) hx hb dX8_clause_4 rfl hl (by decide) rfl (fun ls hl => ?_)
    refine lv_aload_n hx hb dX8_clause_5 rfl (lv_at hl 1 rfl) ?_
    refine va_get (D := D) (ci := 6) (v := .int (-1)) (C := RX8) (T := TX8) (N := 15) hx hb hts (by decide +kernel) hown hK.1 hP 0 rfl rfl 7 (by decide) (hts (.fieldLink RX8 106 "HomeRoundsModel" "fault" "I") (by decide +kernel)) (fun _ h9 => h9) rfl dX8_clause_6 ?_
    refine lv_if_lt (tgt := 13) hx hb dX8_clause_9 (by decide) (fun cn_6 => ?_) (fun cn_6 => ?_)
    · skip
      refine lv_iconst (v := nI 3) hx hb dX8_clause_13 (by rfl) ?_
      refine lv_aload_n hx hb dX8_clause_14 rfl (lv_at hl 1 rfl) ?_
      refine va_get (D := D) (ci := 6) (v := .int (nI cl)) (C := RX8) (T := TX8) (N := 15) hx hb hts (by decide +kernel) hown hK.1 hP 0 rfl rfl 10 (by decide) (hts (.fieldLink RX8 132 "HomeRoundsModel" "clauses" "I") (by decide +kernel)) (fun _ h9 => h9) rfl dX8_clause_15 ?_
      refine lv_imul hx hb dX8_clause_18 ?_
      refine zr_ti (y := nI (3 * cl)) (pk_mul _ _) ?_
      refine lv_istore_n (lv' := [(2, .int (nI (3 * cl))), (1, .int (nI 0)), (0, .ref m0)]) hx hb dX8_clause_19 rfl hl (by decide) rfl (fun ls hl => ?_)
      refine lv_aload_n hx hb dX8_clause_20 rfl (lv_at hl 2 rfl) ?_
      refine va_get (D := D) (ci := 6) (v := .ref w4) (C := RX8) (T := TX8) (N := 15) hx hb hts (by decide +kernel) hown hK.1 hP 0 rfl rfl 8 (by decide) (hts (.fieldLink RX8 24 "HomeRoundsModel" "words" "[I") (by decide +kernel)) (fun _ h9 => h9) rfl dX8_clause_21 ?_
      refine lv_aload_n hx hb dX8_clause_24 rfl (lv_at hl 2 rfl) ?_
      refine va_get (D := D) (ci := 6) (v := .int (nI cl)) (C := RX8) (T := TX8) (N := 15) hx hb hts (by decide +kernel) hown hK.1 hP 0 rfl rfl 10 (by decide) (hts (.fieldLink RX8 132 "HomeRoundsModel" "clauses" "I") (by decide +kernel)) (fun _ h9 => h9) rfl dX8_clause_25 ?_
      refine lv_iload_n hx hb dX8_clause_28 rfl (lv_at hl 1 rfl) ?_
      refine va_iast hx hb hK.1 hP hD hS 2 0 rfl rfl (vp_in_nI (by omega) (by omega)) dX8_clause_29 (fun H locs hP hD hS => ?_)
      have hP : va_P D vwCl [(m0, .inr (6, [.ref w0, .ref w1, .ref w2, .int ik, .ref w3, .int (nI tx), .int (nI (zx_we T tx 100 hp)), .int (-1), .ref w4, .ref w5, .int (nI cl), .ref w6, .ref w7, .ref w8, .ref w9])), (w3, .inl (E 0, 100, .inl tg)), (w4, .inl (E 0, 12, .inl (upd wd (nI cl).toNatClampNeg (nI 0)))), (w5, .inl (E 0, 36, .inl nu))] H := hP
      have hD : va_D A [(m0, .inr (6, [.ref w0, .ref w1, .ref w2, .int ik, .ref w3, .int (nI tx), .int (nI (zx_we T tx 100 hp)), .int (-1), .ref w4, .ref w5, .int (nI cl), .ref w6, .ref w7, .ref w8, .ref w9])), (w3, .inl (E 0, 100, .inl tg)), (w4, .inl (E 0, 12, .inl (upd wd (nI cl).toNatClampNeg (nI 0)))), (w5, .inl (E 0, 36, .inl nu))] := hD
      have hcz : (upd wd (nI cl).toNatClampNeg (nI 0)) = (upd wd cl (nI 0)) := by rw [nI_clamp (n := cl) (by omega)]
      rw [hcz] at hP hD
      refine lv_aload_n hx hb dX8_clause_30 rfl (lv_at hl 2 rfl) ?_
      refine va_get (D := D) (ci := 6) (v := .ref w5) (C := RX8) (T := TX8) (N := 15) hx hb hts (by decide +kernel) hown hK.1 hP 0 rfl rfl 9 (by decide) (hts (.fieldLink RX8 27 "HomeRoundsModel" "numbers" "[I") (by decide +kernel)) (fun _ h9 => h9) rfl dX8_clause_31 ?_
      refine lv_iload_n hx hb dX8_clause_34 rfl (lv_at hl 0 rfl) ?_
      refine lv_aload_n hx hb dX8_clause_35 rfl (lv_at hl 2 rfl) ?_
      refine lv_iconst (v := nI 1) hx hb dX8_clause_36 (by rfl) ?_
      have hPc := hP.sub (ws' := [(m0, .inr (6, [.ref w0, .ref w1, .ref w2, .int ik, .ref w3, .int (nI tx), .int (nI (zx_we T tx 100 hp)), .int (-1), .ref w4, .ref w5, .int (nI cl), .ref w6, .ref w7, .ref w8, .ref w9])), (w3, .inl (E 0, 100, .inl tg))]) [0, 1] rfl
      have hDc := hD.sub (ws' := [(m0, .inr (6, [.ref w0, .ref w1, .ref w2, .int ik, .ref w3, .int (nI tx), .int (nI (zx_we T tx 100 hp)), .int (-1), .ref w4, .ref w5, .int (nI cl), .ref w6, .ref w7, .ref w8, .ref w9])), (w3, .inl (E 0, 100, .inl tg))]) [0, 1] (by decide +kernel) rfl
      have hAc := zw_AA (wc := [(m0, .inr (6, [.ref w0, .ref w1, .ref w2, .int ik, .ref w3, .int (nI tx), .int (nI (zx_we T tx 100 hp)), .int (-1), .ref w4, .ref w5, .int (nI cl), .ref w6, .ref w7, .ref w8, .ref w9])), (w3, .inl (E 0, 100, .inl tg))]) hD [0, 1] rfl
      refine zw_ci hAc hS (va_runV (As := [.int (nI 1)]) (rest := [.int (nI (3 * cl)), .ref w5]) ⟨hx, hb, hml, hown, hts⟩ (c_X8_number_1 l D E m0 w0 w1 w2 w3 w4 w5 w6 w7 w8 w9 ik tx cl wv (zx_we T tx 100 hp) tg T (htx) (by omega)) (cwV 1 hts gX8_clause_X8_number rfl rfl rfl (by decide +kernel) ⟨Nat.le_of_ble_eq_true rfl, Nat.le_of_ble_eq_true rfl⟩) (zw_V hK hPc hDc (ci := 6) (q0 := 0) rfl rfl) rfl rfl hl.1 rfl (lv_room (Nat.le_of_ble_eq_true rfl)) dX8_clause_37 ⟨Nat.zero_le _, Nat.zero_le _⟩) (fun r_7 u_9 H locs hw_8 hP1 hD1 hk1 hS => ?_)
      obtain ⟨hpn_10, fan_11⟩ := u_9
      try dsimp only at hw_8 hP1 hD1
      obtain ⟨hP, hD⟩ := zw_join (wr := [(w4, .inl (E 0, 12, .inl (upd wd cl (nI 0)))), (w5, .inl (E 0, 36, .inl nu))]) (w1 := [(m0, .inr (6, [.ref w0, .ref w1, .ref w2, .int ik, .ref w3, .int (nI tx), .int (nI hpn_10), .int fan_11, .ref w4, .ref w5, .int (nI cl), .ref w6, .ref w7, .ref w8, .ref w9])), (w3, .inl (E 0, 100, .inl tg))]) (ws' := [(m0, .inr (6, [.ref w0, .ref w1, .ref w2, .int ik, .ref w3, .int (nI tx), .int (nI hpn_10), .int fan_11, .ref w4, .ref w5, .int (nI cl), .ref w6, .ref w7, .ref w8, .ref w9])), (w3, .inl (E 0, 100, .inl tg)), (w4, .inl (E 0, 12, .inl (upd wd cl (nI 0)))), (w5, .inl (E 0, 36, .inl nu))]) hP hD [0, 1] [2, 3] [2, 3, 0, 1] rfl rfl (by decide +kernel) (by decide +kernel) hAc hk1 hP1 hD1 (by decide +kernel) rfl
      clear hP1 hD1 hk1 hPc hDc hAc
      have hn9 := hw_8
      obtain ⟨hle0, ⟨hfl0, hfa, hzv, hpq⟩ | ⟨f9, hf9, hfl0, hfa, hzv⟩⟩ := hn9
      · skip
        refine zr_ti (y := nI (zx_nv T tx 0 (zx_we T tx 100 hp + 1))) hzv ?_
        rw [hpq, hfa] at hP hD
        rw [hpq] at hle0
        refine va_iast hx hb hK.1 hP hD hS 3 0 rfl rfl (vp_in_nI (by omega) (by omega)) dX8_clause_40 (fun H locs hP hD hS => ?_)
        have hP : va_P D vwCl [(m0, .inr (6, [.ref w0, .ref w1, .ref w2, .int ik, .ref w3, .int (nI tx), .int (nI (zx_np T tx 0 (zx_we T tx 100 hp + 1))), .int (-1), .ref w4, .ref w5, .int (nI cl), .ref w6, .ref w7, .ref w8, .ref w9])), (w3, .inl (E 0, 100, .inl tg)), (w4, .inl (E 0, 12, .inl (upd wd cl (nI 0)))), (w5, .inl (E 0, 36, .inl (upd nu (nI (3 * cl)).toNatClampNeg (nI (zx_nv T tx 0 (zx_we T tx 100 hp + 1))))))] H := hP
        have hD : va_D A [(m0, .inr (6, [.ref w0, .ref w1, .ref w2, .int ik, .ref w3, .int (nI tx), .int (nI (zx_np T tx 0 (zx_we T tx 100 hp + 1))), .int (-1), .ref w4, .ref w5, .int (nI cl), .ref w6, .ref w7, .ref w8, .ref w9])), (w3, .inl (E 0, 100, .inl tg)), (w4, .inl (E 0, 12, .inl (upd wd cl (nI 0)))), (w5, .inl (E 0, 36, .inl (upd nu (nI (3 * cl)).toNatClampNeg (nI (zx_nv T tx 0 (zx_we T tx 100 hp + 1))))))] := hD
        have hcz : (upd nu (nI (3 * cl)).toNatClampNeg (nI (zx_nv T tx 0 (zx_we T tx 100 hp + 1)))) = (upd nu (3 * cl) (nI (zx_nv T tx 0 (zx_we T tx 100 hp + 1)))) := by rw [nI_clamp (n := 3 * cl) (by omega)]
        rw [hcz] at hP hD
        refine lv_iload_n hx hb dX8_clause_41 rfl (lv_at hl 1 rfl) ?_
        refine lv_if_eq (tgt := 79) hx hb dX8_clause_42 (by decide) (fun cn_12 => ?_) (fun cn_12 => ?_)
        · skip
          refine lv_iload_n hx hb dX8_clause_79 rfl (lv_at hl 1 rfl) ?_
          refine lv_bipush (v := nI 7) hx hb dX8_clause_80 (by rfl) ?_
          refine lv_icmp_ne (tgt := 98) hx hb dX8_clause_82 (by decide) (fun cn_13 => ?_) (fun cn_13 => ?_)
          · skip
            refine lv_aload_n hx hb dX8_clause_98 rfl (lv_at hl 2 rfl) ?_
            refine lv_dup hx hb dX8_clause_99 rfl ?_
            refine va_get (D := D) (ci := 6) (v := .int (nI cl)) (C := RX8) (T := TX8) (N := 15) hx hb hts (by decide +kernel) hown hK.1 hP 0 rfl rfl 10 (by decide) (hts (.fieldLink RX8 132 "HomeRoundsModel" "clauses" "I") (by decide +kernel)) (fun _ h9 => h9) rfl dX8_clause_100 ?_
            refine lv_iconst (v := nI 1) hx hb dX8_clause_103 (by rfl) ?_
            refine lv_iadd hx hb dX8_clause_104 ?_
            refine zr_ti (y := nI (cl + 1)) (nI_add _ _) ?_
            refine va_put (D := D) (ci := 6) (v := .int (nI (cl + 1))) (ty := .int) (C := RX8) (T := TX8) (N := 15) hx hb hts (by decide +kernel) tyX8 tyX8_ok nmX8 hown hK.1 hP hD hS 0 rfl rfl 10 (by decide) (hts (.fieldLink RX8 132 "HomeRoundsModel" "clauses" "I") (by decide +kernel)) (fun _ h9 => h9) rfl (by decide +kernel) rfl rfl (Nat.le_of_ble_eq_true rfl) dX8_clause_105 (fun H locs hP hD hS => ?_)
            have hP : va_P D vwCl [(m0, .inr (6, [.ref w0, .ref w1, .ref w2, .int ik, .ref w3, .int (nI tx), .int (nI (zx_np T tx 0 (zx_we T tx 100 hp + 1))), .int (-1), .ref w4, .ref w5, .int (nI (cl + 1)), .ref w6, .ref w7, .ref w8, .ref w9])), (w3, .inl (E 0, 100, .inl tg)), (w4, .inl (E 0, 12, .inl (upd wd cl (nI 0)))), (w5, .inl (E 0, 36, .inl (upd nu (3 * cl) (nI (zx_nv T tx 0 (zx_we T tx 100 hp + 1))))))] H := hP
            have hD : va_D A [(m0, .inr (6, [.ref w0, .ref w1, .ref w2, .int ik, .ref w3, .int (nI tx), .int (nI (zx_np T tx 0 (zx_we T tx 100 hp + 1))), .int (-1), .ref w4, .ref w5, .int (nI (cl + 1)), .ref w6, .ref w7, .ref w8, .ref w9])), (w3, .inl (E 0, 100, .inl tg)), (w4, .inl (E 0, 12, .inl (upd wd cl (nI 0)))), (w5, .inl (E 0, 36, .inl (upd nu (3 * cl) (nI (zx_nv T tx 0 (zx_we T tx 100 hp + 1))))))] := hD
            subst hQ; subst hAe
            exact W.vret hx hb hr (fun tz htz hWz => ⟨⟨(zx_np T tx 0 (zx_we T tx 100 hp + 1), (-1), cl + 1, (upd wd cl (nI 0)), (upd nu (3 * cl) (nI (zx_nv T tx 0 (zx_we T tx 100 hp + 1))))), rfl, ⟨by rw [hcF.trans (zx_fl_cn hfl0)]; rfl, fun q => ⟨by unfold zx_cP; rw [hcw]; rfl, rfl, zx_mput_g hcw (by decide) rfl (fun j hj => by show upd _ _ _ _ = _; unfold upd; rw [if_neg (by omega)]) (fun j hj => by
    have h9 : j = 0 := (by have : j < 1 := hj; omega)
    subst h9; show upd _ _ _ _ = _; unfold upd; rw [if_pos (by omega)]; rfl)⟩⟩, by rw [htz]; exact hP, hD⟩, hS.F htz⟩) hS.2.2 dX8_clause_108
          · skip
            exact absurd cn_13 (by decide)
        · skip
          exact absurd cn_12 (by decide)
      · skip
        refine zr_ti (y := nI 0) hzv ?_
        rw [hfa] at hP hD
        refine va_iast hx hb hK.1 hP hD hS 3 0 rfl rfl (vp_in_nI (by omega) (by omega)) dX8_clause_40 (fun H locs hP hD hS => ?_)
        have hP : va_P D vwCl [(m0, .inr (6, [.ref w0, .ref w1, .ref w2, .int ik, .ref w3, .int (nI tx), .int (nI hpn_10), .int (nI f9), .ref w4, .ref w5, .int (nI cl), .ref w6, .ref w7, .ref w8, .ref w9])), (w3, .inl (E 0, 100, .inl tg)), (w4, .inl (E 0, 12, .inl (upd wd cl (nI 0)))), (w5, .inl (E 0, 36, .inl (upd nu (nI (3 * cl)).toNatClampNeg (nI 0))))] H := hP
        have hD : va_D A [(m0, .inr (6, [.ref w0, .ref w1, .ref w2, .int ik, .ref w3, .int (nI tx), .int (nI hpn_10), .int (nI f9), .ref w4, .ref w5, .int (nI cl), .ref w6, .ref w7, .ref w8, .ref w9])), (w3, .inl (E 0, 100, .inl tg)), (w4, .inl (E 0, 12, .inl (upd wd cl (nI 0)))), (w5, .inl (E 0, 36, .inl (upd nu (nI (3 * cl)).toNatClampNeg (nI 0))))] := hD
        have hcz : (upd nu (nI (3 * cl)).toNatClampNeg (nI 0)) = (upd nu (3 * cl) (nI 0)) := by rw [nI_clamp (n := 3 * cl) (by omega)]
        rw [hcz] at hP hD
        refine lv_iload_n hx hb dX8_clause_41 rfl (lv_at hl 1 rfl) ?_
        refine lv_if_eq (tgt := 79) hx hb dX8_clause_42 (by decide) (fun cn_14 => ?_) (fun cn_14 => ?_)
        · skip
          refine lv_iload_n hx hb dX8_clause_79 rfl (lv_at hl 1 rfl) ?_
          refine lv_bipush (v := nI 7) hx hb dX8_clause_80 (by rfl) ?_
          refine lv_icmp_ne (tgt := 98) hx hb dX8_clause_82 (by decide) (fun cn_15 => ?_) (fun cn_15 => ?_)
          · skip
            refine lv_aload_n hx hb dX8_clause_98 rfl (lv_at hl 2 rfl) ?_
            refine lv_dup hx hb dX8_clause_99 rfl ?_
            refine va_get (D := D) (ci := 6) (v := .int (nI cl)) (C := RX8) (T := TX8) (N := 15) hx hb hts (by decide +kernel) hown hK.1 hP 0 rfl rfl 10 (by decide) (hts (.fieldLink RX8 132 "HomeRoundsModel" "clauses" "I") (by decide +kernel)) (fun _ h9 => h9) rfl dX8_clause_100 ?_
            refine lv_iconst (v := nI 1) hx hb dX8_clause_103 (by rfl) ?_
            refine lv_iadd hx hb dX8_clause_104 ?_
            refine zr_ti (y := nI (cl + 1)) (nI_add _ _) ?_
            refine va_put (D := D) (ci := 6) (v := .int (nI (cl + 1))) (ty := .int) (C := RX8) (T := TX8) (N := 15) hx hb hts (by decide +kernel) tyX8 tyX8_ok nmX8 hown hK.1 hP hD hS 0 rfl rfl 10 (by decide) (hts (.fieldLink RX8 132 "HomeRoundsModel" "clauses" "I") (by decide +kernel)) (fun _ h9 => h9) rfl (by decide +kernel) rfl rfl (Nat.le_of_ble_eq_true rfl) dX8_clause_105 (fun H locs hP hD hS => ?_)
            have hP : va_P D vwCl [(m0, .inr (6, [.ref w0, .ref w1, .ref w2, .int ik, .ref w3, .int (nI tx), .int (nI hpn_10), .int (nI f9), .ref w4, .ref w5, .int (nI (cl + 1)), .ref w6, .ref w7, .ref w8, .ref w9])), (w3, .inl (E 0, 100, .inl tg)), (w4, .inl (E 0, 12, .inl (upd wd cl (nI 0)))), (w5, .inl (E 0, 36, .inl (upd nu (3 * cl) (nI 0))))] H := hP
            have hD : va_D A [(m0, .inr (6, [.ref w0, .ref w1, .ref w2, .int ik, .ref w3, .int (nI tx), .int (nI hpn_10), .int (nI f9), .ref w4, .ref w5, .int (nI (cl + 1)), .ref w6, .ref w7, .ref w8, .ref w9])), (w3, .inl (E 0, 100, .inl tg)), (w4, .inl (E 0, 12, .inl (upd wd cl (nI 0)))), (w5, .inl (E 0, 36, .inl (upd nu (3 * cl) (nI 0))))] := hD
            subst hQ; subst hAe
            exact W.vret hx hb hr (fun tz htz hWz => ⟨⟨(hpn_10, nI f9, cl + 1, (upd wd cl (nI 0)), (upd nu (3 * cl) (nI 0))), rfl, ⟨by rw [hcF.trans (zx_fl_cs hfl0)]; rfl, fun q => by rw [hcF.trans (zx_fl_cs hfl0)] at q; cases q⟩, by rw [htz]; exact hP, hD⟩, hS.F htz⟩) hS.2.2 dX8_clause_108
          · skip
            exact absurd cn_15 (by decide)
        · skip
          exact absurd cn_14 (by decide)
    · skip
      exact absurd cn_6 (by decide)
  · skip
    refine zr_ti (y := nI 1) (hwz.trans (by rw [hcw]; rfl)) ?_
    rw [hpe, hfa, hcw, if_pos (by decide)] at hP hD
    have hcF : zx_cF T tx hp = zx_fl T tx [0, 0] (zx_we T tx 100 hp) := by unfold zx_cF; rw [hcw, if_neg (by decide)]; rfl
    have hle2 := zx_we_le (T := T) (L := tx) 100 hp hpt8
    refine lv_istore_n (lv' := [(1, .int (nI 1)), (0, .ref m0)]) hx hb dX8_clause_4 rfl hl (by decide) rfl (fun ls hl => ?_)
    refine lv_aload_n hx hb dX8_clause_5 rfl (lv_at hl 1 rfl) ?_
    refine va_get (D := D) (ci := 6) (v := .int (-1)) (C := RX8) (T := TX8) (N := 15) hx hb hts (by decide +kernel) hown hK.1 hP 0 rfl rfl 7 (by decide) (hts (.fieldLink RX8 106 "HomeRoundsModel" "fault" "I") (by decide +kernel)) (fun _ h9 => h9) rfl dX8_clause_6 ?_
    refine lv_if_lt (tgt := 13) hx hb dX8_clause_9 (by decide) (fun cn_16 => ?_) (fun cn_16 => ?_)
    · skip
      refine lv_iconst (v := nI 3) hx hb dX8_clause_13 (by rfl) ?_
      refine lv_aload_n hx hb dX8_clause_14 rfl (lv_at hl 1 rfl) ?_
      refine va_get (D := D) (ci := 6) (v := .int (nI cl)) (C := RX8) (T := TX8) (N := 15) hx hb hts (by decide +kernel) hown hK.1 hP 0 rfl rfl 10 (by decide) (hts (.fieldLink RX8 132 "HomeRoundsModel" "clauses" "I") (by decide +kernel)) (fun _ h9 => h9) rfl dX8_clause_15 ?_
      refine lv_imul hx hb dX8_clause_18 ?_
      refine zr_ti (y := nI (3 * cl)) (pk_mul _ _) ?_
      refine lv_istore_n (lv' := [(2, .int (nI (3 * cl))), (1, .int (nI 1)), (0, .ref m0)]) hx hb dX8_clause_19 rfl hl (by decide) rfl (fun ls hl => ?_)
      refine lv_aload_n hx hb dX8_clause_20 rfl (lv_at hl 2 rfl) ?_
      refine va_get (D := D) (ci := 6) (v := .ref w4) (C := RX8) (T := TX8) (N := 15) hx hb hts (by decide +kernel) hown hK.1 hP 0 rfl rfl 8 (by decide) (hts (.fieldLink RX8 24 "HomeRoundsModel" "words" "[I") (by decide +kernel)) (fun _ h9 => h9) rfl dX8_clause_21 ?_
      refine lv_aload_n hx hb dX8_clause_24 rfl (lv_at hl 2 rfl) ?_
      refine va_get (D := D) (ci := 6) (v := .int (nI cl)) (C := RX8) (T := TX8) (N := 15) hx hb hts (by decide +kernel) hown hK.1 hP 0 rfl rfl 10 (by decide) (hts (.fieldLink RX8 132 "HomeRoundsModel" "clauses" "I") (by decide +kernel)) (fun _ h9 => h9) rfl dX8_clause_25 ?_
      refine lv_iload_n hx hb dX8_clause_28 rfl (lv_at hl 1 rfl) ?_
      refine va_iast hx hb hK.1 hP hD hS 2 0 rfl rfl (vp_in_nI (by omega) (by omega)) dX8_clause_29 (fun H locs hP hD hS => ?_)
      have hP : va_P D vwCl [(m0, .inr (6, [.ref w0, .ref w1, .ref w2, .int ik, .ref w3, .int (nI tx), .int (nI (zx_we T tx 100 hp)), .int (-1), .ref w4, .ref w5, .int (nI cl), .ref w6, .ref w7, .ref w8, .ref w9])), (w3, .inl (E 0, 100, .inl tg)), (w4, .inl (E 0, 12, .inl (upd wd (nI cl).toNatClampNeg (nI 1)))), (w5, .inl (E 0, 36, .inl nu))] H := hP
      have hD : va_D A [(m0, .inr (6, [.ref w0, .ref w1, .ref w2, .int ik, .ref w3, .int (nI tx), .int (nI (zx_we T tx 100 hp)), .int (-1), .ref w4, .ref w5, .int (nI cl), .ref w6, .ref w7, .ref w8, .ref w9])), (w3, .inl (E 0, 100, .inl tg)), (w4, .inl (E 0, 12, .inl (upd wd (nI cl).toNatClampNeg (nI 1)))), (w5, .inl (E 0, 36, .inl nu))] := hD
      have hcz : (upd wd (nI cl).toNatClampNeg (nI 1)) = (upd wd cl (nI 1)) := by rw [nI_clamp (n := cl) (by omega)]
      rw [hcz] at hP hD
      refine lv_aload_n hx hb dX8_clause_30 rfl (lv_at hl 2 rfl) ?_
      refine va_get (D := D) (ci := 6) (v := .ref w5) (C := RX8) (T := TX8) (N := 15) hx hb hts (by decide +kernel) hown hK.1 hP 0 rfl rfl 9 (by decide) (hts (.fieldLink RX8 27 "HomeRoundsModel" "numbers" "[I") (by decide +kernel)) (fun _ h9 => h9) rfl dX8_clause_31 ?_
      refine lv_iload_n hx hb dX8_clause_34 rfl (lv_at hl 0 rfl) ?_
      refine lv_aload_n hx hb dX8_clause_35 rfl (lv_at hl 2 rfl) ?_
      refine lv_iconst (v := nI 1) hx hb dX8_clause_36 (by rfl) ?_
      have hPc := hP.sub (ws' := [(m0, .inr (6, [.ref w0, .ref w1, .ref w2, .int ik, .ref w3, .int (nI tx), .int (nI (zx_we T tx 100 hp)), .int (-1), .ref w4, .ref w5, .int (nI cl), .ref w6, .ref w7, .ref w8, .ref w9])), (w3, .inl (E 0, 100, .inl tg))]) [0, 1] rfl
      have hDc := hD.sub (ws' := [(m0, .inr (6, [.ref w0, .ref w1, .ref w2, .int ik, .ref w3, .int (nI tx), .int (nI (zx_we T tx 100 hp)), .int (-1), .ref w4, .ref w5, .int (nI cl), .ref w6, .ref w7, .ref w8, .ref w9])), (w3, .inl (E 0, 100, .inl tg))]) [0, 1] (by decide +kernel) rfl
      have hAc := zw_AA (wc := [(m0, .inr (6, [.ref w0, .ref w1, .ref w2, .int ik, .ref w3, .int (nI tx), .int (nI (zx_we T tx 100 hp)), .int (-1), .ref w4, .ref w5, .int (nI cl), .ref w6, .ref w7, .ref w8, .ref w9])), (w3, .inl (E 0, 100, .inl tg))]) hD [0, 1] rfl
      refine zw_ci hAc hS (va_runV (As := [.int (nI 1)]) (rest := [.int (nI (3 * cl)), .ref w5]) ⟨hx, hb, hml, hown, hts⟩ (c_X8_number_1 l D E m0 w0 w1 w2 w3 w4 w5 w6 w7 w8 w9 ik tx cl wv (zx_we T tx 100 hp) tg T (htx) (by omega)) (cwV 1 hts gX8_clause_X8_number rfl rfl rfl (by decide +kernel) ⟨Nat.le_of_ble_eq_true rfl, Nat.le_of_ble_eq_true rfl⟩) (zw_V hK hPc hDc (ci := 6) (q0 := 0) rfl rfl) rfl rfl hl.1 rfl (lv_room (Nat.le_of_ble_eq_true rfl)) dX8_clause_37 ⟨Nat.zero_le _, Nat.zero_le _⟩) (fun r_17 u_19 H locs hw_18 hP1 hD1 hk1 hS => ?_)
      obtain ⟨hpn_20, fan_21⟩ := u_19
      try dsimp only at hw_18 hP1 hD1
      obtain ⟨hP, hD⟩ := zw_join (wr := [(w4, .inl (E 0, 12, .inl (upd wd cl (nI 1)))), (w5, .inl (E 0, 36, .inl nu))]) (w1 := [(m0, .inr (6, [.ref w0, .ref w1, .ref w2, .int ik, .ref w3, .int (nI tx), .int (nI hpn_20), .int fan_21, .ref w4, .ref w5, .int (nI cl), .ref w6, .ref w7, .ref w8, .ref w9])), (w3, .inl (E 0, 100, .inl tg))]) (ws' := [(m0, .inr (6, [.ref w0, .ref w1, .ref w2, .int ik, .ref w3, .int (nI tx), .int (nI hpn_20), .int fan_21, .ref w4, .ref w5, .int (nI cl), .ref w6, .ref w7, .ref w8, .ref w9])), (w3, .inl (E 0, 100, .inl tg)), (w4, .inl (E 0, 12, .inl (upd wd cl (nI 1)))), (w5, .inl (E 0, 36, .inl nu))]) hP hD [0, 1] [2, 3] [2, 3, 0, 1] rfl rfl (by decide +kernel) (by decide +kernel) hAc hk1 hP1 hD1 (by decide +kernel) rfl
      clear hP1 hD1 hk1 hPc hDc hAc
      have hn9 := hw_18
      obtain ⟨hle0, ⟨hfl0, hfa, hzv, hpq⟩ | ⟨f9, hf9, hfl0, hfa, hzv⟩⟩ := hn9
      · skip
        refine zr_ti (y := nI (zx_nv T tx 0 (zx_we T tx 100 hp + 1))) hzv ?_
        rw [hpq, hfa] at hP hD
        rw [hpq] at hle0
        refine va_iast hx hb hK.1 hP hD hS 3 0 rfl rfl (vp_in_nI (by omega) (by omega)) dX8_clause_40 (fun H locs hP hD hS => ?_)
        have hP : va_P D vwCl [(m0, .inr (6, [.ref w0, .ref w1, .ref w2, .int ik, .ref w3, .int (nI tx), .int (nI (zx_np T tx 0 (zx_we T tx 100 hp + 1))), .int (-1), .ref w4, .ref w5, .int (nI cl), .ref w6, .ref w7, .ref w8, .ref w9])), (w3, .inl (E 0, 100, .inl tg)), (w4, .inl (E 0, 12, .inl (upd wd cl (nI 1)))), (w5, .inl (E 0, 36, .inl (upd nu (nI (3 * cl)).toNatClampNeg (nI (zx_nv T tx 0 (zx_we T tx 100 hp + 1))))))] H := hP
        have hD : va_D A [(m0, .inr (6, [.ref w0, .ref w1, .ref w2, .int ik, .ref w3, .int (nI tx), .int (nI (zx_np T tx 0 (zx_we T tx 100 hp + 1))), .int (-1), .ref w4, .ref w5, .int (nI cl), .ref w6, .ref w7, .ref w8, .ref w9])), (w3, .inl (E 0, 100, .inl tg)), (w4, .inl (E 0, 12, .inl (upd wd cl (nI 1)))), (w5, .inl (E 0, 36, .inl (upd nu (nI (3 * cl)).toNatClampNeg (nI (zx_nv T tx 0 (zx_we T tx 100 hp + 1))))))] := hD
        have hcz : (upd nu (nI (3 * cl)).toNatClampNeg (nI (zx_nv T tx 0 (zx_we T tx 100 hp + 1)))) = (upd nu (3 * cl) (nI (zx_nv T tx 0 (zx_we T tx 100 hp + 1)))) := by rw [nI_clamp (n := 3 * cl) (by omega)]
        rw [hcz] at hP hD
        refine lv_iload_n hx hb dX8_clause_41 rfl (lv_at hl 1 rfl) ?_
        refine lv_if_eq (tgt := 79) hx hb dX8_clause_42 (by decide) (fun cn_22 => ?_) (fun cn_22 => ?_)
        · skip
          exact absurd cn_22 (by decide)
        · skip
          refine lv_iload_n hx hb dX8_clause_45 rfl (lv_at hl 1 rfl) ?_
          refine lv_bipush (v := nI 6) hx hb dX8_clause_46 (by rfl) ?_
          refine lv_icmp_eq (tgt := 79) hx hb dX8_clause_48 (by decide) (fun cn_23 => ?_) (fun cn_23 => ?_)
          · skip
            exact absurd cn_23 (by decide)
          · skip
            refine lv_aload_n hx hb dX8_clause_51 rfl (lv_at hl 2 rfl) ?_
            refine va_get (D := D) (ci := 6) (v := .ref w5) (C := RX8) (T := TX8) (N := 15) hx hb hts (by decide +kernel) hown hK.1 hP 0 rfl rfl 9 (by decide) (hts (.fieldLink RX8 27 "HomeRoundsModel" "numbers" "[I") (by decide +kernel)) (fun _ h9 => h9) rfl dX8_clause_52 ?_
            refine lv_iload_n hx hb dX8_clause_55 rfl (lv_at hl 0 rfl) ?_
            refine lv_iconst (v := nI 1) hx hb dX8_clause_56 (by rfl) ?_
            refine lv_iadd hx hb dX8_clause_57 ?_
            refine zr_ti (y := nI ((3 * cl) + 1)) (nI_add _ _) ?_
            refine lv_aload_n hx hb dX8_clause_58 rfl (lv_at hl 2 rfl) ?_
            refine lv_iload_n hx hb dX8_clause_59 rfl (lv_at hl 1 rfl) ?_
            refine lv_iconst (v := nI 5) hx hb dX8_clause_60 (by rfl) ?_
            refine lv_icmp_eq (tgt := 70) hx hb dX8_clause_61 (by decide) (fun cn_24 => ?_) (fun cn_24 => ?_)
            · skip
              exact absurd cn_24 (by decide)
            · skip
              refine lv_iload_n hx hb dX8_clause_64 rfl (lv_at hl 1 rfl) ?_
              refine lv_bipush (v := nI 7) hx hb dX8_clause_65 (by rfl) ?_
              refine lv_icmp_ne (tgt := 74) hx hb dX8_clause_67 (by decide) (fun cn_25 => ?_) (fun cn_25 => ?_)
              · skip
                refine lv_iconst (v := nI 1) hx hb dX8_clause_74 (by rfl) ?_
                have hPc := hP.sub (ws' := [(m0, .inr (6, [.ref w0, .ref w1, .ref w2, .int ik, .ref w3, .int (nI tx), .int (nI (zx_np T tx 0 (zx_we T tx 100 hp + 1))), .int (-1), .ref w4, .ref w5, .int (nI cl), .ref w6, .ref w7, .ref w8, .ref w9])), (w3, .inl (E 0, 100, .inl tg))]) [0, 1] rfl
                have hDc := hD.sub (ws' := [(m0, .inr (6, [.ref w0, .ref w1, .ref w2, .int ik, .ref w3, .int (nI tx), .int (nI (zx_np T tx 0 (zx_we T tx 100 hp + 1))), .int (-1), .ref w4, .ref w5, .int (nI cl), .ref w6, .ref w7, .ref w8, .ref w9])), (w3, .inl (E 0, 100, .inl tg))]) [0, 1] (by decide +kernel) rfl
                have hAc := zw_AA (wc := [(m0, .inr (6, [.ref w0, .ref w1, .ref w2, .int ik, .ref w3, .int (nI tx), .int (nI (zx_np T tx 0 (zx_we T tx 100 hp + 1))), .int (-1), .ref w4, .ref w5, .int (nI cl), .ref w6, .ref w7, .ref w8, .ref w9])), (w3, .inl (E 0, 100, .inl tg))]) hD [0, 1] rfl
                refine zw_ci hAc hS (va_runV (As := [.int (nI 1)]) (rest := [.int (nI ((3 * cl) + 1)), .ref w5]) ⟨hx, hb, hml, hown, hts⟩ (c_X8_number_1 l D E m0 w0 w1 w2 w3 w4 w5 w6 w7 w8 w9 ik tx cl wv (zx_np T tx 0 (zx_we T tx 100 hp + 1)) tg T (htx) (by omega)) (cwV 1 hts gX8_clause_X8_number rfl rfl rfl (by decide +kernel) ⟨Nat.le_of_ble_eq_true rfl, Nat.le_of_ble_eq_true rfl⟩) (zw_V hK hPc hDc (ci := 6) (q0 := 0) rfl rfl) rfl rfl hl.1 rfl (lv_room (Nat.le_of_ble_eq_true rfl)) dX8_clause_75 ⟨Nat.zero_le _, Nat.zero_le _⟩) (fun r_26 u_28 H locs hw_27 hP1 hD1 hk1 hS => ?_)
                obtain ⟨hpn_29, fan_30⟩ := u_28
                try dsimp only at hw_27 hP1 hD1
                obtain ⟨hP, hD⟩ := zw_join (wr := [(w4, .inl (E 0, 12, .inl (upd wd cl (nI 1)))), (w5, .inl (E 0, 36, .inl (upd nu (3 * cl) (nI (zx_nv T tx 0 (zx_we T tx 100 hp + 1))))))]) (w1 := [(m0, .inr (6, [.ref w0, .ref w1, .ref w2, .int ik, .ref w3, .int (nI tx), .int (nI hpn_29), .int fan_30, .ref w4, .ref w5, .int (nI cl), .ref w6, .ref w7, .ref w8, .ref w9])), (w3, .inl (E 0, 100, .inl tg))]) (ws' := [(m0, .inr (6, [.ref w0, .ref w1, .ref w2, .int ik, .ref w3, .int (nI tx), .int (nI hpn_29), .int fan_30, .ref w4, .ref w5, .int (nI cl), .ref w6, .ref w7, .ref w8, .ref w9])), (w3, .inl (E 0, 100, .inl tg)), (w4, .inl (E 0, 12, .inl (upd wd cl (nI 1)))), (w5, .inl (E 0, 36, .inl (upd nu (3 * cl) (nI (zx_nv T tx 0 (zx_we T tx 100 hp + 1))))))]) hP hD [0, 1] [2, 3] [2, 3, 0, 1] rfl rfl (by decide +kernel) (by decide +kernel) hAc hk1 hP1 hD1 (by decide +kernel) rfl
                clear hP1 hD1 hk1 hPc hDc hAc
                have hn9 := hw_27
                obtain ⟨hle1, ⟨hfl1, hfa, hzv, hpq⟩ | ⟨f9, hf9, hfl1, hfa, hzv⟩⟩ := hn9
                · skip
                  refine zr_ti (y := nI (zx_nv T tx 0 ((zx_np T tx 0 (zx_we T tx 100 hp + 1)) + 1))) hzv ?_
                  rw [hpq, hfa] at hP hD
                  rw [hpq] at hle1
                  refine va_iast hx hb hK.1 hP hD hS 3 0 rfl rfl (vp_in_nI (by omega) (by omega)) dX8_clause_78 (fun H locs hP hD hS => ?_)
                  have hP : va_P D vwCl [(m0, .inr (6, [.ref w0, .ref w1, .ref w2, .int ik, .ref w3, .int (nI tx), .int (nI (zx_np T tx 0 ((zx_np T tx 0 (zx_we T tx 100 hp + 1)) + 1))), .int (-1), .ref w4, .ref w5, .int (nI cl), .ref w6, .ref w7, .ref w8, .ref w9])), (w3, .inl (E 0, 100, .inl tg)), (w4, .inl (E 0, 12, .inl (upd wd cl (nI 1)))), (w5, .inl (E 0, 36, .inl (upd (upd nu (3 * cl) (nI (zx_nv T tx 0 (zx_we T tx 100 hp + 1)))) (nI ((3 * cl) + 1)).toNatClampNeg (nI (zx_nv T tx 0 ((zx_np T tx 0 (zx_we T tx 100 hp + 1)) + 1))))))] H := hP
                  have hD : va_D A [(m0, .inr (6, [.ref w0, .ref w1, .ref w2, .int ik, .ref w3, .int (nI tx), .int (nI (zx_np T tx 0 ((zx_np T tx 0 (zx_we T tx 100 hp + 1)) + 1))), .int (-1), .ref w4, .ref w5, .int (nI cl), .ref w6, .ref w7, .ref w8, .ref w9])), (w3, .inl (E 0, 100, .inl tg)), (w4, .inl (E 0, 12, .inl (upd wd cl (nI 1)))), (w5, .inl (E 0, 36, .inl (upd (upd nu (3 * cl) (nI (zx_nv T tx 0 (zx_we T tx 100 hp + 1)))) (nI ((3 * cl) + 1)).toNatClampNeg (nI (zx_nv T tx 0 ((zx_np T tx 0 (zx_we T tx 100 hp + 1)) + 1))))))] := hD
                  have hcz : (upd (upd nu (3 * cl) (nI (zx_nv T tx 0 (zx_we T tx 100 hp + 1)))) (nI ((3 * cl) + 1)).toNatClampNeg (nI (zx_nv T tx 0 ((zx_np T tx 0 (zx_we T tx 100 hp + 1)) + 1)))) = (upd (upd nu (3 * cl) (nI (zx_nv T tx 0 (zx_we T tx 100 hp + 1)))) ((3 * cl) + 1) (nI (zx_nv T tx 0 ((zx_np T tx 0 (zx_we T tx 100 hp + 1)) + 1)))) := by rw [nI_clamp (n := (3 * cl) + 1) (by omega)]
                  rw [hcz] at hP hD
                  refine lv_iload_n hx hb dX8_clause_79 rfl (lv_at hl 1 rfl) ?_
                  refine lv_bipush (v := nI 7) hx hb dX8_clause_80 (by rfl) ?_
                  refine lv_icmp_ne (tgt := 98) hx hb dX8_clause_82 (by decide) (fun cn_31 => ?_) (fun cn_31 => ?_)
                  · skip
                    refine lv_aload_n hx hb dX8_clause_98 rfl (lv_at hl 2 rfl) ?_
                    refine lv_dup hx hb dX8_clause_99 rfl ?_
                    refine va_get (D := D) (ci := 6) (v := .int (nI cl)) (C := RX8) (T := TX8) (N := 15) hx hb hts (by decide +kernel) hown hK.1 hP 0 rfl rfl 10 (by decide) (hts (.fieldLink RX8 132 "HomeRoundsModel" "clauses" "I") (by decide +kernel)) (fun _ h9 => h9) rfl dX8_clause_100 ?_
                    refine lv_iconst (v := nI 1) hx hb dX8_clause_103 (by rfl) ?_
                    refine lv_iadd hx hb dX8_clause_104 ?_
                    refine zr_ti (y := nI (cl + 1)) (nI_add _ _) ?_
                    refine va_put (D := D) (ci := 6) (v := .int (nI (cl + 1))) (ty := .int) (C := RX8) (T := TX8) (N := 15) hx hb hts (by decide +kernel) tyX8 tyX8_ok nmX8 hown hK.1 hP hD hS 0 rfl rfl 10 (by decide) (hts (.fieldLink RX8 132 "HomeRoundsModel" "clauses" "I") (by decide +kernel)) (fun _ h9 => h9) rfl (by decide +kernel) rfl rfl (Nat.le_of_ble_eq_true rfl) dX8_clause_105 (fun H locs hP hD hS => ?_)
                    have hP : va_P D vwCl [(m0, .inr (6, [.ref w0, .ref w1, .ref w2, .int ik, .ref w3, .int (nI tx), .int (nI (zx_np T tx 0 ((zx_np T tx 0 (zx_we T tx 100 hp + 1)) + 1))), .int (-1), .ref w4, .ref w5, .int (nI (cl + 1)), .ref w6, .ref w7, .ref w8, .ref w9])), (w3, .inl (E 0, 100, .inl tg)), (w4, .inl (E 0, 12, .inl (upd wd cl (nI 1)))), (w5, .inl (E 0, 36, .inl (upd (upd nu (3 * cl) (nI (zx_nv T tx 0 (zx_we T tx 100 hp + 1)))) ((3 * cl) + 1) (nI (zx_nv T tx 0 ((zx_np T tx 0 (zx_we T tx 100 hp + 1)) + 1))))))] H := hP
                    have hD : va_D A [(m0, .inr (6, [.ref w0, .ref w1, .ref w2, .int ik, .ref w3, .int (nI tx), .int (nI (zx_np T tx 0 ((zx_np T tx 0 (zx_we T tx 100 hp + 1)) + 1))), .int (-1), .ref w4, .ref w5, .int (nI (cl + 1)), .ref w6, .ref w7, .ref w8, .ref w9])), (w3, .inl (E 0, 100, .inl tg)), (w4, .inl (E 0, 12, .inl (upd wd cl (nI 1)))), (w5, .inl (E 0, 36, .inl (upd (upd nu (3 * cl) (nI (zx_nv T tx 0 (zx_we T tx 100 hp + 1)))) ((3 * cl) + 1) (nI (zx_nv T tx 0 ((zx_np T tx 0 (zx_we T tx 100 hp + 1)) + 1))))))] := hD
                    subst hQ; subst hAe
                    exact W.vret hx hb hr (fun tz htz hWz => ⟨⟨(zx_np T tx 0 ((zx_np T tx 0 (zx_we T tx 100 hp + 1)) + 1), (-1), cl + 1, (upd wd cl (nI 1)), (upd (upd nu (3 * cl) (nI (zx_nv T tx 0 (zx_we T tx 100 hp + 1)))) ((3 * cl) + 1) (nI (zx_nv T tx 0 ((zx_np T tx 0 (zx_we T tx 100 hp + 1)) + 1))))), rfl, ⟨by rw [hcF.trans ((zx_fl_cn hfl0).trans (zx_fl_cn hfl1))]; rfl, fun q => ⟨by unfold zx_cP; rw [hcw]; rfl, rfl, zx_mput_g hcw (by decide) rfl (fun j hj => by show upd _ _ _ _ = _; unfold upd; rw [if_neg (by omega), if_neg (by omega)]) (fun j hj => by
    have h9 : j = 0 ∨ j = 1 := (by have : j < 2 := hj; omega)
    rcases h9 with rfl | rfl; (show upd _ _ _ _ = _; unfold upd; rw [if_neg (by omega), if_pos (by omega)]; rfl); (show upd _ _ _ _ = _; unfold upd; rw [if_pos (by omega)]; rfl))⟩⟩, by rw [htz]; exact hP, hD⟩, hS.F htz⟩) hS.2.2 dX8_clause_108
                  · skip
                    exact absurd cn_31 (by decide)
                · skip
                  refine zr_ti (y := nI 0) hzv ?_
                  rw [hfa] at hP hD
                  refine va_iast hx hb hK.1 hP hD hS 3 0 rfl rfl (vp_in_nI (by omega) (by omega)) dX8_clause_78 (fun H locs hP hD hS => ?_)
                  have hP : va_P D vwCl [(m0, .inr (6, [.ref w0, .ref w1, .ref w2, .int ik, .ref w3, .int (nI tx), .int (nI hpn_29), .int (nI f9), .ref w4, .ref w5, .int (nI cl), .ref w6, .ref w7, .ref w8, .ref w9])), (w3, .inl (E 0, 100, .inl tg)), (w4, .inl (E 0, 12, .inl (upd wd cl (nI 1)))), (w5, .inl (E 0, 36, .inl (upd (upd nu (3 * cl) (nI (zx_nv T tx 0 (zx_we T tx 100 hp + 1)))) (nI ((3 * cl) + 1)).toNatClampNeg (nI 0))))] H := hP
                  have hD : va_D A [(m0, .inr (6, [.ref w0, .ref w1, .ref w2, .int ik, .ref w3, .int (nI tx), .int (nI hpn_29), .int (nI f9), .ref w4, .ref w5, .int (nI cl), .ref w6, .ref w7, .ref w8, .ref w9])), (w3, .inl (E 0, 100, .inl tg)), (w4, .inl (E 0, 12, .inl (upd wd cl (nI 1)))), (w5, .inl (E 0, 36, .inl (upd (upd nu (3 * cl) (nI (zx_nv T tx 0 (zx_we T tx 100 hp + 1)))) (nI ((3 * cl) + 1)).toNatClampNeg (nI 0))))] := hD
                  have hcz : (upd (upd nu (3 * cl) (nI (zx_nv T tx 0 (zx_we T tx 100 hp + 1)))) (nI ((3 * cl) + 1)).toNatClampNeg (nI 0)) = (upd (upd nu (3 * cl) (nI (zx_nv T tx 0 (zx_we T tx 100 hp + 1)))) ((3 * cl) + 1) (nI 0)) := by rw [nI_clamp (n := (3 * cl) + 1) (by omega)]
                  rw [hcz] at hP hD
                  refine lv_iload_n hx hb dX8_clause_79 rfl (lv_at hl 1 rfl) ?_
                  refine lv_bipush (v := nI 7) hx hb dX8_clause_80 (by rfl) ?_
                  refine lv_icmp_ne (tgt := 98) hx hb dX8_clause_82 (by decide) (fun cn_32 => ?_) (fun cn_32 => ?_)
                  · skip
                    refine lv_aload_n hx hb dX8_clause_98 rfl (lv_at hl 2 rfl) ?_
                    refine lv_dup hx hb dX8_clause_99 rfl ?_
                    refine va_get (D := D) (ci := 6) (v := .int (nI cl)) (C := RX8) (T := TX8) (N := 15) hx hb hts (by decide +kernel) hown hK.1 hP 0 rfl rfl 10 (by decide) (hts (.fieldLink RX8 132 "HomeRoundsModel" "clauses" "I") (by decide +kernel)) (fun _ h9 => h9) rfl dX8_clause_100 ?_
                    refine lv_iconst (v := nI 1) hx hb dX8_clause_103 (by rfl) ?_
                    refine lv_iadd hx hb dX8_clause_104 ?_
                    refine zr_ti (y := nI (cl + 1)) (nI_add _ _) ?_
                    refine va_put (D := D) (ci := 6) (v := .int (nI (cl + 1))) (ty := .int) (C := RX8) (T := TX8) (N := 15) hx hb hts (by decide +kernel) tyX8 tyX8_ok nmX8 hown hK.1 hP hD hS 0 rfl rfl 10 (by decide) (hts (.fieldLink RX8 132 "HomeRoundsModel" "clauses" "I") (by decide +kernel)) (fun _ h9 => h9) rfl (by decide +kernel) rfl rfl (Nat.le_of_ble_eq_true rfl) dX8_clause_105 (fun H locs hP hD hS => ?_)
                    have hP : va_P D vwCl [(m0, .inr (6, [.ref w0, .ref w1, .ref w2, .int ik, .ref w3, .int (nI tx), .int (nI hpn_29), .int (nI f9), .ref w4, .ref w5, .int (nI (cl + 1)), .ref w6, .ref w7, .ref w8, .ref w9])), (w3, .inl (E 0, 100, .inl tg)), (w4, .inl (E 0, 12, .inl (upd wd cl (nI 1)))), (w5, .inl (E 0, 36, .inl (upd (upd nu (3 * cl) (nI (zx_nv T tx 0 (zx_we T tx 100 hp + 1)))) ((3 * cl) + 1) (nI 0))))] H := hP
                    have hD : va_D A [(m0, .inr (6, [.ref w0, .ref w1, .ref w2, .int ik, .ref w3, .int (nI tx), .int (nI hpn_29), .int (nI f9), .ref w4, .ref w5, .int (nI (cl + 1)), .ref w6, .ref w7, .ref w8, .ref w9])), (w3, .inl (E 0, 100, .inl tg)), (w4, .inl (E 0, 12, .inl (upd wd cl (nI 1)))), (w5, .inl (E 0, 36, .inl (upd (upd nu (3 * cl) (nI (zx_nv T tx 0 (zx_we T tx 100 hp + 1)))) ((3 * cl) + 1) (nI 0))))] := hD
                    subst hQ; subst hAe
                    exact W.vret hx hb hr (fun tz htz hWz => ⟨⟨(hpn_29, nI f9, cl + 1, (upd wd cl (nI 1)), (upd (upd nu (3 * cl) (nI (zx_nv T tx 0 (zx_we T tx 100 hp + 1)))) ((3 * cl) + 1) (nI 0))), rfl, ⟨by rw [hcF.trans ((zx_fl_cn hfl0).trans (zx_fl_cs hfl1))]; rfl, fun q => by rw [hcF.trans ((zx_fl_cn hfl0).trans (zx_fl_cs hfl1))] at q; cases q⟩, by rw [htz]; exact hP, hD⟩, hS.F htz⟩) hS.2.2 dX8_clause_108
                  · skip
                    exact absurd cn_32 (by decide)
              · skip
                exact absurd cn_25 (by decide)
      · skip
        refine zr_ti (y := nI 0) hzv ?_
        rw [hfa] at hP hD
        refine va_iast hx hb hK.1 hP hD hS 3 0 rfl rfl (vp_in_nI (by omega) (by omega)) dX8_clause_40 (fun H locs hP hD hS => ?_)
        have hP : va_P D vwCl [(m0, .inr (6, [.ref w0, .ref w1, .ref w2, .int ik, .ref w3, .int (nI tx), .int (nI hpn_20), .int (nI f9), .ref w4, .ref w5, .int (nI cl), .ref w6, .ref w7, .ref w8, .ref w9])), (w3, .inl (E 0, 100, .inl tg)), (w4, .inl (E 0, 12, .inl (upd wd cl (nI 1)))), (w5, .inl (E 0, 36, .inl (upd nu (nI (3 * cl)).toNatClampNeg (nI 0))))] H := hP
        have hD : va_D A [(m0, .inr (6, [.ref w0, .ref w1, .ref w2, .int ik, .ref w3, .int (nI tx), .int (nI hpn_20), .int (nI f9), .ref w4, .ref w5, .int (nI cl), .ref w6, .ref w7, .ref w8, .ref w9])), (w3, .inl (E 0, 100, .inl tg)), (w4, .inl (E 0, 12, .inl (upd wd cl (nI 1)))), (w5, .inl (E 0, 36, .inl (upd nu (nI (3 * cl)).toNatClampNeg (nI 0))))] := hD
        have hcz : (upd nu (nI (3 * cl)).toNatClampNeg (nI 0)) = (upd nu (3 * cl) (nI 0)) := by rw [nI_clamp (n := 3 * cl) (by omega)]
        rw [hcz] at hP hD
        refine lv_iload_n hx hb dX8_clause_41 rfl (lv_at hl 1 rfl) ?_
        refine lv_if_eq (tgt := 79) hx hb dX8_clause_42 (by decide) (fun cn_33 => ?_) (fun cn_33 => ?_)
        · skip
          exact absurd cn_33 (by decide)
        · skip
          refine lv_iload_n hx hb dX8_clause_45 rfl (lv_at hl 1 rfl) ?_
          refine lv_bipush (v := nI 6) hx hb dX8_clause_46 (by rfl) ?_
          refine lv_icmp_eq (tgt := 79) hx hb dX8_clause_48 (by decide) (fun cn_34 => ?_) (fun cn_34 => ?_)
          · skip
            exact absurd cn_34 (by decide)
          · skip
            refine lv_aload_n hx hb dX8_clause_51 rfl (lv_at hl 2 rfl) ?_
            refine va_get (D := D) (ci := 6) (v := .ref w5) (C := RX8) (T := TX8) (N := 15) hx hb hts (by decide +kernel) hown hK.1 hP 0 rfl rfl 9 (by decide) (hts (.fieldLink RX8 27 "HomeRoundsModel" "numbers" "[I") (by decide +kernel)) (fun _ h9 => h9) rfl dX8_clause_52 ?_
            refine lv_iload_n hx hb dX8_clause_55 rfl (lv_at hl 0 rfl) ?_
            refine lv_iconst (v := nI 1) hx hb dX8_clause_56 (by rfl) ?_
            refine lv_iadd hx hb dX8_clause_57 ?_
            refine zr_ti (y := nI ((3 * cl) + 1)) (nI_add _ _) ?_
            refine lv_aload_n hx hb dX8_clause_58 rfl (lv_at hl 2 rfl) ?_
            refine lv_iload_n hx hb dX8_clause_59 rfl (lv_at hl 1 rfl) ?_
            refine lv_iconst (v := nI 5) hx hb dX8_clause_60 (by rfl) ?_
            refine lv_icmp_eq (tgt := 70) hx hb dX8_clause_61 (by decide) (fun cn_35 => ?_) (fun cn_35 => ?_)
            · skip
              exact absurd cn_35 (by decide)
            · skip
              refine lv_iload_n hx hb dX8_clause_64 rfl (lv_at hl 1 rfl) ?_
              refine lv_bipush (v := nI 7) hx hb dX8_clause_65 (by rfl) ?_
              refine lv_icmp_ne (tgt := 74) hx hb dX8_clause_67 (by decide) (fun cn_36 => ?_) (fun cn_36 => ?_)
              · skip
                refine lv_iconst (v := nI 1) hx hb dX8_clause_74 (by rfl) ?_
                have hPc := hP.sub (ws' := [(m0, .inr (6, [.ref w0, .ref w1, .ref w2, .int ik, .ref w3, .int (nI tx), .int (nI hpn_20), .int (nI f9), .ref w4, .ref w5, .int (nI cl), .ref w6, .ref w7, .ref w8, .ref w9])), (w3, .inl (E 0, 100, .inl tg))]) [0, 1] rfl
                have hDc := hD.sub (ws' := [(m0, .inr (6, [.ref w0, .ref w1, .ref w2, .int ik, .ref w3, .int (nI tx), .int (nI hpn_20), .int (nI f9), .ref w4, .ref w5, .int (nI cl), .ref w6, .ref w7, .ref w8, .ref w9])), (w3, .inl (E 0, 100, .inl tg))]) [0, 1] (by decide +kernel) rfl
                have hAc := zw_AA (wc := [(m0, .inr (6, [.ref w0, .ref w1, .ref w2, .int ik, .ref w3, .int (nI tx), .int (nI hpn_20), .int (nI f9), .ref w4, .ref w5, .int (nI cl), .ref w6, .ref w7, .ref w8, .ref w9])), (w3, .inl (E 0, 100, .inl tg))]) hD [0, 1] rfl
                refine zw_ci hAc hS (va_runV (As := [.int (nI 1)]) (rest := [.int (nI ((3 * cl) + 1)), .ref w5]) ⟨hx, hb, hml, hown, hts⟩ (c_X8_number_f l D E m0 w0 w1 w2 w3 w4 w5 w6 w7 w8 w9 ik tx cl wv hpn_20 tg T 1 f9 (htx) (by omega) (by omega)) (cwV 1 hts gX8_clause_X8_number rfl rfl rfl (by decide +kernel) ⟨Nat.le_of_ble_eq_true rfl, Nat.le_of_ble_eq_true rfl⟩) (zw_V hK hPc hDc (ci := 6) (q0 := 0) rfl rfl) rfl rfl hl.1 rfl (lv_room (Nat.le_of_ble_eq_true rfl)) dX8_clause_75 ⟨Nat.zero_le _, Nat.zero_le _⟩) (fun r_37 u_39 H locs hw_38 hP1 hD1 hk1 hS => ?_)
                obtain ⟨hP, hD⟩ := zw_join (wr := [(w4, .inl (E 0, 12, .inl (upd wd cl (nI 1)))), (w5, .inl (E 0, 36, .inl (upd nu (3 * cl) (nI 0))))]) (w1 := [(m0, .inr (6, [.ref w0, .ref w1, .ref w2, .int ik, .ref w3, .int (nI tx), .int (nI hpn_20), .int (nI f9), .ref w4, .ref w5, .int (nI cl), .ref w6, .ref w7, .ref w8, .ref w9])), (w3, .inl (E 0, 100, .inl tg))]) (ws' := [(m0, .inr (6, [.ref w0, .ref w1, .ref w2, .int ik, .ref w3, .int (nI tx), .int (nI hpn_20), .int (nI f9), .ref w4, .ref w5, .int (nI cl), .ref w6, .ref w7, .ref w8, .ref w9])), (w3, .inl (E 0, 100, .inl tg)), (w4, .inl (E 0, 12, .inl (upd wd cl (nI 1)))), (w5, .inl (E 0, 36, .inl (upd nu (3 * cl) (nI 0))))]) hP hD [0, 1] [2, 3] [2, 3, 0, 1] rfl rfl (by decide +kernel) (by decide +kernel) hAc hk1 hP1 hD1 (by decide +kernel) rfl
                clear hP1 hD1 hk1 hPc hDc hAc
                obtain ⟨rfl, hw_38⟩ := hw_38
                refine va_iast hx hb hK.1 hP hD hS 3 0 rfl rfl (vp_in_nI (by omega) (by omega)) dX8_clause_78 (fun H locs hP hD hS => ?_)
                have hP : va_P D vwCl [(m0, .inr (6, [.ref w0, .ref w1, .ref w2, .int ik, .ref w3, .int (nI tx), .int (nI hpn_20), .int (nI f9), .ref w4, .ref w5, .int (nI cl), .ref w6, .ref w7, .ref w8, .ref w9])), (w3, .inl (E 0, 100, .inl tg)), (w4, .inl (E 0, 12, .inl (upd wd cl (nI 1)))), (w5, .inl (E 0, 36, .inl (upd (upd nu (3 * cl) (nI 0)) (nI ((3 * cl) + 1)).toNatClampNeg (nI 0))))] H := hP
                have hD : va_D A [(m0, .inr (6, [.ref w0, .ref w1, .ref w2, .int ik, .ref w3, .int (nI tx), .int (nI hpn_20), .int (nI f9), .ref w4, .ref w5, .int (nI cl), .ref w6, .ref w7, .ref w8, .ref w9])), (w3, .inl (E 0, 100, .inl tg)), (w4, .inl (E 0, 12, .inl (upd wd cl (nI 1)))), (w5, .inl (E 0, 36, .inl (upd (upd nu (3 * cl) (nI 0)) (nI ((3 * cl) + 1)).toNatClampNeg (nI 0))))] := hD
                have hcz : (upd (upd nu (3 * cl) (nI 0)) (nI ((3 * cl) + 1)).toNatClampNeg (nI 0)) = (upd (upd nu (3 * cl) (nI 0)) ((3 * cl) + 1) (nI 0)) := by rw [nI_clamp (n := (3 * cl) + 1) (by omega)]
                rw [hcz] at hP hD
                refine lv_iload_n hx hb dX8_clause_79 rfl (lv_at hl 1 rfl) ?_
                refine lv_bipush (v := nI 7) hx hb dX8_clause_80 (by rfl) ?_
                refine lv_icmp_ne (tgt := 98) hx hb dX8_clause_82 (by decide) (fun cn_40 => ?_) (fun cn_40 => ?_)
                · skip
                  refine lv_aload_n hx hb dX8_clause_98 rfl (lv_at hl 2 rfl) ?_
                  refine lv_dup hx hb dX8_clause_99 rfl ?_
                  refine va_get (D := D) (ci := 6) (v := .int (nI cl)) (C := RX8) (T := TX8) (N := 15) hx hb hts (by decide +kernel) hown hK.1 hP 0 rfl rfl 10 (by decide) (hts (.fieldLink RX8 132 "HomeRoundsModel" "clauses" "I") (by decide +kernel)) (fun _ h9 => h9) rfl dX8_clause_100 ?_
                  refine lv_iconst (v := nI 1) hx hb dX8_clause_103 (by rfl) ?_
                  refine lv_iadd hx hb dX8_clause_104 ?_
                  refine zr_ti (y := nI (cl + 1)) (nI_add _ _) ?_
                  refine va_put (D := D) (ci := 6) (v := .int (nI (cl + 1))) (ty := .int) (C := RX8) (T := TX8) (N := 15) hx hb hts (by decide +kernel) tyX8 tyX8_ok nmX8 hown hK.1 hP hD hS 0 rfl rfl 10 (by decide) (hts (.fieldLink RX8 132 "HomeRoundsModel" "clauses" "I") (by decide +kernel)) (fun _ h9 => h9) rfl (by decide +kernel) rfl rfl (Nat.le_of_ble_eq_true rfl) dX8_clause_105 (fun H locs hP hD hS => ?_)
                  have hP : va_P D vwCl [(m0, .inr (6, [.ref w0, .ref w1, .ref w2, .int ik, .ref w3, .int (nI tx), .int (nI hpn_20), .int (nI f9), .ref w4, .ref w5, .int (nI (cl + 1)), .ref w6, .ref w7, .ref w8, .ref w9])), (w3, .inl (E 0, 100, .inl tg)), (w4, .inl (E 0, 12, .inl (upd wd cl (nI 1)))), (w5, .inl (E 0, 36, .inl (upd (upd nu (3 * cl) (nI 0)) ((3 * cl) + 1) (nI 0))))] H := hP
                  have hD : va_D A [(m0, .inr (6, [.ref w0, .ref w1, .ref w2, .int ik, .ref w3, .int (nI tx), .int (nI hpn_20), .int (nI f9), .ref w4, .ref w5, .int (nI (cl + 1)), .ref w6, .ref w7, .ref w8, .ref w9])), (w3, .inl (E 0, 100, .inl tg)), (w4, .inl (E 0, 12, .inl (upd wd cl (nI 1)))), (w5, .inl (E 0, 36, .inl (upd (upd nu (3 * cl) (nI 0)) ((3 * cl) + 1) (nI 0))))] := hD
                  subst hQ; subst hAe
                  exact W.vret hx hb hr (fun tz htz hWz => ⟨⟨(hpn_20, nI f9, cl + 1, (upd wd cl (nI 1)), (upd (upd nu (3 * cl) (nI 0)) ((3 * cl) + 1) (nI 0))), rfl, ⟨by rw [hcF.trans (zx_fl_cs hfl0)]; rfl, fun q => by rw [hcF.trans (zx_fl_cs hfl0)] at q; cases q⟩, by rw [htz]; exact hP, hD⟩, hS.F htz⟩) hS.2.2 dX8_clause_108
                · skip
                  exact absurd cn_40 (by decide)
              · skip
                exact absurd cn_36 (by decide)
    · skip
      exact absurd cn_16 (by decide)
  · skip
    refine zr_ti (y := nI 2) (hwz.trans (by rw [hcw]; rfl)) ?_
    rw [hpe, hfa, hcw, if_pos (by decide)] at hP hD
    have hcF : zx_cF T tx hp = zx_fl T tx [0, 0] (zx_we T tx 100 hp) := by unfold zx_cF; rw [hcw, if_neg (by decide)]; rfl
    have hle2 := zx_we_le (T := T) (L := tx) 100 hp hpt8
    refine lv_istore_n (lv' := [(1, .int (nI 2)), (0, .ref m0)]) hx hb dX8_clause_4 rfl hl (by decide) rfl (fun ls hl => ?_)
    refine lv_aload_n hx hb dX8_clause_5 rfl (lv_at hl 1 rfl) ?_
    refine va_get (D := D) (ci := 6) (v := .int (-1)) (C := RX8) (T := TX8) (N := 15) hx hb hts (by decide +kernel) hown hK.1 hP 0 rfl rfl 7 (by decide) (hts (.fieldLink RX8 106 "HomeRoundsModel" "fault" "I") (by decide +kernel)) (fun _ h9 => h9) rfl dX8_clause_6 ?_
    refine lv_if_lt (tgt := 13) hx hb dX8_clause_9 (by decide) (fun cn_41 => ?_) (fun cn_41 => ?_)
    · skip
      refine lv_iconst (v := nI 3) hx hb dX8_clause_13 (by rfl) ?_
      refine lv_aload_n hx hb dX8_clause_14 rfl (lv_at hl 1 rfl) ?_
      refine va_get (D := D) (ci := 6) (v := .int (nI cl)) (C := RX8) (T := TX8) (N := 15) hx hb hts (by decide +kernel) hown hK.1 hP 0 rfl rfl 10 (by decide) (hts (.fieldLink RX8 132 "HomeRoundsModel" "clauses" "I") (by decide +kernel)) (fun _ h9 => h9) rfl dX8_clause_15 ?_
      refine lv_imul hx hb dX8_clause_18 ?_
      refine zr_ti (y := nI (3 * cl)) (pk_mul _ _) ?_
      refine lv_istore_n (lv' := [(2, .int (nI (3 * cl))), (1, .int (nI 2)), (0, .ref m0)]) hx hb dX8_clause_19 rfl hl (by decide) rfl (fun ls hl => ?_)
      refine lv_aload_n hx hb dX8_clause_20 rfl (lv_at hl 2 rfl) ?_
      refine va_get (D := D) (ci := 6) (v := .ref w4) (C := RX8) (T := TX8) (N := 15) hx hb hts (by decide +kernel) hown hK.1 hP 0 rfl rfl 8 (by decide) (hts (.fieldLink RX8 24 "HomeRoundsModel" "words" "[I") (by decide +kernel)) (fun _ h9 => h9) rfl dX8_clause_21 ?_
      refine lv_aload_n hx hb dX8_clause_24 rfl (lv_at hl 2 rfl) ?_
      refine va_get (D := D) (ci := 6) (v := .int (nI cl)) (C := RX8) (T := TX8) (N := 15) hx hb hts (by decide +kernel) hown hK.1 hP 0 rfl rfl 10 (by decide) (hts (.fieldLink RX8 132 "HomeRoundsModel" "clauses" "I") (by decide +kernel)) (fun _ h9 => h9) rfl dX8_clause_25 ?_
      refine lv_iload_n hx hb dX8_clause_28 rfl (lv_at hl 1 rfl) ?_
      refine va_iast hx hb hK.1 hP hD hS 2 0 rfl rfl (vp_in_nI (by omega) (by omega)) dX8_clause_29 (fun H locs hP hD hS => ?_)
      have hP : va_P D vwCl [(m0, .inr (6, [.ref w0, .ref w1, .ref w2, .int ik, .ref w3, .int (nI tx), .int (nI (zx_we T tx 100 hp)), .int (-1), .ref w4, .ref w5, .int (nI cl), .ref w6, .ref w7, .ref w8, .ref w9])), (w3, .inl (E 0, 100, .inl tg)), (w4, .inl (E 0, 12, .inl (upd wd (nI cl).toNatClampNeg (nI 2)))), (w5, .inl (E 0, 36, .inl nu))] H := hP
      have hD : va_D A [(m0, .inr (6, [.ref w0, .ref w1, .ref w2, .int ik, .ref w3, .int (nI tx), .int (nI (zx_we T tx 100 hp)), .int (-1), .ref w4, .ref w5, .int (nI cl), .ref w6, .ref w7, .ref w8, .ref w9])), (w3, .inl (E 0, 100, .inl tg)), (w4, .inl (E 0, 12, .inl (upd wd (nI cl).toNatClampNeg (nI 2)))), (w5, .inl (E 0, 36, .inl nu))] := hD
      have hcz : (upd wd (nI cl).toNatClampNeg (nI 2)) = (upd wd cl (nI 2)) := by rw [nI_clamp (n := cl) (by omega)]
      rw [hcz] at hP hD
      refine lv_aload_n hx hb dX8_clause_30 rfl (lv_at hl 2 rfl) ?_
      refine va_get (D := D) (ci := 6) (v := .ref w5) (C := RX8) (T := TX8) (N := 15) hx hb hts (by decide +kernel) hown hK.1 hP 0 rfl rfl 9 (by decide) (hts (.fieldLink RX8 27 "HomeRoundsModel" "numbers" "[I") (by decide +kernel)) (fun _ h9 => h9) rfl dX8_clause_31 ?_
      refine lv_iload_n hx hb dX8_clause_34 rfl (lv_at hl 0 rfl) ?_
      refine lv_aload_n hx hb dX8_clause_35 rfl (lv_at hl 2 rfl) ?_
      refine lv_iconst (v := nI 1) hx hb dX8_clause_36 (by rfl) ?_
      have hPc := hP.sub (ws' := [(m0, .inr (6, [.ref w0, .ref w1, .ref w2, .int ik, .ref w3, .int (nI tx), .int (nI (zx_we T tx 100 hp)), .int (-1), .ref w4, .ref w5, .int (nI cl), .ref w6, .ref w7, .ref w8, .ref w9])), (w3, .inl (E 0, 100, .inl tg))]) [0, 1] rfl
      have hDc := hD.sub (ws' := [(m0, .inr (6, [.ref w0, .ref w1, .ref w2, .int ik, .ref w3, .int (nI tx), .int (nI (zx_we T tx 100 hp)), .int (-1), .ref w4, .ref w5, .int (nI cl), .ref w6, .ref w7, .ref w8, .ref w9])), (w3, .inl (E 0, 100, .inl tg))]) [0, 1] (by decide +kernel) rfl
      have hAc := zw_AA (wc := [(m0, .inr (6, [.ref w0, .ref w1, .ref w2, .int ik, .ref w3, .int (nI tx), .int (nI (zx_we T tx 100 hp)), .int (-1), .ref w4, .ref w5, .int (nI cl), .ref w6, .ref w7, .ref w8, .ref w9])), (w3, .inl (E 0, 100, .inl tg))]) hD [0, 1] rfl
      refine zw_ci hAc hS (va_runV (As := [.int (nI 1)]) (rest := [.int (nI (3 * cl)), .ref w5]) ⟨hx, hb, hml, hown, hts⟩ (c_X8_number_1 l D E m0 w0 w1 w2 w3 w4 w5 w6 w7 w8 w9 ik tx cl wv (zx_we T tx 100 hp) tg T (htx) (by omega)) (cwV 1 hts gX8_clause_X8_number rfl rfl rfl (by decide +kernel) ⟨Nat.le_of_ble_eq_true rfl, Nat.le_of_ble_eq_true rfl⟩) (zw_V hK hPc hDc (ci := 6) (q0 := 0) rfl rfl) rfl rfl hl.1 rfl (lv_room (Nat.le_of_ble_eq_true rfl)) dX8_clause_37 ⟨Nat.zero_le _, Nat.zero_le _⟩) (fun r_42 u_44 H locs hw_43 hP1 hD1 hk1 hS => ?_)
      obtain ⟨hpn_45, fan_46⟩ := u_44
      try dsimp only at hw_43 hP1 hD1
      obtain ⟨hP, hD⟩ := zw_join (wr := [(w4, .inl (E 0, 12, .inl (upd wd cl (nI 2)))), (w5, .inl (E 0, 36, .inl nu))]) (w1 := [(m0, .inr (6, [.ref w0, .ref w1, .ref w2, .int ik, .ref w3, .int (nI tx), .int (nI hpn_45), .int fan_46, .ref w4, .ref w5, .int (nI cl), .ref w6, .ref w7, .ref w8, .ref w9])), (w3, .inl (E 0, 100, .inl tg))]) (ws' := [(m0, .inr (6, [.ref w0, .ref w1, .ref w2, .int ik, .ref w3, .int (nI tx), .int (nI hpn_45), .int fan_46, .ref w4, .ref w5, .int (nI cl), .ref w6, .ref w7, .ref w8, .ref w9])), (w3, .inl (E 0, 100, .inl tg)), (w4, .inl (E 0, 12, .inl (upd wd cl (nI 2)))), (w5, .inl (E 0, 36, .inl nu))]) hP hD [0, 1] [2, 3] [2, 3, 0, 1] rfl rfl (by decide +kernel) (by decide +kernel) hAc hk1 hP1 hD1 (by decide +kernel) rfl
      clear hP1 hD1 hk1 hPc hDc hAc
      have hn9 := hw_43
      obtain ⟨hle0, ⟨hfl0, hfa, hzv, hpq⟩ | ⟨f9, hf9, hfl0, hfa, hzv⟩⟩ := hn9
      · skip
        refine zr_ti (y := nI (zx_nv T tx 0 (zx_we T tx 100 hp + 1))) hzv ?_
        rw [hpq, hfa] at hP hD
        rw [hpq] at hle0
        refine va_iast hx hb hK.1 hP hD hS 3 0 rfl rfl (vp_in_nI (by omega) (by omega)) dX8_clause_40 (fun H locs hP hD hS => ?_)
        have hP : va_P D vwCl [(m0, .inr (6, [.ref w0, .ref w1, .ref w2, .int ik, .ref w3, .int (nI tx), .int (nI (zx_np T tx 0 (zx_we T tx 100 hp + 1))), .int (-1), .ref w4, .ref w5, .int (nI cl), .ref w6, .ref w7, .ref w8, .ref w9])), (w3, .inl (E 0, 100, .inl tg)), (w4, .inl (E 0, 12, .inl (upd wd cl (nI 2)))), (w5, .inl (E 0, 36, .inl (upd nu (nI (3 * cl)).toNatClampNeg (nI (zx_nv T tx 0 (zx_we T tx 100 hp + 1))))))] H := hP
        have hD : va_D A [(m0, .inr (6, [.ref w0, .ref w1, .ref w2, .int ik, .ref w3, .int (nI tx), .int (nI (zx_np T tx 0 (zx_we T tx 100 hp + 1))), .int (-1), .ref w4, .ref w5, .int (nI cl), .ref w6, .ref w7, .ref w8, .ref w9])), (w3, .inl (E 0, 100, .inl tg)), (w4, .inl (E 0, 12, .inl (upd wd cl (nI 2)))), (w5, .inl (E 0, 36, .inl (upd nu (nI (3 * cl)).toNatClampNeg (nI (zx_nv T tx 0 (zx_we T tx 100 hp + 1))))))] := hD
        have hcz : (upd nu (nI (3 * cl)).toNatClampNeg (nI (zx_nv T tx 0 (zx_we T tx 100 hp + 1)))) = (upd nu (3 * cl) (nI (zx_nv T tx 0 (zx_we T tx 100 hp + 1)))) := by rw [nI_clamp (n := 3 * cl) (by omega)]
        rw [hcz] at hP hD
        refine lv_iload_n hx hb dX8_clause_41 rfl (lv_at hl 1 rfl) ?_
        refine lv_if_eq (tgt := 79) hx hb dX8_clause_42 (by decide) (fun cn_47 => ?_) (fun cn_47 => ?_)
        · skip
          exact absurd cn_47 (by decide)
        · skip
          refine lv_iload_n hx hb dX8_clause_45 rfl (lv_at hl 1 rfl) ?_
          refine lv_bipush (v := nI 6) hx hb dX8_clause_46 (by rfl) ?_
          refine lv_icmp_eq (tgt := 79) hx hb dX8_clause_48 (by decide) (fun cn_48 => ?_) (fun cn_48 => ?_)
          · skip
            exact absurd cn_48 (by decide)
          · skip
            refine lv_aload_n hx hb dX8_clause_51 rfl (lv_at hl 2 rfl) ?_
            refine va_get (D := D) (ci := 6) (v := .ref w5) (C := RX8) (T := TX8) (N := 15) hx hb hts (by decide +kernel) hown hK.1 hP 0 rfl rfl 9 (by decide) (hts (.fieldLink RX8 27 "HomeRoundsModel" "numbers" "[I") (by decide +kernel)) (fun _ h9 => h9) rfl dX8_clause_52 ?_
            refine lv_iload_n hx hb dX8_clause_55 rfl (lv_at hl 0 rfl) ?_
            refine lv_iconst (v := nI 1) hx hb dX8_clause_56 (by rfl) ?_
            refine lv_iadd hx hb dX8_clause_57 ?_
            refine zr_ti (y := nI ((3 * cl) + 1)) (nI_add _ _) ?_
            refine lv_aload_n hx hb dX8_clause_58 rfl (lv_at hl 2 rfl) ?_
            refine lv_iload_n hx hb dX8_clause_59 rfl (lv_at hl 1 rfl) ?_
            refine lv_iconst (v := nI 5) hx hb dX8_clause_60 (by rfl) ?_
            refine lv_icmp_eq (tgt := 70) hx hb dX8_clause_61 (by decide) (fun cn_49 => ?_) (fun cn_49 => ?_)
            · skip
              exact absurd cn_49 (by decide)
            · skip
              refine lv_iload_n hx hb dX8_clause_64 rfl (lv_at hl 1 rfl) ?_
              refine lv_bipush (v := nI 7) hx hb dX8_clause_65 (by rfl) ?_
              refine lv_icmp_ne (tgt := 74) hx hb dX8_clause_67 (by decide) (fun cn_50 => ?_) (fun cn_50 => ?_)
              · skip
                refine lv_iconst (v := nI 1) hx hb dX8_clause_74 (by rfl) ?_
                have hPc := hP.sub (ws' := [(m0, .inr (6, [.ref w0, .ref w1, .ref w2, .int ik, .ref w3, .int (nI tx), .int (nI (zx_np T tx 0 (zx_we T tx 100 hp + 1))), .int (-1), .ref w4, .ref w5, .int (nI cl), .ref w6, .ref w7, .ref w8, .ref w9])), (w3, .inl (E 0, 100, .inl tg))]) [0, 1] rfl
                have hDc := hD.sub (ws' := [(m0, .inr (6, [.ref w0, .ref w1, .ref w2, .int ik, .ref w3, .int (nI tx), .int (nI (zx_np T tx 0 (zx_we T tx 100 hp + 1))), .int (-1), .ref w4, .ref w5, .int (nI cl), .ref w6, .ref w7, .ref w8, .ref w9])), (w3, .inl (E 0, 100, .inl tg))]) [0, 1] (by decide +kernel) rfl
                have hAc := zw_AA (wc := [(m0, .inr (6, [.ref w0, .ref w1, .ref w2, .int ik, .ref w3, .int (nI tx), .int (nI (zx_np T tx 0 (zx_we T tx 100 hp + 1))), .int (-1), .ref w4, .ref w5, .int (nI cl), .ref w6, .ref w7, .ref w8, .ref w9])), (w3, .inl (E 0, 100, .inl tg))]) hD [0, 1] rfl
                refine zw_ci hAc hS (va_runV (As := [.int (nI 1)]) (rest := [.int (nI ((3 * cl) + 1)), .ref w5]) ⟨hx, hb, hml, hown, hts⟩ (c_X8_number_1 l D E m0 w0 w1 w2 w3 w4 w5 w6 w7 w8 w9 ik tx cl wv (zx_np T tx 0 (zx_we T tx 100 hp + 1)) tg T (htx) (by omega)) (cwV 1 hts gX8_clause_X8_number rfl rfl rfl (by decide +kernel) ⟨Nat.le_of_ble_eq_true rfl, Nat.le_of_ble_eq_true rfl⟩) (zw_V hK hPc hDc (ci := 6) (q0 := 0) rfl rfl) rfl rfl hl.1 rfl (lv_room (Nat.le_of_ble_eq_true rfl)) dX8_clause_75 ⟨Nat.zero_le _, Nat.zero_le _⟩) (fun r_51 u_53 H locs hw_52 hP1 hD1 hk1 hS => ?_)
                obtain ⟨hpn_54, fan_55⟩ := u_53
                try dsimp only at hw_52 hP1 hD1
                obtain ⟨hP, hD⟩ := zw_join (wr := [(w4, .inl (E 0, 12, .inl (upd wd cl (nI 2)))), (w5, .inl (E 0, 36, .inl (upd nu (3 * cl) (nI (zx_nv T tx 0 (zx_we T tx 100 hp + 1))))))]) (w1 := [(m0, .inr (6, [.ref w0, .ref w1, .ref w2, .int ik, .ref w3, .int (nI tx), .int (nI hpn_54), .int fan_55, .ref w4, .ref w5, .int (nI cl), .ref w6, .ref w7, .ref w8, .ref w9])), (w3, .inl (E 0, 100, .inl tg))]) (ws' := [(m0, .inr (6, [.ref w0, .ref w1, .ref w2, .int ik, .ref w3, .int (nI tx), .int (nI hpn_54), .int fan_55, .ref w4, .ref w5, .int (nI cl), .ref w6, .ref w7, .ref w8, .ref w9])), (w3, .inl (E 0, 100, .inl tg)), (w4, .inl (E 0, 12, .inl (upd wd cl (nI 2)))), (w5, .inl (E 0, 36, .inl (upd nu (3 * cl) (nI (zx_nv T tx 0 (zx_we T tx 100 hp + 1))))))]) hP hD [0, 1] [2, 3] [2, 3, 0, 1] rfl rfl (by decide +kernel) (by decide +kernel) hAc hk1 hP1 hD1 (by decide +kernel) rfl
                clear hP1 hD1 hk1 hPc hDc hAc
                have hn9 := hw_52
                obtain ⟨hle1, ⟨hfl1, hfa, hzv, hpq⟩ | ⟨f9, hf9, hfl1, hfa, hzv⟩⟩ := hn9
                · skip
                  refine zr_ti (y := nI (zx_nv T tx 0 ((zx_np T tx 0 (zx_we T tx 100 hp + 1)) + 1))) hzv ?_
                  rw [hpq, hfa] at hP hD
                  rw [hpq] at hle1
                  refine va_iast hx hb hK.1 hP hD hS 3 0 rfl rfl (vp_in_nI (by omega) (by omega)) dX8_clause_78 (fun H locs hP hD hS => ?_)
                  have hP : va_P D vwCl [(m0, .inr (6, [.ref w0, .ref w1, .ref w2, .int ik, .ref w3, .int (nI tx), .int (nI (zx_np T tx 0 ((zx_np T tx 0 (zx_we T tx 100 hp + 1)) + 1))), .int (-1), .ref w4, .ref w5, .int (nI cl), .ref w6, .ref w7, .ref w8, .ref w9])), (w3, .inl (E 0, 100, .inl tg)), (w4, .inl (E 0, 12, .inl (upd wd cl (nI 2)))), (w5, .inl (E 0, 36, .inl (upd (upd nu (3 * cl) (nI (zx_nv T tx 0 (zx_we T tx 100 hp + 1)))) (nI ((3 * cl) + 1)).toNatClampNeg (nI (zx_nv T tx 0 ((zx_np T tx 0 (zx_we T tx 100 hp + 1)) + 1))))))] H := hP
                  have hD : va_D A [(m0, .inr (6, [.ref w0, .ref w1, .ref w2, .int ik, .ref w3, .int (nI tx), .int (nI (zx_np T tx 0 ((zx_np T tx 0 (zx_we T tx 100 hp + 1)) + 1))), .int (-1), .ref w4, .ref w5, .int (nI cl), .ref w6, .ref w7, .ref w8, .ref w9])), (w3, .inl (E 0, 100, .inl tg)), (w4, .inl (E 0, 12, .inl (upd wd cl (nI 2)))), (w5, .inl (E 0, 36, .inl (upd (upd nu (3 * cl) (nI (zx_nv T tx 0 (zx_we T tx 100 hp + 1)))) (nI ((3 * cl) + 1)).toNatClampNeg (nI (zx_nv T tx 0 ((zx_np T tx 0 (zx_we T tx 100 hp + 1)) + 1))))))] := hD
                  have hcz : (upd (upd nu (3 * cl) (nI (zx_nv T tx 0 (zx_we T tx 100 hp + 1)))) (nI ((3 * cl) + 1)).toNatClampNeg (nI (zx_nv T tx 0 ((zx_np T tx 0 (zx_we T tx 100 hp + 1)) + 1)))) = (upd (upd nu (3 * cl) (nI (zx_nv T tx 0 (zx_we T tx 100 hp + 1)))) ((3 * cl) + 1) (nI (zx_nv T tx 0 ((zx_np T tx 0 (zx_we T tx 100 hp + 1)) + 1)))) := by rw [nI_clamp (n := (3 * cl) + 1) (by omega)]
                  rw [hcz] at hP hD
                  refine lv_iload_n hx hb dX8_clause_79 rfl (lv_at hl 1 rfl) ?_
                  refine lv_bipush (v := nI 7) hx hb dX8_clause_80 (by rfl) ?_
                  refine lv_icmp_ne (tgt := 98) hx hb dX8_clause_82 (by decide) (fun cn_56 => ?_) (fun cn_56 => ?_)
                  · skip
                    refine lv_aload_n hx hb dX8_clause_98 rfl (lv_at hl 2 rfl) ?_
                    refine lv_dup hx hb dX8_clause_99 rfl ?_
                    refine va_get (D := D) (ci := 6) (v := .int (nI cl)) (C := RX8) (T := TX8) (N := 15) hx hb hts (by decide +kernel) hown hK.1 hP 0 rfl rfl 10 (by decide) (hts (.fieldLink RX8 132 "HomeRoundsModel" "clauses" "I") (by decide +kernel)) (fun _ h9 => h9) rfl dX8_clause_100 ?_
                    refine lv_iconst (v := nI 1) hx hb dX8_clause_103 (by rfl) ?_
                    refine lv_iadd hx hb dX8_clause_104 ?_
                    refine zr_ti (y := nI (cl + 1)) (nI_add _ _) ?_
                    refine va_put (D := D) (ci := 6) (v := .int (nI (cl + 1))) (ty := .int) (C := RX8) (T := TX8) (N := 15) hx hb hts (by decide +kernel) tyX8 tyX8_ok nmX8 hown hK.1 hP hD hS 0 rfl rfl 10 (by decide) (hts (.fieldLink RX8 132 "HomeRoundsModel" "clauses" "I") (by decide +kernel)) (fun _ h9 => h9) rfl (by decide +kernel) rfl rfl (Nat.le_of_ble_eq_true rfl) dX8_clause_105 (fun H locs hP hD hS => ?_)
                    have hP : va_P D vwCl [(m0, .inr (6, [.ref w0, .ref w1, .ref w2, .int ik, .ref w3, .int (nI tx), .int (nI (zx_np T tx 0 ((zx_np T tx 0 (zx_we T tx 100 hp + 1)) + 1))), .int (-1), .ref w4, .ref w5, .int (nI (cl + 1)), .ref w6, .ref w7, .ref w8, .ref w9])), (w3, .inl (E 0, 100, .inl tg)), (w4, .inl (E 0, 12, .inl (upd wd cl (nI 2)))), (w5, .inl (E 0, 36, .inl (upd (upd nu (3 * cl) (nI (zx_nv T tx 0 (zx_we T tx 100 hp + 1)))) ((3 * cl) + 1) (nI (zx_nv T tx 0 ((zx_np T tx 0 (zx_we T tx 100 hp + 1)) + 1))))))] H := hP
                    have hD : va_D A [(m0, .inr (6, [.ref w0, .ref w1, .ref w2, .int ik, .ref w3, .int (nI tx), .int (nI (zx_np T tx 0 ((zx_np T tx 0 (zx_we T tx 100 hp + 1)) + 1))), .int (-1), .ref w4, .ref w5, .int (nI (cl + 1)), .ref w6, .ref w7, .ref w8, .ref w9])), (w3, .inl (E 0, 100, .inl tg)), (w4, .inl (E 0, 12, .inl (upd wd cl (nI 2)))), (w5, .inl (E 0, 36, .inl (upd (upd nu (3 * cl) (nI (zx_nv T tx 0 (zx_we T tx 100 hp + 1)))) ((3 * cl) + 1) (nI (zx_nv T tx 0 ((zx_np T tx 0 (zx_we T tx 100 hp + 1)) + 1))))))] := hD
                    subst hQ; subst hAe
                    exact W.vret hx hb hr (fun tz htz hWz => ⟨⟨(zx_np T tx 0 ((zx_np T tx 0 (zx_we T tx 100 hp + 1)) + 1), (-1), cl + 1, (upd wd cl (nI 2)), (upd (upd nu (3 * cl) (nI (zx_nv T tx 0 (zx_we T tx 100 hp + 1)))) ((3 * cl) + 1) (nI (zx_nv T tx 0 ((zx_np T tx 0 (zx_we T tx 100 hp + 1)) + 1))))), rfl, ⟨by rw [hcF.trans ((zx_fl_cn hfl0).trans (zx_fl_cn hfl1))]; rfl, fun q => ⟨by unfold zx_cP; rw [hcw]; rfl, rfl, zx_mput_g hcw (by decide) rfl (fun j hj => by show upd _ _ _ _ = _; unfold upd; rw [if_neg (by omega), if_neg (by omega)]) (fun j hj => by
    have h9 : j = 0 ∨ j = 1 := (by have : j < 2 := hj; omega)
    rcases h9 with rfl | rfl; (show upd _ _ _ _ = _; unfold upd; rw [if_neg (by omega), if_pos (by omega)]; rfl); (show upd _ _ _ _ = _; unfold upd; rw [if_pos (by omega)]; rfl))⟩⟩, by rw [htz]; exact hP, hD⟩, hS.F htz⟩) hS.2.2 dX8_clause_108
                  · skip
                    exact absurd cn_56 (by decide)
                · skip
                  refine zr_ti (y := nI 0) hzv ?_
                  rw [hfa] at hP hD
                  refine va_iast hx hb hK.1 hP hD hS 3 0 rfl rfl (vp_in_nI (by omega) (by omega)) dX8_clause_78 (fun H locs hP hD hS => ?_)
                  have hP : va_P D vwCl [(m0, .inr (6, [.ref w0, .ref w1, .ref w2, .int ik, .ref w3, .int (nI tx), .int (nI hpn_54), .int (nI f9), .ref w4, .ref w5, .int (nI cl), .ref w6, .ref w7, .ref w8, .ref w9])), (w3, .inl (E 0, 100, .inl tg)), (w4, .inl (E 0, 12, .inl (upd wd cl (nI 2)))), (w5, .inl (E 0, 36, .inl (upd (upd nu (3 * cl) (nI (zx_nv T tx 0 (zx_we T tx 100 hp + 1)))) (nI ((3 * cl) + 1)).toNatClampNeg (nI 0))))] H := hP
                  have hD : va_D A [(m0, .inr (6, [.ref w0, .ref w1, .ref w2, .int ik, .ref w3, .int (nI tx), .int (nI hpn_54), .int (nI f9), .ref w4, .ref w5, .int (nI cl), .ref w6, .ref w7, .ref w8, .ref w9])), (w3, .inl (E 0, 100, .inl tg)), (w4, .inl (E 0, 12, .inl (upd wd cl (nI 2)))), (w5, .inl (E 0, 36, .inl (upd (upd nu (3 * cl) (nI (zx_nv T tx 0 (zx_we T tx 100 hp + 1)))) (nI ((3 * cl) + 1)).toNatClampNeg (nI 0))))] := hD
                  have hcz : (upd (upd nu (3 * cl) (nI (zx_nv T tx 0 (zx_we T tx 100 hp + 1)))) (nI ((3 * cl) + 1)).toNatClampNeg (nI 0)) = (upd (upd nu (3 * cl) (nI (zx_nv T tx 0 (zx_we T tx 100 hp + 1)))) ((3 * cl) + 1) (nI 0)) := by rw [nI_clamp (n := (3 * cl) + 1) (by omega)]
                  rw [hcz] at hP hD
                  refine lv_iload_n hx hb dX8_clause_79 rfl (lv_at hl 1 rfl) ?_
                  refine lv_bipush (v := nI 7) hx hb dX8_clause_80 (by rfl) ?_
                  refine lv_icmp_ne (tgt := 98) hx hb dX8_clause_82 (by decide) (fun cn_57 => ?_) (fun cn_57 => ?_)
                  · skip
                    refine lv_aload_n hx hb dX8_clause_98 rfl (lv_at hl 2 rfl) ?_
                    refine lv_dup hx hb dX8_clause_99 rfl ?_
                    refine va_get (D := D) (ci := 6) (v := .int (nI cl)) (C := RX8) (T := TX8) (N := 15) hx hb hts (by decide +kernel) hown hK.1 hP 0 rfl rfl 10 (by decide) (hts (.fieldLink RX8 132 "HomeRoundsModel" "clauses" "I") (by decide +kernel)) (fun _ h9 => h9) rfl dX8_clause_100 ?_
                    refine lv_iconst (v := nI 1) hx hb dX8_clause_103 (by rfl) ?_
                    refine lv_iadd hx hb dX8_clause_104 ?_
                    refine zr_ti (y := nI (cl + 1)) (nI_add _ _) ?_
                    refine va_put (D := D) (ci := 6) (v := .int (nI (cl + 1))) (ty := .int) (C := RX8) (T := TX8) (N := 15) hx hb hts (by decide +kernel) tyX8 tyX8_ok nmX8 hown hK.1 hP hD hS 0 rfl rfl 10 (by decide) (hts (.fieldLink RX8 132 "HomeRoundsModel" "clauses" "I") (by decide +kernel)) (fun _ h9 => h9) rfl (by decide +kernel) rfl rfl (Nat.le_of_ble_eq_true rfl) dX8_clause_105 (fun H locs hP hD hS => ?_)
                    have hP : va_P D vwCl [(m0, .inr (6, [.ref w0, .ref w1, .ref w2, .int ik, .ref w3, .int (nI tx), .int (nI hpn_54), .int (nI f9), .ref w4, .ref w5, .int (nI (cl + 1)), .ref w6, .ref w7, .ref w8, .ref w9])), (w3, .inl (E 0, 100, .inl tg)), (w4, .inl (E 0, 12, .inl (upd wd cl (nI 2)))), (w5, .inl (E 0, 36, .inl (upd (upd nu (3 * cl) (nI (zx_nv T tx 0 (zx_we T tx 100 hp + 1)))) ((3 * cl) + 1) (nI 0))))] H := hP
                    have hD : va_D A [(m0, .inr (6, [.ref w0, .ref w1, .ref w2, .int ik, .ref w3, .int (nI tx), .int (nI hpn_54), .int (nI f9), .ref w4, .ref w5, .int (nI (cl + 1)), .ref w6, .ref w7, .ref w8, .ref w9])), (w3, .inl (E 0, 100, .inl tg)), (w4, .inl (E 0, 12, .inl (upd wd cl (nI 2)))), (w5, .inl (E 0, 36, .inl (upd (upd nu (3 * cl) (nI (zx_nv T tx 0 (zx_we T tx 100 hp + 1)))) ((3 * cl) + 1) (nI 0))))] := hD
                    subst hQ; subst hAe
                    exact W.vret hx hb hr (fun tz htz hWz => ⟨⟨(hpn_54, nI f9, cl + 1, (upd wd cl (nI 2)), (upd (upd nu (3 * cl) (nI (zx_nv T tx 0 (zx_we T tx 100 hp + 1)))) ((3 * cl) + 1) (nI 0))), rfl, ⟨by rw [hcF.trans ((zx_fl_cn hfl0).trans (zx_fl_cs hfl1))]; rfl, fun q => by rw [hcF.trans ((zx_fl_cn hfl0).trans (zx_fl_cs hfl1))] at q; cases q⟩, by rw [htz]; exact hP, hD⟩, hS.F htz⟩) hS.2.2 dX8_clause_108
                  · skip
                    exact absurd cn_57 (by decide)
              · skip
                exact absurd cn_50 (by decide)
      · skip
        refine zr_ti (y := nI 0) hzv ?_
        rw [hfa] at hP hD
        refine va_iast hx hb hK.1 hP hD hS 3 0 rfl rfl (vp_in_nI (by omega) (by omega)) dX8_clause_40 (fun H locs hP hD hS => ?_)
        have hP : va_P D vwCl [(m0, .inr (6, [.ref w0, .ref w1, .ref w2, .int ik, .ref w3, .int (nI tx), .int (nI hpn_45), .int (nI f9), .ref w4, .ref w5, .int (nI cl), .ref w6, .ref w7, .ref w8, .ref w9])), (w3, .inl (E 0, 100, .inl tg)), (w4, .inl (E 0, 12, .inl (upd wd cl (nI 2)))), (w5, .inl (E 0, 36, .inl (upd nu (nI (3 * cl)).toNatClampNeg (nI 0))))] H := hP
        have hD : va_D A [(m0, .inr (6, [.ref w0, .ref w1, .ref w2, .int ik, .ref w3, .int (nI tx), .int (nI hpn_45), .int (nI f9), .ref w4, .ref w5, .int (nI cl), .ref w6, .ref w7, .ref w8, .ref w9])), (w3, .inl (E 0, 100, .inl tg)), (w4, .inl (E 0, 12, .inl (upd wd cl (nI 2)))), (w5, .inl (E 0, 36, .inl (upd nu (nI (3 * cl)).toNatClampNeg (nI 0))))] := hD
        have hcz : (upd nu (nI (3 * cl)).toNatClampNeg (nI 0)) = (upd nu (3 * cl) (nI 0)) := by rw [nI_clamp (n := 3 * cl) (by omega)]
        rw [hcz] at hP hD
        refine lv_iload_n hx hb dX8_clause_41 rfl (lv_at hl 1 rfl) ?_
        refine lv_if_eq (tgt := 79) hx hb dX8_clause_42 (by decide) (fun cn_58 => ?_) (fun cn_58 => ?_)
        · skip
          exact absurd cn_58 (by decide)
        · skip
          refine lv_iload_n hx hb dX8_clause_45 rfl (lv_at hl 1 rfl) ?_
          refine lv_bipush (v := nI 6) hx hb dX8_clause_46 (by rfl) ?_
          refine lv_icmp_eq (tgt := 79) hx hb dX8_clause_48 (by decide) (fun cn_59 => ?_) (fun cn_59 => ?_)
          · skip
            exact absurd cn_59 (by decide)
          · skip
            refine lv_aload_n hx hb dX8_clause_51 rfl (lv_at hl 2 rfl) ?_
            refine va_get (D := D) (ci := 6) (v := .ref w5) (C := RX8) (T := TX8) (N := 15) hx hb hts (by decide +kernel) hown hK.1 hP 0 rfl rfl 9 (by decide) (hts (.fieldLink RX8 27 "HomeRoundsModel" "numbers" "[I") (by decide +kernel)) (fun _ h9 => h9) rfl dX8_clause_52 ?_
            refine lv_iload_n hx hb dX8_clause_55 rfl (lv_at hl 0 rfl) ?_
            refine lv_iconst (v := nI 1) hx hb dX8_clause_56 (by rfl) ?_
            refine lv_iadd hx hb dX8_clause_57 ?_
            refine zr_ti (y := nI ((3 * cl) + 1)) (nI_add _ _) ?_
            refine lv_aload_n hx hb dX8_clause_58 rfl (lv_at hl 2 rfl) ?_
            refine lv_iload_n hx hb dX8_clause_59 rfl (lv_at hl 1 rfl) ?_
            refine lv_iconst (v := nI 5) hx hb dX8_clause_60 (by rfl) ?_
            refine lv_icmp_eq (tgt := 70) hx hb dX8_clause_61 (by decide) (fun cn_60 => ?_) (fun cn_60 => ?_)
            · skip
              exact absurd cn_60 (by decide)
            · skip
              refine lv_iload_n hx hb dX8_clause_64 rfl (lv_at hl 1 rfl) ?_
              refine lv_bipush (v := nI 7) hx hb dX8_clause_65 (by rfl) ?_
              refine lv_icmp_ne (tgt := 74) hx hb dX8_clause_67 (by decide) (fun cn_61 => ?_) (fun cn_61 => ?_)
              · skip
                refine lv_iconst (v := nI 1) hx hb dX8_clause_74 (by rfl) ?_
                have hPc := hP.sub (ws' := [(m0, .inr (6, [.ref w0, .ref w1, .ref w2, .int ik, .ref w3, .int (nI tx), .int (nI hpn_45), .int (nI f9), .ref w4, .ref w5, .int (nI cl), .ref w6, .ref w7, .ref w8, .ref w9])), (w3, .inl (E 0, 100, .inl tg))]) [0, 1] rfl
                have hDc := hD.sub (ws' := [(m0, .inr (6, [.ref w0, .ref w1, .ref w2, .int ik, .ref w3, .int (nI tx), .int (nI hpn_45), .int (nI f9), .ref w4, .ref w5, .int (nI cl), .ref w6, .ref w7, .ref w8, .ref w9])), (w3, .inl (E 0, 100, .inl tg))]) [0, 1] (by decide +kernel) rfl
                have hAc := zw_AA (wc := [(m0, .inr (6, [.ref w0, .ref w1, .ref w2, .int ik, .ref w3, .int (nI tx), .int (nI hpn_45), .int (nI f9), .ref w4, .ref w5, .int (nI cl), .ref w6, .ref w7, .ref w8, .ref w9])), (w3, .inl (E 0, 100, .inl tg))]) hD [0, 1] rfl
                refine zw_ci hAc hS (va_runV (As := [.int (nI 1)]) (rest := [.int (nI ((3 * cl) + 1)), .ref w5]) ⟨hx, hb, hml, hown, hts⟩ (c_X8_number_f l D E m0 w0 w1 w2 w3 w4 w5 w6 w7 w8 w9 ik tx cl wv hpn_45 tg T 1 f9 (htx) (by omega) (by omega)) (cwV 1 hts gX8_clause_X8_number rfl rfl rfl (by decide +kernel) ⟨Nat.le_of_ble_eq_true rfl, Nat.le_of_ble_eq_true rfl⟩) (zw_V hK hPc hDc (ci := 6) (q0 := 0) rfl rfl) rfl rfl hl.1 rfl (lv_room (Nat.le_of_ble_eq_true rfl)) dX8_clause_75 ⟨Nat.zero_le _, Nat.zero_le _⟩) (fun r_62 u_64 H locs hw_63 hP1 hD1 hk1 hS => ?_)
                obtain ⟨hP, hD⟩ := zw_join (wr := [(w4, .inl (E 0, 12, .inl (upd wd cl (nI 2)))), (w5, .inl (E 0, 36, .inl (upd nu (3 * cl) (nI 0))))]) (w1 := [(m0, .inr (6, [.ref w0, .ref w1, .ref w2, .int ik, .ref w3, .int (nI tx), .int (nI hpn_45), .int (nI f9), .ref w4, .ref w5, .int (nI cl), .ref w6, .ref w7, .ref w8, .ref w9])), (w3, .inl (E 0, 100, .inl tg))]) (ws' := [(m0, .inr (6, [.ref w0, .ref w1, .ref w2, .int ik, .ref w3, .int (nI tx), .int (nI hpn_45), .int (nI f9), .ref w4, .ref w5, .int (nI cl), .ref w6, .ref w7, .ref w8, .ref w9])), (w3, .inl (E 0, 100, .inl tg)), (w4, .inl (E 0, 12, .inl (upd wd cl (nI 2)))), (w5, .inl (E 0, 36, .inl (upd nu (3 * cl) (nI 0))))]) hP hD [0, 1] [2, 3] [2, 3, 0, 1] rfl rfl (by decide +kernel) (by decide +kernel) hAc hk1 hP1 hD1 (by decide +kernel) rfl
                clear hP1 hD1 hk1 hPc hDc hAc
                obtain ⟨rfl, hw_63⟩ := hw_63
                refine va_iast hx hb hK.1 hP hD hS 3 0 rfl rfl (vp_in_nI (by omega) (by omega)) dX8_clause_78 (fun H locs hP hD hS => ?_)
                have hP : va_P D vwCl [(m0, .inr (6, [.ref w0, .ref w1, .ref w2, .int ik, .ref w3, .int (nI tx), .int (nI hpn_45), .int (nI f9), .ref w4, .ref w5, .int (nI cl), .ref w6, .ref w7, .ref w8, .ref w9])), (w3, .inl (E 0, 100, .inl tg)), (w4, .inl (E 0, 12, .inl (upd wd cl (nI 2)))), (w5, .inl (E 0, 36, .inl (upd (upd nu (3 * cl) (nI 0)) (nI ((3 * cl) + 1)).toNatClampNeg (nI 0))))] H := hP
                have hD : va_D A [(m0, .inr (6, [.ref w0, .ref w1, .ref w2, .int ik, .ref w3, .int (nI tx), .int (nI hpn_45), .int (nI f9), .ref w4, .ref w5, .int (nI cl), .ref w6, .ref w7, .ref w8, .ref w9])), (w3, .inl (E 0, 100, .inl tg)), (w4, .inl (E 0, 12, .inl (upd wd cl (nI 2)))), (w5, .inl (E 0, 36, .inl (upd (upd nu (3 * cl) (nI 0)) (nI ((3 * cl) + 1)).toNatClampNeg (nI 0))))] := hD
                have hcz : (upd (upd nu (3 * cl) (nI 0)) (nI ((3 * cl) + 1)).toNatClampNeg (nI 0)) = (upd (upd nu (3 * cl) (nI 0)) ((3 * cl) + 1) (nI 0)) := by rw [nI_clamp (n := (3 * cl) + 1) (by omega)]
                rw [hcz] at hP hD
                refine lv_iload_n hx hb dX8_clause_79 rfl (lv_at hl 1 rfl) ?_
                refine lv_bipush (v := nI 7) hx hb dX8_clause_80 (by rfl) ?_
                refine lv_icmp_ne (tgt := 98) hx hb dX8_clause_82 (by decide) (fun cn_65 => ?_) (fun cn_65 => ?_)
                · skip
                  refine lv_aload_n hx hb dX8_clause_98 rfl (lv_at hl 2 rfl) ?_
                  refine lv_dup hx hb dX8_clause_99 rfl ?_
                  refine va_get (D := D) (ci := 6) (v := .int (nI cl)) (C := RX8) (T := TX8) (N := 15) hx hb hts (by decide +kernel) hown hK.1 hP 0 rfl rfl 10 (by decide) (hts (.fieldLink RX8 132 "HomeRoundsModel" "clauses" "I") (by decide +kernel)) (fun _ h9 => h9) rfl dX8_clause_100 ?_
                  refine lv_iconst (v := nI 1) hx hb dX8_clause_103 (by rfl) ?_
                  refine lv_iadd hx hb dX8_clause_104 ?_
                  refine zr_ti (y := nI (cl + 1)) (nI_add _ _) ?_
                  refine va_put (D := D) (ci := 6) (v := .int (nI (cl + 1))) (ty := .int) (C := RX8) (T := TX8) (N := 15) hx hb hts (by decide +kernel) tyX8 tyX8_ok nmX8 hown hK.1 hP hD hS 0 rfl rfl 10 (by decide) (hts (.fieldLink RX8 132 "HomeRoundsModel" "clauses" "I") (by decide +kernel)) (fun _ h9 => h9) rfl (by decide +kernel) rfl rfl (Nat.le_of_ble_eq_true rfl) dX8_clause_105 (fun H locs hP hD hS => ?_)
                  have hP : va_P D vwCl [(m0, .inr (6, [.ref w0, .ref w1, .ref w2, .int ik, .ref w3, .int (nI tx), .int (nI hpn_45), .int (nI f9), .ref w4, .ref w5, .int (nI (cl + 1)), .ref w6, .ref w7, .ref w8, .ref w9])), (w3, .inl (E 0, 100, .inl tg)), (w4, .inl (E 0, 12, .inl (upd wd cl (nI 2)))), (w5, .inl (E 0, 36, .inl (upd (upd nu (3 * cl) (nI 0)) ((3 * cl) + 1) (nI 0))))] H := hP
                  have hD : va_D A [(m0, .inr (6, [.ref w0, .ref w1, .ref w2, .int ik, .ref w3, .int (nI tx), .int (nI hpn_45), .int (nI f9), .ref w4, .ref w5, .int (nI (cl + 1)), .ref w6, .ref w7, .ref w8, .ref w9])), (w3, .inl (E 0, 100, .inl tg)), (w4, .inl (E 0, 12, .inl (upd wd cl (nI 2)))), (w5, .inl (E 0, 36, .inl (upd (upd nu (3 * cl) (nI 0)) ((3 * cl) + 1) (nI 0))))] := hD
                  subst hQ; subst hAe
                  exact W.vret hx hb hr (fun tz htz hWz => ⟨⟨(hpn_45, nI f9, cl + 1, (upd wd cl (nI 2)), (upd (upd nu (3 * cl) (nI 0)) ((3 * cl) + 1) (nI 0))), rfl, ⟨by rw [hcF.trans (zx_fl_cs hfl0)]; rfl, fun q => by rw [hcF.trans (zx_fl_cs hfl0)] at q; cases q⟩, by rw [htz]; exact hP, hD⟩, hS.F htz⟩) hS.2.2 dX8_clause_108
                · skip
                  exact absurd cn_65 (by decide)
              · skip
                exact absurd cn_61 (by decide)
    · skip
      exact absurd cn_41 (by decide)
  · skip
    refine zr_ti (y := nI 3) (hwz.trans (by rw [hcw]; rfl)) ?_
    rw [hpe, hfa, hcw, if_pos (by decide)] at hP hD
    have hcF : zx_cF T tx hp = zx_fl T tx [0, 0] (zx_we T tx 100 hp) := by unfold zx_cF; rw [hcw, if_neg (by decide)]; rfl
    have hle2 := zx_we_le (T := T) (L := tx) 100 hp hpt8
    refine lv_istore_n (lv' := [(1, .int (nI 3)), (0, .ref m0)]) hx hb dX8_clause_4 rfl hl (by decide) rfl (fun ls hl => ?_)
    refine lv_aload_n hx hb dX8_clause_5 rfl (lv_at hl 1 rfl) ?_
    refine va_get (D := D) (ci := 6) (v := .int (-1)) (C := RX8) (T := TX8) (N := 15) hx hb hts (by decide +kernel) hown hK.1 hP 0 rfl rfl 7 (by decide) (hts (.fieldLink RX8 106 "HomeRoundsModel" "fault" "I") (by decide +kernel)) (fun _ h9 => h9) rfl dX8_clause_6 ?_
    refine lv_if_lt (tgt := 13) hx hb dX8_clause_9 (by decide) (fun cn_66 => ?_) (fun cn_66 => ?_)
    · skip
      refine lv_iconst (v := nI 3) hx hb dX8_clause_13 (by rfl) ?_
      refine lv_aload_n hx hb dX8_clause_14 rfl (lv_at hl 1 rfl) ?_
      refine va_get (D := D) (ci := 6) (v := .int (nI cl)) (C := RX8) (T := TX8) (N := 15) hx hb hts (by decide +kernel) hown hK.1 hP 0 rfl rfl 10 (by decide) (hts (.fieldLink RX8 132 "HomeRoundsModel" "clauses" "I") (by decide +kernel)) (fun _ h9 => h9) rfl dX8_clause_15 ?_
      refine lv_imul hx hb dX8_clause_18 ?_
      refine zr_ti (y := nI (3 * cl)) (pk_mul _ _) ?_
      refine lv_istore_n (lv' := [(2, .int (nI (3 * cl))), (1, .int (nI 3)), (0, .ref m0)]) hx hb dX8_clause_19 rfl hl (by decide) rfl (fun ls hl => ?_)
      refine lv_aload_n hx hb dX8_clause_20 rfl (lv_at hl 2 rfl) ?_
      refine va_get (D := D) (ci := 6) (v := .ref w4) (C := RX8) (T := TX8) (N := 15) hx hb hts (by decide +kernel) hown hK.1 hP 0 rfl rfl 8 (by decide) (hts (.fieldLink RX8 24 "HomeRoundsModel" "words" "[I") (by decide +kernel)) (fun _ h9 => h9) rfl dX8_clause_21 ?_
      refine lv_aload_n hx hb dX8_clause_24 rfl (lv_at hl 2 rfl) ?_
      refine va_get (D := D) (ci := 6) (v := .int (nI cl)) (C := RX8) (T := TX8) (N := 15) hx hb hts (by decide +kernel) hown hK.1 hP 0 rfl rfl 10 (by decide) (hts (.fieldLink RX8 132 "HomeRoundsModel" "clauses" "I") (by decide +kernel)) (fun _ h9 => h9) rfl dX8_clause_25 ?_
      refine lv_iload_n hx hb dX8_clause_28 rfl (lv_at hl 1 rfl) ?_
      refine va_iast hx hb hK.1 hP hD hS 2 0 rfl rfl (vp_in_nI (by omega) (by omega)) dX8_clause_29 (fun H locs hP hD hS => ?_)
      have hP : va_P D vwCl [(m0, .inr (6, [.ref w0, .ref w1, .ref w2, .int ik, .ref w3, .int (nI tx), .int (nI (zx_we T tx 100 hp)), .int (-1), .ref w4, .ref w5, .int (nI cl), .ref w6, .ref w7, .ref w8, .ref w9])), (w3, .inl (E 0, 100, .inl tg)), (w4, .inl (E 0, 12, .inl (upd wd (nI cl).toNatClampNeg (nI 3)))), (w5, .inl (E 0, 36, .inl nu))] H := hP
      have hD : va_D A [(m0, .inr (6, [.ref w0, .ref w1, .ref w2, .int ik, .ref w3, .int (nI tx), .int (nI (zx_we T tx 100 hp)), .int (-1), .ref w4, .ref w5, .int (nI cl), .ref w6, .ref w7, .ref w8, .ref w9])), (w3, .inl (E 0, 100, .inl tg)), (w4, .inl (E 0, 12, .inl (upd wd (nI cl).toNatClampNeg (nI 3)))), (w5, .inl (E 0, 36, .inl nu))] := hD
      have hcz : (upd wd (nI cl).toNatClampNeg (nI 3)) = (upd wd cl (nI 3)) := by rw [nI_clamp (n := cl) (by omega)]
      rw [hcz] at hP hD
      refine lv_aload_n hx hb dX8_clause_30 rfl (lv_at hl 2 rfl) ?_
      refine va_get (D := D) (ci := 6) (v := .ref w5) (C := RX8) (T := TX8) (N := 15) hx hb hts (by decide +kernel) hown hK.1 hP 0 rfl rfl 9 (by decide) (hts (.fieldLink RX8 27 "HomeRoundsModel" "numbers" "[I") (by decide +kernel)) (fun _ h9 => h9) rfl dX8_clause_31 ?_
      refine lv_iload_n hx hb dX8_clause_34 rfl (lv_at hl 0 rfl) ?_
      refine lv_aload_n hx hb dX8_clause_35 rfl (lv_at hl 2 rfl) ?_
      refine lv_iconst (v := nI 1) hx hb dX8_clause_36 (by rfl) ?_
      have hPc := hP.sub (ws' := [(m0, .inr (6, [.ref w0, .ref w1, .ref w2, .int ik, .ref w3, .int (nI tx), .int (nI (zx_we T tx 100 hp)), .int (-1), .ref w4, .ref w5, .int (nI cl), .ref w6, .ref w7, .ref w8, .ref w9])), (w3, .inl (E 0, 100, .inl tg))]) [0, 1] rfl
      have hDc := hD.sub (ws' := [(m0, .inr (6, [.ref w0, .ref w1, .ref w2, .int ik, .ref w3, .int (nI tx), .int (nI (zx_we T tx 100 hp)), .int (-1), .ref w4, .ref w5, .int (nI cl), .ref w6, .ref w7, .ref w8, .ref w9])), (w3, .inl (E 0, 100, .inl tg))]) [0, 1] (by decide +kernel) rfl
      have hAc := zw_AA (wc := [(m0, .inr (6, [.ref w0, .ref w1, .ref w2, .int ik, .ref w3, .int (nI tx), .int (nI (zx_we T tx 100 hp)), .int (-1), .ref w4, .ref w5, .int (nI cl), .ref w6, .ref w7, .ref w8, .ref w9])), (w3, .inl (E 0, 100, .inl tg))]) hD [0, 1] rfl
      refine zw_ci hAc hS (va_runV (As := [.int (nI 1)]) (rest := [.int (nI (3 * cl)), .ref w5]) ⟨hx, hb, hml, hown, hts⟩ (c_X8_number_1 l D E m0 w0 w1 w2 w3 w4 w5 w6 w7 w8 w9 ik tx cl wv (zx_we T tx 100 hp) tg T (htx) (by omega)) (cwV 1 hts gX8_clause_X8_number rfl rfl rfl (by decide +kernel) ⟨Nat.le_of_ble_eq_true rfl, Nat.le_of_ble_eq_true rfl⟩) (zw_V hK hPc hDc (ci := 6) (q0 := 0) rfl rfl) rfl rfl hl.1 rfl (lv_room (Nat.le_of_ble_eq_true rfl)) dX8_clause_37 ⟨Nat.zero_le _, Nat.zero_le _⟩) (fun r_67 u_69 H locs hw_68 hP1 hD1 hk1 hS => ?_)
      obtain ⟨hpn_70, fan_71⟩ := u_69
      try dsimp only at hw_68 hP1 hD1
      obtain ⟨hP, hD⟩ := zw_join (wr := [(w4, .inl (E 0, 12, .inl (upd wd cl (nI 3)))), (w5, .inl (E 0, 36, .inl nu))]) (w1 := [(m0, .inr (6, [.ref w0, .ref w1, .ref w2, .int ik, .ref w3, .int (nI tx), .int (nI hpn_70), .int fan_71, .ref w4, .ref w5, .int (nI cl), .ref w6, .ref w7, .ref w8, .ref w9])), (w3, .inl (E 0, 100, .inl tg))]) (ws' := [(m0, .inr (6, [.ref w0, .ref w1, .ref w2, .int ik, .ref w3, .int (nI tx), .int (nI hpn_70), .int fan_71, .ref w4, .ref w5, .int (nI cl), .ref w6, .ref w7, .ref w8, .ref w9])), (w3, .inl (E 0, 100, .inl tg)), (w4, .inl (E 0, 12, .inl (upd wd cl (nI 3)))), (w5, .inl (E 0, 36, .inl nu))]) hP hD [0, 1] [2, 3] [2, 3, 0, 1] rfl rfl (by decide +kernel) (by decide +kernel) hAc hk1 hP1 hD1 (by decide +kernel) rfl
      clear hP1 hD1 hk1 hPc hDc hAc
      have hn9 := hw_68
      obtain ⟨hle0, ⟨hfl0, hfa, hzv, hpq⟩ | ⟨f9, hf9, hfl0, hfa, hzv⟩⟩ := hn9
      · skip
        refine zr_ti (y := nI (zx_nv T tx 0 (zx_we T tx 100 hp + 1))) hzv ?_
        rw [hpq, hfa] at hP hD
        rw [hpq] at hle0
        refine va_iast hx hb hK.1 hP hD hS 3 0 rfl rfl (vp_in_nI (by omega) (by omega)) dX8_clause_40 (fun H locs hP hD hS => ?_)
        have hP : va_P D vwCl [(m0, .inr (6, [.ref w0, .ref w1, .ref w2, .int ik, .ref w3, .int (nI tx), .int (nI (zx_np T tx 0 (zx_we T tx 100 hp + 1))), .int (-1), .ref w4, .ref w5, .int (nI cl), .ref w6, .ref w7, .ref w8, .ref w9])), (w3, .inl (E 0, 100, .inl tg)), (w4, .inl (E 0, 12, .inl (upd wd cl (nI 3)))), (w5, .inl (E 0, 36, .inl (upd nu (nI (3 * cl)).toNatClampNeg (nI (zx_nv T tx 0 (zx_we T tx 100 hp + 1))))))] H := hP
        have hD : va_D A [(m0, .inr (6, [.ref w0, .ref w1, .ref w2, .int ik, .ref w3, .int (nI tx), .int (nI (zx_np T tx 0 (zx_we T tx 100 hp + 1))), .int (-1), .ref w4, .ref w5, .int (nI cl), .ref w6, .ref w7, .ref w8, .ref w9])), (w3, .inl (E 0, 100, .inl tg)), (w4, .inl (E 0, 12, .inl (upd wd cl (nI 3)))), (w5, .inl (E 0, 36, .inl (upd nu (nI (3 * cl)).toNatClampNeg (nI (zx_nv T tx 0 (zx_we T tx 100 hp + 1))))))] := hD
        have hcz : (upd nu (nI (3 * cl)).toNatClampNeg (nI (zx_nv T tx 0 (zx_we T tx 100 hp + 1)))) = (upd nu (3 * cl) (nI (zx_nv T tx 0 (zx_we T tx 100 hp + 1)))) := by rw [nI_clamp (n := 3 * cl) (by omega)]
        rw [hcz] at hP hD
        refine lv_iload_n hx hb dX8_clause_41 rfl (lv_at hl 1 rfl) ?_
        refine lv_if_eq (tgt := 79) hx hb dX8_clause_42 (by decide) (fun cn_72 => ?_) (fun cn_72 => ?_)
        · skip
          exact absurd cn_72 (by decide)
        · skip
          refine lv_iload_n hx hb dX8_clause_45 rfl (lv_at hl 1 rfl) ?_
          refine lv_bipush (v := nI 6) hx hb dX8_clause_46 (by rfl) ?_
          refine lv_icmp_eq (tgt := 79) hx hb dX8_clause_48 (by decide) (fun cn_73 => ?_) (fun cn_73 => ?_)
          · skip
            exact absurd cn_73 (by decide)
          · skip
            refine lv_aload_n hx hb dX8_clause_51 rfl (lv_at hl 2 rfl) ?_
            refine va_get (D := D) (ci := 6) (v := .ref w5) (C := RX8) (T := TX8) (N := 15) hx hb hts (by decide +kernel) hown hK.1 hP 0 rfl rfl 9 (by decide) (hts (.fieldLink RX8 27 "HomeRoundsModel" "numbers" "[I") (by decide +kernel)) (fun _ h9 => h9) rfl dX8_clause_52 ?_
            refine lv_iload_n hx hb dX8_clause_55 rfl (lv_at hl 0 rfl) ?_
            refine lv_iconst (v := nI 1) hx hb dX8_clause_56 (by rfl) ?_
            refine lv_iadd hx hb dX8_clause_57 ?_
            refine zr_ti (y := nI ((3 * cl) + 1)) (nI_add _ _) ?_
            refine lv_aload_n hx hb dX8_clause_58 rfl (lv_at hl 2 rfl) ?_
            refine lv_iload_n hx hb dX8_clause_59 rfl (lv_at hl 1 rfl) ?_
            refine lv_iconst (v := nI 5) hx hb dX8_clause_60 (by rfl) ?_
            refine lv_icmp_eq (tgt := 70) hx hb dX8_clause_61 (by decide) (fun cn_74 => ?_) (fun cn_74 => ?_)
            · skip
              exact absurd cn_74 (by decide)
            · skip
              refine lv_iload_n hx hb dX8_clause_64 rfl (lv_at hl 1 rfl) ?_
              refine lv_bipush (v := nI 7) hx hb dX8_clause_65 (by rfl) ?_
              refine lv_icmp_ne (tgt := 74) hx hb dX8_clause_67 (by decide) (fun cn_75 => ?_) (fun cn_75 => ?_)
              · skip
                refine lv_iconst (v := nI 1) hx hb dX8_clause_74 (by rfl) ?_
                have hPc := hP.sub (ws' := [(m0, .inr (6, [.ref w0, .ref w1, .ref w2, .int ik, .ref w3, .int (nI tx), .int (nI (zx_np T tx 0 (zx_we T tx 100 hp + 1))), .int (-1), .ref w4, .ref w5, .int (nI cl), .ref w6, .ref w7, .ref w8, .ref w9])), (w3, .inl (E 0, 100, .inl tg))]) [0, 1] rfl
                have hDc := hD.sub (ws' := [(m0, .inr (6, [.ref w0, .ref w1, .ref w2, .int ik, .ref w3, .int (nI tx), .int (nI (zx_np T tx 0 (zx_we T tx 100 hp + 1))), .int (-1), .ref w4, .ref w5, .int (nI cl), .ref w6, .ref w7, .ref w8, .ref w9])), (w3, .inl (E 0, 100, .inl tg))]) [0, 1] (by decide +kernel) rfl
                have hAc := zw_AA (wc := [(m0, .inr (6, [.ref w0, .ref w1, .ref w2, .int ik, .ref w3, .int (nI tx), .int (nI (zx_np T tx 0 (zx_we T tx 100 hp + 1))), .int (-1), .ref w4, .ref w5, .int (nI cl), .ref w6, .ref w7, .ref w8, .ref w9])), (w3, .inl (E 0, 100, .inl tg))]) hD [0, 1] rfl
                refine zw_ci hAc hS (va_runV (As := [.int (nI 1)]) (rest := [.int (nI ((3 * cl) + 1)), .ref w5]) ⟨hx, hb, hml, hown, hts⟩ (c_X8_number_1 l D E m0 w0 w1 w2 w3 w4 w5 w6 w7 w8 w9 ik tx cl wv (zx_np T tx 0 (zx_we T tx 100 hp + 1)) tg T (htx) (by omega)) (cwV 1 hts gX8_clause_X8_number rfl rfl rfl (by decide +kernel) ⟨Nat.le_of_ble_eq_true rfl, Nat.le_of_ble_eq_true rfl⟩) (zw_V hK hPc hDc (ci := 6) (q0 := 0) rfl rfl) rfl rfl hl.1 rfl (lv_room (Nat.le_of_ble_eq_true rfl)) dX8_clause_75 ⟨Nat.zero_le _, Nat.zero_le _⟩) (fun r_76 u_78 H locs hw_77 hP1 hD1 hk1 hS => ?_)
                obtain ⟨hpn_79, fan_80⟩ := u_78
                try dsimp only at hw_77 hP1 hD1
                obtain ⟨hP, hD⟩ := zw_join (wr := [(w4, .inl (E 0, 12, .inl (upd wd cl (nI 3)))), (w5, .inl (E 0, 36, .inl (upd nu (3 * cl) (nI (zx_nv T tx 0 (zx_we T tx 100 hp + 1))))))]) (w1 := [(m0, .inr (6, [.ref w0, .ref w1, .ref w2, .int ik, .ref w3, .int (nI tx), .int (nI hpn_79), .int fan_80, .ref w4, .ref w5, .int (nI cl), .ref w6, .ref w7, .ref w8, .ref w9])), (w3, .inl (E 0, 100, .inl tg))]) (ws' := [(m0, .inr (6, [.ref w0, .ref w1, .ref w2, .int ik, .ref w3, .int (nI tx), .int (nI hpn_79), .int fan_80, .ref w4, .ref w5, .int (nI cl), .ref w6, .ref w7, .ref w8, .ref w9])), (w3, .inl (E 0, 100, .inl tg)), (w4, .inl (E 0, 12, .inl (upd wd cl (nI 3)))), (w5, .inl (E 0, 36, .inl (upd nu (3 * cl) (nI (zx_nv T tx 0 (zx_we T tx 100 hp + 1))))))]) hP hD [0, 1] [2, 3] [2, 3, 0, 1] rfl rfl (by decide +kernel) (by decide +kernel) hAc hk1 hP1 hD1 (by decide +kernel) rfl
                clear hP1 hD1 hk1 hPc hDc hAc
                have hn9 := hw_77
                obtain ⟨hle1, ⟨hfl1, hfa, hzv, hpq⟩ | ⟨f9, hf9, hfl1, hfa, hzv⟩⟩ := hn9
                · skip
                  refine zr_ti (y := nI (zx_nv T tx 0 ((zx_np T tx 0 (zx_we T tx 100 hp + 1)) + 1))) hzv ?_
                  rw [hpq, hfa] at hP hD
                  rw [hpq] at hle1
                  refine va_iast hx hb hK.1 hP hD hS 3 0 rfl rfl (vp_in_nI (by omega) (by omega)) dX8_clause_78 (fun H locs hP hD hS => ?_)
                  have hP : va_P D vwCl [(m0, .inr (6, [.ref w0, .ref w1, .ref w2, .int ik, .ref w3, .int (nI tx), .int (nI (zx_np T tx 0 ((zx_np T tx 0 (zx_we T tx 100 hp + 1)) + 1))), .int (-1), .ref w4, .ref w5, .int (nI cl), .ref w6, .ref w7, .ref w8, .ref w9])), (w3, .inl (E 0, 100, .inl tg)), (w4, .inl (E 0, 12, .inl (upd wd cl (nI 3)))), (w5, .inl (E 0, 36, .inl (upd (upd nu (3 * cl) (nI (zx_nv T tx 0 (zx_we T tx 100 hp + 1)))) (nI ((3 * cl) + 1)).toNatClampNeg (nI (zx_nv T tx 0 ((zx_np T tx 0 (zx_we T tx 100 hp + 1)) + 1))))))] H := hP
                  have hD : va_D A [(m0, .inr (6, [.ref w0, .ref w1, .ref w2, .int ik, .ref w3, .int (nI tx), .int (nI (zx_np T tx 0 ((zx_np T tx 0 (zx_we T tx 100 hp + 1)) + 1))), .int (-1), .ref w4, .ref w5, .int (nI cl), .ref w6, .ref w7, .ref w8, .ref w9])), (w3, .inl (E 0, 100, .inl tg)), (w4, .inl (E 0, 12, .inl (upd wd cl (nI 3)))), (w5, .inl (E 0, 36, .inl (upd (upd nu (3 * cl) (nI (zx_nv T tx 0 (zx_we T tx 100 hp + 1)))) (nI ((3 * cl) + 1)).toNatClampNeg (nI (zx_nv T tx 0 ((zx_np T tx 0 (zx_we T tx 100 hp + 1)) + 1))))))] := hD
                  have hcz : (upd (upd nu (3 * cl) (nI (zx_nv T tx 0 (zx_we T tx 100 hp + 1)))) (nI ((3 * cl) + 1)).toNatClampNeg (nI (zx_nv T tx 0 ((zx_np T tx 0 (zx_we T tx 100 hp + 1)) + 1)))) = (upd (upd nu (3 * cl) (nI (zx_nv T tx 0 (zx_we T tx 100 hp + 1)))) ((3 * cl) + 1) (nI (zx_nv T tx 0 ((zx_np T tx 0 (zx_we T tx 100 hp + 1)) + 1)))) := by rw [nI_clamp (n := (3 * cl) + 1) (by omega)]
                  rw [hcz] at hP hD
                  refine lv_iload_n hx hb dX8_clause_79 rfl (lv_at hl 1 rfl) ?_
                  refine lv_bipush (v := nI 7) hx hb dX8_clause_80 (by rfl) ?_
                  refine lv_icmp_ne (tgt := 98) hx hb dX8_clause_82 (by decide) (fun cn_81 => ?_) (fun cn_81 => ?_)
                  · skip
                    refine lv_aload_n hx hb dX8_clause_98 rfl (lv_at hl 2 rfl) ?_
                    refine lv_dup hx hb dX8_clause_99 rfl ?_
                    refine va_get (D := D) (ci := 6) (v := .int (nI cl)) (C := RX8) (T := TX8) (N := 15) hx hb hts (by decide +kernel) hown hK.1 hP 0 rfl rfl 10 (by decide) (hts (.fieldLink RX8 132 "HomeRoundsModel" "clauses" "I") (by decide +kernel)) (fun _ h9 => h9) rfl dX8_clause_100 ?_
                    refine lv_iconst (v := nI 1) hx hb dX8_clause_103 (by rfl) ?_
                    refine lv_iadd hx hb dX8_clause_104 ?_
                    refine zr_ti (y := nI (cl + 1)) (nI_add _ _) ?_
                    refine va_put (D := D) (ci := 6) (v := .int (nI (cl + 1))) (ty := .int) (C := RX8) (T := TX8) (N := 15) hx hb hts (by decide +kernel) tyX8 tyX8_ok nmX8 hown hK.1 hP hD hS 0 rfl rfl 10 (by decide) (hts (.fieldLink RX8 132 "HomeRoundsModel" "clauses" "I") (by decide +kernel)) (fun _ h9 => h9) rfl (by decide +kernel) rfl rfl (Nat.le_of_ble_eq_true rfl) dX8_clause_105 (fun H locs hP hD hS => ?_)
                    have hP : va_P D vwCl [(m0, .inr (6, [.ref w0, .ref w1, .ref w2, .int ik, .ref w3, .int (nI tx), .int (nI (zx_np T tx 0 ((zx_np T tx 0 (zx_we T tx 100 hp + 1)) + 1))), .int (-1), .ref w4, .ref w5, .int (nI (cl + 1)), .ref w6, .ref w7, .ref w8, .ref w9])), (w3, .inl (E 0, 100, .inl tg)), (w4, .inl (E 0, 12, .inl (upd wd cl (nI 3)))), (w5, .inl (E 0, 36, .inl (upd (upd nu (3 * cl) (nI (zx_nv T tx 0 (zx_we T tx 100 hp + 1)))) ((3 * cl) + 1) (nI (zx_nv T tx 0 ((zx_np T tx 0 (zx_we T tx 100 hp + 1)) + 1))))))] H := hP
                    have hD : va_D A [(m0, .inr (6, [.ref w0, .ref w1, .ref w2, .int ik, .ref w3, .int (nI tx), .int (nI (zx_np T tx 0 ((zx_np T tx 0 (zx_we T tx 100 hp + 1)) + 1))), .int (-1), .ref w4, .ref w5, .int (nI (cl + 1)), .ref w6, .ref w7, .ref w8, .ref w9])), (w3, .inl (E 0, 100, .inl tg)), (w4, .inl (E 0, 12, .inl (upd wd cl (nI 3)))), (w5, .inl (E 0, 36, .inl (upd (upd nu (3 * cl) (nI (zx_nv T tx 0 (zx_we T tx 100 hp + 1)))) ((3 * cl) + 1) (nI (zx_nv T tx 0 ((zx_np T tx 0 (zx_we T tx 100 hp + 1)) + 1))))))] := hD
                    subst hQ; subst hAe
                    exact W.vret hx hb hr (fun tz htz hWz => ⟨⟨(zx_np T tx 0 ((zx_np T tx 0 (zx_we T tx 100 hp + 1)) + 1), (-1), cl + 1, (upd wd cl (nI 3)), (upd (upd nu (3 * cl) (nI (zx_nv T tx 0 (zx_we T tx 100 hp + 1)))) ((3 * cl) + 1) (nI (zx_nv T tx 0 ((zx_np T tx 0 (zx_we T tx 100 hp + 1)) + 1))))), rfl, ⟨by rw [hcF.trans ((zx_fl_cn hfl0).trans (zx_fl_cn hfl1))]; rfl, fun q => ⟨by unfold zx_cP; rw [hcw]; rfl, rfl, zx_mput_g hcw (by decide) rfl (fun j hj => by show upd _ _ _ _ = _; unfold upd; rw [if_neg (by omega), if_neg (by omega)]) (fun j hj => by
    have h9 : j = 0 ∨ j = 1 := (by have : j < 2 := hj; omega)
    rcases h9 with rfl | rfl; (show upd _ _ _ _ = _; unfold upd; rw [if_neg (by omega), if_pos (by omega)]; rfl); (show upd _ _ _ _ = _; unfold upd; rw [if_pos (by omega)]; rfl))⟩⟩, by rw [htz]; exact hP, hD⟩, hS.F htz⟩) hS.2.2 dX8_clause_108
                  · skip
                    exact absurd cn_81 (by decide)
                · skip
                  refine zr_ti (y := nI 0) hzv ?_
                  rw [hfa] at hP hD
                  refine va_iast hx hb hK.1 hP hD hS 3 0 rfl rfl (vp_in_nI (by omega) (by omega)) dX8_clause_78 (fun H locs hP hD hS => ?_)
                  have hP : va_P D vwCl [(m0, .inr (6, [.ref w0, .ref w1, .ref w2, .int ik, .ref w3, .int (nI tx), .int (nI hpn_79), .int (nI f9), .ref w4, .ref w5, .int (nI cl), .ref w6, .ref w7, .ref w8, .ref w9])), (w3, .inl (E 0, 100, .inl tg)), (w4, .inl (E 0, 12, .inl (upd wd cl (nI 3)))), (w5, .inl (E 0, 36, .inl (upd (upd nu (3 * cl) (nI (zx_nv T tx 0 (zx_we T tx 100 hp + 1)))) (nI ((3 * cl) + 1)).toNatClampNeg (nI 0))))] H := hP
                  have hD : va_D A [(m0, .inr (6, [.ref w0, .ref w1, .ref w2, .int ik, .ref w3, .int (nI tx), .int (nI hpn_79), .int (nI f9), .ref w4, .ref w5, .int (nI cl), .ref w6, .ref w7, .ref w8, .ref w9])), (w3, .inl (E 0, 100, .inl tg)), (w4, .inl (E 0, 12, .inl (upd wd cl (nI 3)))), (w5, .inl (E 0, 36, .inl (upd (upd nu (3 * cl) (nI (zx_nv T tx 0 (zx_we T tx 100 hp + 1)))) (nI ((3 * cl) + 1)).toNatClampNeg (nI 0))))] := hD
                  have hcz : (upd (upd nu (3 * cl) (nI (zx_nv T tx 0 (zx_we T tx 100 hp + 1)))) (nI ((3 * cl) + 1)).toNatClampNeg (nI 0)) = (upd (upd nu (3 * cl) (nI (zx_nv T tx 0 (zx_we T tx 100 hp + 1)))) ((3 * cl) + 1) (nI 0)) := by rw [nI_clamp (n := (3 * cl) + 1) (by omega)]
                  rw [hcz] at hP hD
                  refine lv_iload_n hx hb dX8_clause_79 rfl (lv_at hl 1 rfl) ?_
                  refine lv_bipush (v := nI 7) hx hb dX8_clause_80 (by rfl) ?_
                  refine lv_icmp_ne (tgt := 98) hx hb dX8_clause_82 (by decide) (fun cn_82 => ?_) (fun cn_82 => ?_)
                  · skip
                    refine lv_aload_n hx hb dX8_clause_98 rfl (lv_at hl 2 rfl) ?_
                    refine lv_dup hx hb dX8_clause_99 rfl ?_
                    refine va_get (D := D) (ci := 6) (v := .int (nI cl)) (C := RX8) (T := TX8) (N := 15) hx hb hts (by decide +kernel) hown hK.1 hP 0 rfl rfl 10 (by decide) (hts (.fieldLink RX8 132 "HomeRoundsModel" "clauses" "I") (by decide +kernel)) (fun _ h9 => h9) rfl dX8_clause_100 ?_
                    refine lv_iconst (v := nI 1) hx hb dX8_clause_103 (by rfl) ?_
                    refine lv_iadd hx hb dX8_clause_104 ?_
                    refine zr_ti (y := nI (cl + 1)) (nI_add _ _) ?_
                    refine va_put (D := D) (ci := 6) (v := .int (nI (cl + 1))) (ty := .int) (C := RX8) (T := TX8) (N := 15) hx hb hts (by decide +kernel) tyX8 tyX8_ok nmX8 hown hK.1 hP hD hS 0 rfl rfl 10 (by decide) (hts (.fieldLink RX8 132 "HomeRoundsModel" "clauses" "I") (by decide +kernel)) (fun _ h9 => h9) rfl (by decide +kernel) rfl rfl (Nat.le_of_ble_eq_true rfl) dX8_clause_105 (fun H locs hP hD hS => ?_)
                    have hP : va_P D vwCl [(m0, .inr (6, [.ref w0, .ref w1, .ref w2, .int ik, .ref w3, .int (nI tx), .int (nI hpn_79), .int (nI f9), .ref w4, .ref w5, .int (nI (cl + 1)), .ref w6, .ref w7, .ref w8, .ref w9])), (w3, .inl (E 0, 100, .inl tg)), (w4, .inl (E 0, 12, .inl (upd wd cl (nI 3)))), (w5, .inl (E 0, 36, .inl (upd (upd nu (3 * cl) (nI (zx_nv T tx 0 (zx_we T tx 100 hp + 1)))) ((3 * cl) + 1) (nI 0))))] H := hP
                    have hD : va_D A [(m0, .inr (6, [.ref w0, .ref w1, .ref w2, .int ik, .ref w3, .int (nI tx), .int (nI hpn_79), .int (nI f9), .ref w4, .ref w5, .int (nI (cl + 1)), .ref w6, .ref w7, .ref w8, .ref w9])), (w3, .inl (E 0, 100, .inl tg)), (w4, .inl (E 0, 12, .inl (upd wd cl (nI 3)))), (w5, .inl (E 0, 36, .inl (upd (upd nu (3 * cl) (nI (zx_nv T tx 0 (zx_we T tx 100 hp + 1)))) ((3 * cl) + 1) (nI 0))))] := hD
                    subst hQ; subst hAe
                    exact W.vret hx hb hr (fun tz htz hWz => ⟨⟨(hpn_79, nI f9, cl + 1, (upd wd cl (nI 3)), (upd (upd nu (3 * cl) (nI (zx_nv T tx 0 (zx_we T tx 100 hp + 1)))) ((3 * cl) + 1) (nI 0))), rfl, ⟨by rw [hcF.trans ((zx_fl_cn hfl0).trans (zx_fl_cs hfl1))]; rfl, fun q => by rw [hcF.trans ((zx_fl_cn hfl0).trans (zx_fl_cs hfl1))] at q; cases q⟩, by rw [htz]; exact hP, hD⟩, hS.F htz⟩) hS.2.2 dX8_clause_108
                  · skip
                    exact absurd cn_82 (by decide)
              · skip
                exact absurd cn_75 (by decide)
      · skip
        refine zr_ti (y := nI 0) hzv ?_
        rw [hfa] at hP hD
        refine va_iast hx hb hK.1 hP hD hS 3 0 rfl rfl (vp_in_nI (by omega) (by omega)) dX8_clause_40 (fun H locs hP hD hS => ?_)
        have hP : va_P D vwCl [(m0, .inr (6, [.ref w0, .ref w1, .ref w2, .int ik, .ref w3, .int (nI tx), .int (nI hpn_70), .int (nI f9), .ref w4, .ref w5, .int (nI cl), .ref w6, .ref w7, .ref w8, .ref w9])), (w3, .inl (E 0, 100, .inl tg)), (w4, .inl (E 0, 12, .inl (upd wd cl (nI 3)))), (w5, .inl (E 0, 36, .inl (upd nu (nI (3 * cl)).toNatClampNeg (nI 0))))] H := hP
        have hD : va_D A [(m0, .inr (6, [.ref w0, .ref w1, .ref w2, .int ik, .ref w3, .int (nI tx), .int (nI hpn_70), .int (nI f9), .ref w4, .ref w5, .int (nI cl), .ref w6, .ref w7, .ref w8, .ref w9])), (w3, .inl (E 0, 100, .inl tg)), (w4, .inl (E 0, 12, .inl (upd wd cl (nI 3)))), (w5, .inl (E 0, 36, .inl (upd nu (nI (3 * cl)).toNatClampNeg (nI 0))))] := hD
        have hcz : (upd nu (nI (3 * cl)).toNatClampNeg (nI 0)) = (upd nu (3 * cl) (nI 0)) := by rw [nI_clamp (n := 3 * cl) (by omega)]
        rw [hcz] at hP hD
        refine lv_iload_n hx hb dX8_clause_41 rfl (lv_at hl 1 rfl) ?_
        refine lv_if_eq (tgt := 79) hx hb dX8_clause_42 (by decide) (fun cn_83 => ?_) (fun cn_83 => ?_)
        · skip
          exact absurd cn_83 (by decide)
        · skip
          refine lv_iload_n hx hb dX8_clause_45 rfl (lv_at hl 1 rfl) ?_
          refine lv_bipush (v := nI 6) hx hb dX8_clause_46 (by rfl) ?_
          refine lv_icmp_eq (tgt := 79) hx hb dX8_clause_48 (by decide) (fun cn_84 => ?_) (fun cn_84 => ?_)
          · skip
            exact absurd cn_84 (by decide)
          · skip
            refine lv_aload_n hx hb dX8_clause_51 rfl (lv_at hl 2 rfl) ?_
            refine va_get (D := D) (ci := 6) (v := .ref w5) (C := RX8) (T := TX8) (N := 15) hx hb hts (by decide +kernel) hown hK.1 hP 0 rfl rfl 9 (by decide) (hts (.fieldLink RX8 27 "HomeRoundsModel" "numbers" "[I") (by decide +kernel)) (fun _ h9 => h9) rfl dX8_clause_52 ?_
            refine lv_iload_n hx hb dX8_clause_55 rfl (lv_at hl 0 rfl) ?_
            refine lv_iconst (v := nI 1) hx hb dX8_clause_56 (by rfl) ?_
            refine lv_iadd hx hb dX8_clause_57 ?_
            refine zr_ti (y := nI ((3 * cl) + 1)) (nI_add _ _) ?_
            refine lv_aload_n hx hb dX8_clause_58 rfl (lv_at hl 2 rfl) ?_
            refine lv_iload_n hx hb dX8_clause_59 rfl (lv_at hl 1 rfl) ?_
            refine lv_iconst (v := nI 5) hx hb dX8_clause_60 (by rfl) ?_
            refine lv_icmp_eq (tgt := 70) hx hb dX8_clause_61 (by decide) (fun cn_85 => ?_) (fun cn_85 => ?_)
            · skip
              exact absurd cn_85 (by decide)
            · skip
              refine lv_iload_n hx hb dX8_clause_64 rfl (lv_at hl 1 rfl) ?_
              refine lv_bipush (v := nI 7) hx hb dX8_clause_65 (by rfl) ?_
              refine lv_icmp_ne (tgt := 74) hx hb dX8_clause_67 (by decide) (fun cn_86 => ?_) (fun cn_86 => ?_)
              · skip
                refine lv_iconst (v := nI 1) hx hb dX8_clause_74 (by rfl) ?_
                have hPc := hP.sub (ws' := [(m0, .inr (6, [.ref w0, .ref w1, .ref w2, .int ik, .ref w3, .int (nI tx), .int (nI hpn_70), .int (nI f9), .ref w4, .ref w5, .int (nI cl), .ref w6, .ref w7, .ref w8, .ref w9])), (w3, .inl (E 0, 100, .inl tg))]) [0, 1] rfl
                have hDc := hD.sub (ws' := [(m0, .inr (6, [.ref w0, .ref w1, .ref w2, .int ik, .ref w3, .int (nI tx), .int (nI hpn_70), .int (nI f9), .ref w4, .ref w5, .int (nI cl), .ref w6, .ref w7, .ref w8, .ref w9])), (w3, .inl (E 0, 100, .inl tg))]) [0, 1] (by decide +kernel) rfl
                have hAc := zw_AA (wc := [(m0, .inr (6, [.ref w0, .ref w1, .ref w2, .int ik, .ref w3, .int (nI tx), .int (nI hpn_70), .int (nI f9), .ref w4, .ref w5, .int (nI cl), .ref w6, .ref w7, .ref w8, .ref w9])), (w3, .inl (E 0, 100, .inl tg))]) hD [0, 1] rfl
                refine zw_ci hAc hS (va_runV (As := [.int (nI 1)]) (rest := [.int (nI ((3 * cl) + 1)), .ref w5]) ⟨hx, hb, hml, hown, hts⟩ (c_X8_number_f l D E m0 w0 w1 w2 w3 w4 w5 w6 w7 w8 w9 ik tx cl wv hpn_70 tg T 1 f9 (htx) (by omega) (by omega)) (cwV 1 hts gX8_clause_X8_number rfl rfl rfl (by decide +kernel) ⟨Nat.le_of_ble_eq_true rfl, Nat.le_of_ble_eq_true rfl⟩) (zw_V hK hPc hDc (ci := 6) (q0 := 0) rfl rfl) rfl rfl hl.1 rfl (lv_room (Nat.le_of_ble_eq_true rfl)) dX8_clause_75 ⟨Nat.zero_le _, Nat.zero_le _⟩) (fun r_87 u_89 H locs hw_88 hP1 hD1 hk1 hS => ?_)
                obtain ⟨hP, hD⟩ := zw_join (wr := [(w4, .inl (E 0, 12, .inl (upd wd cl (nI 3)))), (w5, .inl (E 0, 36, .inl (upd nu (3 * cl) (nI 0))))]) (w1 := [(m0, .inr (6, [.ref w0, .ref w1, .ref w2, .int ik, .ref w3, .int (nI tx), .int (nI hpn_70), .int (nI f9), .ref w4, .ref w5, .int (nI cl), .ref w6, .ref w7, .ref w8, .ref w9])), (w3, .inl (E 0, 100, .inl tg))]) (ws' := [(m0, .inr (6, [.ref w0, .ref w1, .ref w2, .int ik, .ref w3, .int (nI tx), .int (nI hpn_70), .int (nI f9), .ref w4, .ref w5, .int (nI cl), .ref w6, .ref w7, .ref w8, .ref w9])), (w3, .inl (E 0, 100, .inl tg)), (w4, .inl (E 0, 12, .inl (upd wd cl (nI 3)))), (w5, .inl (E 0, 36, .inl (upd nu (3 * cl) (nI 0))))]) hP hD [0, 1] [2, 3] [2, 3, 0, 1] rfl rfl (by decide +kernel) (by decide +kernel) hAc hk1 hP1 hD1 (by decide +kernel) rfl
                clear hP1 hD1 hk1 hPc hDc hAc
                obtain ⟨rfl, hw_88⟩ := hw_88
                refine va_iast hx hb hK.1 hP hD hS 3 0 rfl rfl (vp_in_nI (by omega) (by omega)) dX8_clause_78 (fun H locs hP hD hS => ?_)
                have hP : va_P D vwCl [(m0, .inr (6, [.ref w0, .ref w1, .ref w2, .int ik, .ref w3, .int (nI tx), .int (nI hpn_70), .int (nI f9), .ref w4, .ref w5, .int (nI cl), .ref w6, .ref w7, .ref w8, .ref w9])), (w3, .inl (E 0, 100, .inl tg)), (w4, .inl (E 0, 12, .inl (upd wd cl (nI 3)))), (w5, .inl (E 0, 36, .inl (upd (upd nu (3 * cl) (nI 0)) (nI ((3 * cl) + 1)).toNatClampNeg (nI 0))))] H := hP
                have hD : va_D A [(m0, .inr (6, [.ref w0, .ref w1, .ref w2, .int ik, .ref w3, .int (nI tx), .int (nI hpn_70), .int (nI f9), .ref w4, .ref w5, .int (nI cl), .ref w6, .ref w7, .ref w8, .ref w9])), (w3, .inl (E 0, 100, .inl tg)), (w4, .inl (E 0, 12, .inl (upd wd cl (nI 3)))), (w5, .inl (E 0, 36, .inl (upd (upd nu (3 * cl) (nI 0)) (nI ((3 * cl) + 1)).toNatClampNeg (nI 0))))] := hD
                have hcz : (upd (upd nu (3 * cl) (nI 0)) (nI ((3 * cl) + 1)).toNatClampNeg (nI 0)) = (upd (upd nu (3 * cl) (nI 0)) ((3 * cl) + 1) (nI 0)) := by rw [nI_clamp (n := (3 * cl) + 1) (by omega)]
                rw [hcz] at hP hD
                refine lv_iload_n hx hb dX8_clause_79 rfl (lv_at hl 1 rfl) ?_
                refine lv_bipush (v := nI 7) hx hb dX8_clause_80 (by rfl) ?_
                refine lv_icmp_ne (tgt := 98) hx hb dX8_clause_82 (by decide) (fun cn_90 => ?_) (fun cn_90 => ?_)
                · skip
                  refine lv_aload_n hx hb dX8_clause_98 rfl (lv_at hl 2 rfl) ?_
                  refine lv_dup hx hb dX8_clause_99 rfl ?_
                  refine va_get (D := D) (ci := 6) (v := .int (nI cl)) (C := RX8) (T := TX8) (N := 15) hx hb hts (by decide +kernel) hown hK.1 hP 0 rfl rfl 10 (by decide) (hts (.fieldLink RX8 132 "HomeRoundsModel" "clauses" "I") (by decide +kernel)) (fun _ h9 => h9) rfl dX8_clause_100 ?_
                  refine lv_iconst (v := nI 1) hx hb dX8_clause_103 (by rfl) ?_
                  refine lv_iadd hx hb dX8_clause_104 ?_
                  refine zr_ti (y := nI (cl + 1)) (nI_add _ _) ?_
                  refine va_put (D := D) (ci := 6) (v := .int (nI (cl + 1))) (ty := .int) (C := RX8) (T := TX8) (N := 15) hx hb hts (by decide +kernel) tyX8 tyX8_ok nmX8 hown hK.1 hP hD hS 0 rfl rfl 10 (by decide) (hts (.fieldLink RX8 132 "HomeRoundsModel" "clauses" "I") (by decide +kernel)) (fun _ h9 => h9) rfl (by decide +kernel) rfl rfl (Nat.le_of_ble_eq_true rfl) dX8_clause_105 (fun H locs hP hD hS => ?_)
                  have hP : va_P D vwCl [(m0, .inr (6, [.ref w0, .ref w1, .ref w2, .int ik, .ref w3, .int (nI tx), .int (nI hpn_70), .int (nI f9), .ref w4, .ref w5, .int (nI (cl + 1)), .ref w6, .ref w7, .ref w8, .ref w9])), (w3, .inl (E 0, 100, .inl tg)), (w4, .inl (E 0, 12, .inl (upd wd cl (nI 3)))), (w5, .inl (E 0, 36, .inl (upd (upd nu (3 * cl) (nI 0)) ((3 * cl) + 1) (nI 0))))] H := hP
                  have hD : va_D A [(m0, .inr (6, [.ref w0, .ref w1, .ref w2, .int ik, .ref w3, .int (nI tx), .int (nI hpn_70), .int (nI f9), .ref w4, .ref w5, .int (nI (cl + 1)), .ref w6, .ref w7, .ref w8, .ref w9])), (w3, .inl (E 0, 100, .inl tg)), (w4, .inl (E 0, 12, .inl (upd wd cl (nI 3)))), (w5, .inl (E 0, 36, .inl (upd (upd nu (3 * cl) (nI 0)) ((3 * cl) + 1) (nI 0))))] := hD
                  subst hQ; subst hAe
                  exact W.vret hx hb hr (fun tz htz hWz => ⟨⟨(hpn_70, nI f9, cl + 1, (upd wd cl (nI 3)), (upd (upd nu (3 * cl) (nI 0)) ((3 * cl) + 1) (nI 0))), rfl, ⟨by rw [hcF.trans (zx_fl_cs hfl0)]; rfl, fun q => by rw [hcF.trans (zx_fl_cs hfl0)] at q; cases q⟩, by rw [htz]; exact hP, hD⟩, hS.F htz⟩) hS.2.2 dX8_clause_108
                · skip
                  exact absurd cn_90 (by decide)
              · skip
                exact absurd cn_86 (by decide)
    · skip
      exact absurd cn_66 (by decide)
  · skip
    refine zr_ti (y := nI 4) (hwz.trans (by rw [hcw]; rfl)) ?_
    rw [hpe, hfa, hcw, if_pos (by decide)] at hP hD
    have hcF : zx_cF T tx hp = zx_fl T tx [0, 0] (zx_we T tx 100 hp) := by unfold zx_cF; rw [hcw, if_neg (by decide)]; rfl
    have hle2 := zx_we_le (T := T) (L := tx) 100 hp hpt8
    refine lv_istore_n (lv' := [(1, .int (nI 4)), (0, .ref m0)]) hx hb dX8_clause_4 rfl hl (by decide) rfl (fun ls hl => ?_)
    refine lv_aload_n hx hb dX8_clause_5 rfl (lv_at hl 1 rfl) ?_
    refine va_get (D := D) (ci := 6) (v := .int (-1)) (C := RX8) (T := TX8) (N := 15) hx hb hts (by decide +kernel) hown hK.1 hP 0 rfl rfl 7 (by decide) (hts (.fieldLink RX8 106 "HomeRoundsModel" "fault" "I") (by decide +kernel)) (fun _ h9 => h9) rfl dX8_clause_6 ?_
    refine lv_if_lt (tgt := 13) hx hb dX8_clause_9 (by decide) (fun cn_91 => ?_) (fun cn_91 => ?_)
    · skip
      refine lv_iconst (v := nI 3) hx hb dX8_clause_13 (by rfl) ?_
      refine lv_aload_n hx hb dX8_clause_14 rfl (lv_at hl 1 rfl) ?_
      refine va_get (D := D) (ci := 6) (v := .int (nI cl)) (C := RX8) (T := TX8) (N := 15) hx hb hts (by decide +kernel) hown hK.1 hP 0 rfl rfl 10 (by decide) (hts (.fieldLink RX8 132 "HomeRoundsModel" "clauses" "I") (by decide +kernel)) (fun _ h9 => h9) rfl dX8_clause_15 ?_
      refine lv_imul hx hb dX8_clause_18 ?_
      refine zr_ti (y := nI (3 * cl)) (pk_mul _ _) ?_
      refine lv_istore_n (lv' := [(2, .int (nI (3 * cl))), (1, .int (nI 4)), (0, .ref m0)]) hx hb dX8_clause_19 rfl hl (by decide) rfl (fun ls hl => ?_)
      refine lv_aload_n hx hb dX8_clause_20 rfl (lv_at hl 2 rfl) ?_
      refine va_get (D := D) (ci := 6) (v := .ref w4) (C := RX8) (T := TX8) (N := 15) hx hb hts (by decide +kernel) hown hK.1 hP 0 rfl rfl 8 (by decide) (hts (.fieldLink RX8 24 "HomeRoundsModel" "words" "[I") (by decide +kernel)) (fun _ h9 => h9) rfl dX8_clause_21 ?_
      refine lv_aload_n hx hb dX8_clause_24 rfl (lv_at hl 2 rfl) ?_
      refine va_get (D := D) (ci := 6) (v := .int (nI cl)) (C := RX8) (T := TX8) (N := 15) hx hb hts (by decide +kernel) hown hK.1 hP 0 rfl rfl 10 (by decide) (hts (.fieldLink RX8 132 "HomeRoundsModel" "clauses" "I") (by decide +kernel)) (fun _ h9 => h9) rfl dX8_clause_25 ?_
      refine lv_iload_n hx hb dX8_clause_28 rfl (lv_at hl 1 rfl) ?_
      refine va_iast hx hb hK.1 hP hD hS 2 0 rfl rfl (vp_in_nI (by omega) (by omega)) dX8_clause_29 (fun H locs hP hD hS => ?_)
      have hP : va_P D vwCl [(m0, .inr (6, [.ref w0, .ref w1, .ref w2, .int ik, .ref w3, .int (nI tx), .int (nI (zx_we T tx 100 hp)), .int (-1), .ref w4, .ref w5, .int (nI cl), .ref w6, .ref w7, .ref w8, .ref w9])), (w3, .inl (E 0, 100, .inl tg)), (w4, .inl (E 0, 12, .inl (upd wd (nI cl).toNatClampNeg (nI 4)))), (w5, .inl (E 0, 36, .inl nu))] H := hP
      have hD : va_D A [(m0, .inr (6, [.ref w0, .ref w1, .ref w2, .int ik, .ref w3, .int (nI tx), .int (nI (zx_we T tx 100 hp)), .int (-1), .ref w4, .ref w5, .int (nI cl), .ref w6, .ref w7, .ref w8, .ref w9])), (w3, .inl (E 0, 100, .inl tg)), (w4, .inl (E 0, 12, .inl (upd wd (nI cl).toNatClampNeg (nI 4)))), (w5, .inl (E 0, 36, .inl nu))] := hD
      have hcz : (upd wd (nI cl).toNatClampNeg (nI 4)) = (upd wd cl (nI 4)) := by rw [nI_clamp (n := cl) (by omega)]
      rw [hcz] at hP hD
      refine lv_aload_n hx hb dX8_clause_30 rfl (lv_at hl 2 rfl) ?_
      refine va_get (D := D) (ci := 6) (v := .ref w5) (C := RX8) (T := TX8) (N := 15) hx hb hts (by decide +kernel) hown hK.1 hP 0 rfl rfl 9 (by decide) (hts (.fieldLink RX8 27 "HomeRoundsModel" "numbers" "[I") (by decide +kernel)) (fun _ h9 => h9) rfl dX8_clause_31 ?_
      refine lv_iload_n hx hb dX8_clause_34 rfl (lv_at hl 0 rfl) ?_
      refine lv_aload_n hx hb dX8_clause_35 rfl (lv_at hl 2 rfl) ?_
      refine lv_iconst (v := nI 1) hx hb dX8_clause_36 (by rfl) ?_
      have hPc := hP.sub (ws' := [(m0, .inr (6, [.ref w0, .ref w1, .ref w2, .int ik, .ref w3, .int (nI tx), .int (nI (zx_we T tx 100 hp)), .int (-1), .ref w4, .ref w5, .int (nI cl), .ref w6, .ref w7, .ref w8, .ref w9])), (w3, .inl (E 0, 100, .inl tg))]) [0, 1] rfl
      have hDc := hD.sub (ws' := [(m0, .inr (6, [.ref w0, .ref w1, .ref w2, .int ik, .ref w3, .int (nI tx), .int (nI (zx_we T tx 100 hp)), .int (-1), .ref w4, .ref w5, .int (nI cl), .ref w6, .ref w7, .ref w8, .ref w9])), (w3, .inl (E 0, 100, .inl tg))]) [0, 1] (by decide +kernel) rfl
      have hAc := zw_AA (wc := [(m0, .inr (6, [.ref w0, .ref w1, .ref w2, .int ik, .ref w3, .int (nI tx), .int (nI (zx_we T tx 100 hp)), .int (-1), .ref w4, .ref w5, .int (nI cl), .ref w6, .ref w7, .ref w8, .ref w9])), (w3, .inl (E 0, 100, .inl tg))]) hD [0, 1] rfl
      refine zw_ci hAc hS (va_runV (As := [.int (nI 1)]) (rest := [.int (nI (3 * cl)), .ref w5]) ⟨hx, hb, hml, hown, hts⟩ (c_X8_number_1 l D E m0 w0 w1 w2 w3 w4 w5 w6 w7 w8 w9 ik tx cl wv (zx_we T tx 100 hp) tg T (htx) (by omega)) (cwV 1 hts gX8_clause_X8_number rfl rfl rfl (by decide +kernel) ⟨Nat.le_of_ble_eq_true rfl, Nat.le_of_ble_eq_true rfl⟩) (zw_V hK hPc hDc (ci := 6) (q0 := 0) rfl rfl) rfl rfl hl.1 rfl (lv_room (Nat.le_of_ble_eq_true rfl)) dX8_clause_37 ⟨Nat.zero_le _, Nat.zero_le _⟩) (fun r_92 u_94 H locs hw_93 hP1 hD1 hk1 hS => ?_)
      obtain ⟨hpn_95, fan_96⟩ := u_94
      try dsimp only at hw_93 hP1 hD1
      obtain ⟨hP, hD⟩ := zw_join (wr := [(w4, .inl (E 0, 12, .inl (upd wd cl (nI 4)))), (w5, .inl (E 0, 36, .inl nu))]) (w1 := [(m0, .inr (6, [.ref w0, .ref w1, .ref w2, .int ik, .ref w3, .int (nI tx), .int (nI hpn_95), .int fan_96, .ref w4, .ref w5, .int (nI cl), .ref w6, .ref w7, .ref w8, .ref w9])), (w3, .inl (E 0, 100, .inl tg))]) (ws' := [(m0, .inr (6, [.ref w0, .ref w1, .ref w2, .int ik, .ref w3, .int (nI tx), .int (nI hpn_95), .int fan_96, .ref w4, .ref w5, .int (nI cl), .ref w6, .ref w7, .ref w8, .ref w9])), (w3, .inl (E 0, 100, .inl tg)), (w4, .inl (E 0, 12, .inl (upd wd cl (nI 4)))), (w5, .inl (E 0, 36, .inl nu))]) hP hD [0, 1] [2, 3] [2, 3, 0, 1] rfl rfl (by decide +kernel) (by decide +kernel) hAc hk1 hP1 hD1 (by decide +kernel) rfl
      clear hP1 hD1 hk1 hPc hDc hAc
      have hn9 := hw_93
      obtain ⟨hle0, ⟨hfl0, hfa, hzv, hpq⟩ | ⟨f9, hf9, hfl0, hfa, hzv⟩⟩ := hn9
      · skip
        refine zr_ti (y := nI (zx_nv T tx 0 (zx_we T tx 100 hp + 1))) hzv ?_
        rw [hpq, hfa] at hP hD
        rw [hpq] at hle0
        refine va_iast hx hb hK.1 hP hD hS 3 0 rfl rfl (vp_in_nI (by omega) (by omega)) dX8_clause_40 (fun H locs hP hD hS => ?_)
        have hP : va_P D vwCl [(m0, .inr (6, [.ref w0, .ref w1, .ref w2, .int ik, .ref w3, .int (nI tx), .int (nI (zx_np T tx 0 (zx_we T tx 100 hp + 1))), .int (-1), .ref w4, .ref w5, .int (nI cl), .ref w6, .ref w7, .ref w8, .ref w9])), (w3, .inl (E 0, 100, .inl tg)), (w4, .inl (E 0, 12, .inl (upd wd cl (nI 4)))), (w5, .inl (E 0, 36, .inl (upd nu (nI (3 * cl)).toNatClampNeg (nI (zx_nv T tx 0 (zx_we T tx 100 hp + 1))))))] H := hP
        have hD : va_D A [(m0, .inr (6, [.ref w0, .ref w1, .ref w2, .int ik, .ref w3, .int (nI tx), .int (nI (zx_np T tx 0 (zx_we T tx 100 hp + 1))), .int (-1), .ref w4, .ref w5, .int (nI cl), .ref w6, .ref w7, .ref w8, .ref w9])), (w3, .inl (E 0, 100, .inl tg)), (w4, .inl (E 0, 12, .inl (upd wd cl (nI 4)))), (w5, .inl (E 0, 36, .inl (upd nu (nI (3 * cl)).toNatClampNeg (nI (zx_nv T tx 0 (zx_we T tx 100 hp + 1))))))] := hD
        have hcz : (upd nu (nI (3 * cl)).toNatClampNeg (nI (zx_nv T tx 0 (zx_we T tx 100 hp + 1)))) = (upd nu (3 * cl) (nI (zx_nv T tx 0 (zx_we T tx 100 hp + 1)))) := by rw [nI_clamp (n := 3 * cl) (by omega)]
        rw [hcz] at hP hD
        refine lv_iload_n hx hb dX8_clause_41 rfl (lv_at hl 1 rfl) ?_
        refine lv_if_eq (tgt := 79) hx hb dX8_clause_42 (by decide) (fun cn_97 => ?_) (fun cn_97 => ?_)
        · skip
          exact absurd cn_97 (by decide)
        · skip
          refine lv_iload_n hx hb dX8_clause_45 rfl (lv_at hl 1 rfl) ?_
          refine lv_bipush (v := nI 6) hx hb dX8_clause_46 (by rfl) ?_
          refine lv_icmp_eq (tgt := 79) hx hb dX8_clause_48 (by decide) (fun cn_98 => ?_) (fun cn_98 => ?_)
          · skip
            exact absurd cn_98 (by decide)
          · skip
            refine lv_aload_n hx hb dX8_clause_51 rfl (lv_at hl 2 rfl) ?_
            refine va_get (D := D) (ci := 6) (v := .ref w5) (C := RX8) (T := TX8) (N := 15) hx hb hts (by decide +kernel) hown hK.1 hP 0 rfl rfl 9 (by decide) (hts (.fieldLink RX8 27 "HomeRoundsModel" "numbers" "[I") (by decide +kernel)) (fun _ h9 => h9) rfl dX8_clause_52 ?_
            refine lv_iload_n hx hb dX8_clause_55 rfl (lv_at hl 0 rfl) ?_
            refine lv_iconst (v := nI 1) hx hb dX8_clause_56 (by rfl) ?_
            refine lv_iadd hx hb dX8_clause_57 ?_
            refine zr_ti (y := nI ((3 * cl) + 1)) (nI_add _ _) ?_
            refine lv_aload_n hx hb dX8_clause_58 rfl (lv_at hl 2 rfl) ?_
            refine lv_iload_n hx hb dX8_clause_59 rfl (lv_at hl 1 rfl) ?_
            refine lv_iconst (v := nI 5) hx hb dX8_clause_60 (by rfl) ?_
            refine lv_icmp_eq (tgt := 70) hx hb dX8_clause_61 (by decide) (fun cn_99 => ?_) (fun cn_99 => ?_)
            · skip
              exact absurd cn_99 (by decide)
            · skip
              refine lv_iload_n hx hb dX8_clause_64 rfl (lv_at hl 1 rfl) ?_
              refine lv_bipush (v := nI 7) hx hb dX8_clause_65 (by rfl) ?_
              refine lv_icmp_ne (tgt := 74) hx hb dX8_clause_67 (by decide) (fun cn_100 => ?_) (fun cn_100 => ?_)
              · skip
                refine lv_iconst (v := nI 1) hx hb dX8_clause_74 (by rfl) ?_
                have hPc := hP.sub (ws' := [(m0, .inr (6, [.ref w0, .ref w1, .ref w2, .int ik, .ref w3, .int (nI tx), .int (nI (zx_np T tx 0 (zx_we T tx 100 hp + 1))), .int (-1), .ref w4, .ref w5, .int (nI cl), .ref w6, .ref w7, .ref w8, .ref w9])), (w3, .inl (E 0, 100, .inl tg))]) [0, 1] rfl
                have hDc := hD.sub (ws' := [(m0, .inr (6, [.ref w0, .ref w1, .ref w2, .int ik, .ref w3, .int (nI tx), .int (nI (zx_np T tx 0 (zx_we T tx 100 hp + 1))), .int (-1), .ref w4, .ref w5, .int (nI cl), .ref w6, .ref w7, .ref w8, .ref w9])), (w3, .inl (E 0, 100, .inl tg))]) [0, 1] (by decide +kernel) rfl
                have hAc := zw_AA (wc := [(m0, .inr (6, [.ref w0, .ref w1, .ref w2, .int ik, .ref w3, .int (nI tx), .int (nI (zx_np T tx 0 (zx_we T tx 100 hp + 1))), .int (-1), .ref w4, .ref w5, .int (nI cl), .ref w6, .ref w7, .ref w8, .ref w9])), (w3, .inl (E 0, 100, .inl tg))]) hD [0, 1] rfl
                refine zw_ci hAc hS (va_runV (As := [.int (nI 1)]) (rest := [.int (nI ((3 * cl) + 1)), .ref w5]) ⟨hx, hb, hml, hown, hts⟩ (c_X8_number_1 l D E m0 w0 w1 w2 w3 w4 w5 w6 w7 w8 w9 ik tx cl wv (zx_np T tx 0 (zx_we T tx 100 hp + 1)) tg T (htx) (by omega)) (cwV 1 hts gX8_clause_X8_number rfl rfl rfl (by decide +kernel) ⟨Nat.le_of_ble_eq_true rfl, Nat.le_of_ble_eq_true rfl⟩) (zw_V hK hPc hDc (ci := 6) (q0 := 0) rfl rfl) rfl rfl hl.1 rfl (lv_room (Nat.le_of_ble_eq_true rfl)) dX8_clause_75 ⟨Nat.zero_le _, Nat.zero_le _⟩) (fun r_101 u_103 H locs hw_102 hP1 hD1 hk1 hS => ?_)
                obtain ⟨hpn_104, fan_105⟩ := u_103
                try dsimp only at hw_102 hP1 hD1
                obtain ⟨hP, hD⟩ := zw_join (wr := [(w4, .inl (E 0, 12, .inl (upd wd cl (nI 4)))), (w5, .inl (E 0, 36, .inl (upd nu (3 * cl) (nI (zx_nv T tx 0 (zx_we T tx 100 hp + 1))))))]) (w1 := [(m0, .inr (6, [.ref w0, .ref w1, .ref w2, .int ik, .ref w3, .int (nI tx), .int (nI hpn_104), .int fan_105, .ref w4, .ref w5, .int (nI cl), .ref w6, .ref w7, .ref w8, .ref w9])), (w3, .inl (E 0, 100, .inl tg))]) (ws' := [(m0, .inr (6, [.ref w0, .ref w1, .ref w2, .int ik, .ref w3, .int (nI tx), .int (nI hpn_104), .int fan_105, .ref w4, .ref w5, .int (nI cl), .ref w6, .ref w7, .ref w8, .ref w9])), (w3, .inl (E 0, 100, .inl tg)), (w4, .inl (E 0, 12, .inl (upd wd cl (nI 4)))), (w5, .inl (E 0, 36, .inl (upd nu (3 * cl) (nI (zx_nv T tx 0 (zx_we T tx 100 hp + 1))))))]) hP hD [0, 1] [2, 3] [2, 3, 0, 1] rfl rfl (by decide +kernel) (by decide +kernel) hAc hk1 hP1 hD1 (by decide +kernel) rfl
                clear hP1 hD1 hk1 hPc hDc hAc
                have hn9 := hw_102
                obtain ⟨hle1, ⟨hfl1, hfa, hzv, hpq⟩ | ⟨f9, hf9, hfl1, hfa, hzv⟩⟩ := hn9
                · skip
                  refine zr_ti (y := nI (zx_nv T tx 0 ((zx_np T tx 0 (zx_we T tx 100 hp + 1)) + 1))) hzv ?_
                  rw [hpq, hfa] at hP hD
                  rw [hpq] at hle1
                  refine va_iast hx hb hK.1 hP hD hS 3 0 rfl rfl (vp_in_nI (by omega) (by omega)) dX8_clause_78 (fun H locs hP hD hS => ?_)
                  have hP : va_P D vwCl [(m0, .inr (6, [.ref w0, .ref w1, .ref w2, .int ik, .ref w3, .int (nI tx), .int (nI (zx_np T tx 0 ((zx_np T tx 0 (zx_we T tx 100 hp + 1)) + 1))), .int (-1), .ref w4, .ref w5, .int (nI cl), .ref w6, .ref w7, .ref w8, .ref w9])), (w3, .inl (E 0, 100, .inl tg)), (w4, .inl (E 0, 12, .inl (upd wd cl (nI 4)))), (w5, .inl (E 0, 36, .inl (upd (upd nu (3 * cl) (nI (zx_nv T tx 0 (zx_we T tx 100 hp + 1)))) (nI ((3 * cl) + 1)).toNatClampNeg (nI (zx_nv T tx 0 ((zx_np T tx 0 (zx_we T tx 100 hp + 1)) + 1))))))] H := hP
                  have hD : va_D A [(m0, .inr (6, [.ref w0, .ref w1, .ref w2, .int ik, .ref w3, .int (nI tx), .int (nI (zx_np T tx 0 ((zx_np T tx 0 (zx_we T tx 100 hp + 1)) + 1))), .int (-1), .ref w4, .ref w5, .int (nI cl), .ref w6, .ref w7, .ref w8, .ref w9])), (w3, .inl (E 0, 100, .inl tg)), (w4, .inl (E 0, 12, .inl (upd wd cl (nI 4)))), (w5, .inl (E 0, 36, .inl (upd (upd nu (3 * cl) (nI (zx_nv T tx 0 (zx_we T tx 100 hp + 1)))) (nI ((3 * cl) + 1)).toNatClampNeg (nI (zx_nv T tx 0 ((zx_np T tx 0 (zx_we T tx 100 hp + 1)) + 1))))))] := hD
                  have hcz : (upd (upd nu (3 * cl) (nI (zx_nv T tx 0 (zx_we T tx 100 hp + 1)))) (nI ((3 * cl) + 1)).toNatClampNeg (nI (zx_nv T tx 0 ((zx_np T tx 0 (zx_we T tx 100 hp + 1)) + 1)))) = (upd (upd nu (3 * cl) (nI (zx_nv T tx 0 (zx_we T tx 100 hp + 1)))) ((3 * cl) + 1) (nI (zx_nv T tx 0 ((zx_np T tx 0 (zx_we T tx 100 hp + 1)) + 1)))) := by rw [nI_clamp (n := (3 * cl) + 1) (by omega)]
                  rw [hcz] at hP hD
                  refine lv_iload_n hx hb dX8_clause_79 rfl (lv_at hl 1 rfl) ?_
                  refine lv_bipush (v := nI 7) hx hb dX8_clause_80 (by rfl) ?_
                  refine lv_icmp_ne (tgt := 98) hx hb dX8_clause_82 (by decide) (fun cn_106 => ?_) (fun cn_106 => ?_)
                  · skip
                    refine lv_aload_n hx hb dX8_clause_98 rfl (lv_at hl 2 rfl) ?_
                    refine lv_dup hx hb dX8_clause_99 rfl ?_
                    refine va_get (D := D) (ci := 6) (v := .int (nI cl)) (C := RX8) (T := TX8) (N := 15) hx hb hts (by decide +kernel) hown hK.1 hP 0 rfl rfl 10 (by decide) (hts (.fieldLink RX8 132 "HomeRoundsModel" "clauses" "I") (by decide +kernel)) (fun _ h9 => h9) rfl dX8_clause_100 ?_
                    refine lv_iconst (v := nI 1) hx hb dX8_clause_103 (by rfl) ?_
                    refine lv_iadd hx hb dX8_clause_104 ?_
                    refine zr_ti (y := nI (cl + 1)) (nI_add _ _) ?_
                    refine va_put (D := D) (ci := 6) (v := .int (nI (cl + 1))) (ty := .int) (C := RX8) (T := TX8) (N := 15) hx hb hts (by decide +kernel) tyX8 tyX8_ok nmX8 hown hK.1 hP hD hS 0 rfl rfl 10 (by decide) (hts (.fieldLink RX8 132 "HomeRoundsModel" "clauses" "I") (by decide +kernel)) (fun _ h9 => h9) rfl (by decide +kernel) rfl rfl (Nat.le_of_ble_eq_true rfl) dX8_clause_105 (fun H locs hP hD hS => ?_)
                    have hP : va_P D vwCl [(m0, .inr (6, [.ref w0, .ref w1, .ref w2, .int ik, .ref w3, .int (nI tx), .int (nI (zx_np T tx 0 ((zx_np T tx 0 (zx_we T tx 100 hp + 1)) + 1))), .int (-1), .ref w4, .ref w5, .int (nI (cl + 1)), .ref w6, .ref w7, .ref w8, .ref w9])), (w3, .inl (E 0, 100, .inl tg)), (w4, .inl (E 0, 12, .inl (upd wd cl (nI 4)))), (w5, .inl (E 0, 36, .inl (upd (upd nu (3 * cl) (nI (zx_nv T tx 0 (zx_we T tx 100 hp + 1)))) ((3 * cl) + 1) (nI (zx_nv T tx 0 ((zx_np T tx 0 (zx_we T tx 100 hp + 1)) + 1))))))] H := hP
                    have hD : va_D A [(m0, .inr (6, [.ref w0, .ref w1, .ref w2, .int ik, .ref w3, .int (nI tx), .int (nI (zx_np T tx 0 ((zx_np T tx 0 (zx_we T tx 100 hp + 1)) + 1))), .int (-1), .ref w4, .ref w5, .int (nI (cl + 1)), .ref w6, .ref w7, .ref w8, .ref w9])), (w3, .inl (E 0, 100, .inl tg)), (w4, .inl (E 0, 12, .inl (upd wd cl (nI 4)))), (w5, .inl (E 0, 36, .inl (upd (upd nu (3 * cl) (nI (zx_nv T tx 0 (zx_we T tx 100 hp + 1)))) ((3 * cl) + 1) (nI (zx_nv T tx 0 ((zx_np T tx 0 (zx_we T tx 100 hp + 1)) + 1))))))] := hD
                    subst hQ; subst hAe
                    exact W.vret hx hb hr (fun tz htz hWz => ⟨⟨(zx_np T tx 0 ((zx_np T tx 0 (zx_we T tx 100 hp + 1)) + 1), (-1), cl + 1, (upd wd cl (nI 4)), (upd (upd nu (3 * cl) (nI (zx_nv T tx 0 (zx_we T tx 100 hp + 1)))) ((3 * cl) + 1) (nI (zx_nv T tx 0 ((zx_np T tx 0 (zx_we T tx 100 hp + 1)) + 1))))), rfl, ⟨by rw [hcF.trans ((zx_fl_cn hfl0).trans (zx_fl_cn hfl1))]; rfl, fun q => ⟨by unfold zx_cP; rw [hcw]; rfl, rfl, zx_mput_g hcw (by decide) rfl (fun j hj => by show upd _ _ _ _ = _; unfold upd; rw [if_neg (by omega), if_neg (by omega)]) (fun j hj => by
    have h9 : j = 0 ∨ j = 1 := (by have : j < 2 := hj; omega)
    rcases h9 with rfl | rfl; (show upd _ _ _ _ = _; unfold upd; rw [if_neg (by omega), if_pos (by omega)]; rfl); (show upd _ _ _ _ = _; unfold upd; rw [if_pos (by omega)]; rfl))⟩⟩, by rw [htz]; exact hP, hD⟩, hS.F htz⟩) hS.2.2 dX8_clause_108
                  · skip
                    exact absurd cn_106 (by decide)
                · skip
                  refine zr_ti (y := nI 0) hzv ?_
                  rw [hfa] at hP hD
                  refine va_iast hx hb hK.1 hP hD hS 3 0 rfl rfl (vp_in_nI (by omega) (by omega)) dX8_clause_78 (fun H locs hP hD hS => ?_)
                  have hP : va_P D vwCl [(m0, .inr (6, [.ref w0, .ref w1, .ref w2, .int ik, .ref w3, .int (nI tx), .int (nI hpn_104), .int (nI f9), .ref w4, .ref w5, .int (nI cl), .ref w6, .ref w7, .ref w8, .ref w9])), (w3, .inl (E 0, 100, .inl tg)), (w4, .inl (E 0, 12, .inl (upd wd cl (nI 4)))), (w5, .inl (E 0, 36, .inl (upd (upd nu (3 * cl) (nI (zx_nv T tx 0 (zx_we T tx 100 hp + 1)))) (nI ((3 * cl) + 1)).toNatClampNeg (nI 0))))] H := hP
                  have hD : va_D A [(m0, .inr (6, [.ref w0, .ref w1, .ref w2, .int ik, .ref w3, .int (nI tx), .int (nI hpn_104), .int (nI f9), .ref w4, .ref w5, .int (nI cl), .ref w6, .ref w7, .ref w8, .ref w9])), (w3, .inl (E 0, 100, .inl tg)), (w4, .inl (E 0, 12, .inl (upd wd cl (nI 4)))), (w5, .inl (E 0, 36, .inl (upd (upd nu (3 * cl) (nI (zx_nv T tx 0 (zx_we T tx 100 hp + 1)))) (nI ((3 * cl) + 1)).toNatClampNeg (nI 0))))] := hD
                  have hcz : (upd (upd nu (3 * cl) (nI (zx_nv T tx 0 (zx_we T tx 100 hp + 1)))) (nI ((3 * cl) + 1)).toNatClampNeg (nI 0)) = (upd (upd nu (3 * cl) (nI (zx_nv T tx 0 (zx_we T tx 100 hp + 1)))) ((3 * cl) + 1) (nI 0)) := by rw [nI_clamp (n := (3 * cl) + 1) (by omega)]
                  rw [hcz] at hP hD
                  refine lv_iload_n hx hb dX8_clause_79 rfl (lv_at hl 1 rfl) ?_
                  refine lv_bipush (v := nI 7) hx hb dX8_clause_80 (by rfl) ?_
                  refine lv_icmp_ne (tgt := 98) hx hb dX8_clause_82 (by decide) (fun cn_107 => ?_) (fun cn_107 => ?_)
                  · skip
                    refine lv_aload_n hx hb dX8_clause_98 rfl (lv_at hl 2 rfl) ?_
                    refine lv_dup hx hb dX8_clause_99 rfl ?_
                    refine va_get (D := D) (ci := 6) (v := .int (nI cl)) (C := RX8) (T := TX8) (N := 15) hx hb hts (by decide +kernel) hown hK.1 hP 0 rfl rfl 10 (by decide) (hts (.fieldLink RX8 132 "HomeRoundsModel" "clauses" "I") (by decide +kernel)) (fun _ h9 => h9) rfl dX8_clause_100 ?_
                    refine lv_iconst (v := nI 1) hx hb dX8_clause_103 (by rfl) ?_
                    refine lv_iadd hx hb dX8_clause_104 ?_
                    refine zr_ti (y := nI (cl + 1)) (nI_add _ _) ?_
                    refine va_put (D := D) (ci := 6) (v := .int (nI (cl + 1))) (ty := .int) (C := RX8) (T := TX8) (N := 15) hx hb hts (by decide +kernel) tyX8 tyX8_ok nmX8 hown hK.1 hP hD hS 0 rfl rfl 10 (by decide) (hts (.fieldLink RX8 132 "HomeRoundsModel" "clauses" "I") (by decide +kernel)) (fun _ h9 => h9) rfl (by decide +kernel) rfl rfl (Nat.le_of_ble_eq_true rfl) dX8_clause_105 (fun H locs hP hD hS => ?_)
                    have hP : va_P D vwCl [(m0, .inr (6, [.ref w0, .ref w1, .ref w2, .int ik, .ref w3, .int (nI tx), .int (nI hpn_104), .int (nI f9), .ref w4, .ref w5, .int (nI (cl + 1)), .ref w6, .ref w7, .ref w8, .ref w9])), (w3, .inl (E 0, 100, .inl tg)), (w4, .inl (E 0, 12, .inl (upd wd cl (nI 4)))), (w5, .inl (E 0, 36, .inl (upd (upd nu (3 * cl) (nI (zx_nv T tx 0 (zx_we T tx 100 hp + 1)))) ((3 * cl) + 1) (nI 0))))] H := hP
                    have hD : va_D A [(m0, .inr (6, [.ref w0, .ref w1, .ref w2, .int ik, .ref w3, .int (nI tx), .int (nI hpn_104), .int (nI f9), .ref w4, .ref w5, .int (nI (cl + 1)), .ref w6, .ref w7, .ref w8, .ref w9])), (w3, .inl (E 0, 100, .inl tg)), (w4, .inl (E 0, 12, .inl (upd wd cl (nI 4)))), (w5, .inl (E 0, 36, .inl (upd (upd nu (3 * cl) (nI (zx_nv T tx 0 (zx_we T tx 100 hp + 1)))) ((3 * cl) + 1) (nI 0))))] := hD
                    subst hQ; subst hAe
                    exact W.vret hx hb hr (fun tz htz hWz => ⟨⟨(hpn_104, nI f9, cl + 1, (upd wd cl (nI 4)), (upd (upd nu (3 * cl) (nI (zx_nv T tx 0 (zx_we T tx 100 hp + 1)))) ((3 * cl) + 1) (nI 0))), rfl, ⟨by rw [hcF.trans ((zx_fl_cn hfl0).trans (zx_fl_cs hfl1))]; rfl, fun q => by rw [hcF.trans ((zx_fl_cn hfl0).trans (zx_fl_cs hfl1))] at q; cases q⟩, by rw [htz]; exact hP, hD⟩, hS.F htz⟩) hS.2.2 dX8_clause_108
                  · skip
                    exact absurd cn_107 (by decide)
              · skip
                exact absurd cn_100 (by decide)
      · skip
        refine zr_ti (y := nI 0) hzv ?_
        rw [hfa] at hP hD
        refine va_iast hx hb hK.1 hP hD hS 3 0 rfl rfl (vp_in_nI (by omega) (by omega)) dX8_clause_40 (fun H locs hP hD hS => ?_)
        have hP : va_P D vwCl [(m0, .inr (6, [.ref w0, .ref w1, .ref w2, .int ik, .ref w3, .int (nI tx), .int (nI hpn_95), .int (nI f9), .ref w4, .ref w5, .int (nI cl), .ref w6, .ref w7, .ref w8, .ref w9])), (w3, .inl (E 0, 100, .inl tg)), (w4, .inl (E 0, 12, .inl (upd wd cl (nI 4)))), (w5, .inl (E 0, 36, .inl (upd nu (nI (3 * cl)).toNatClampNeg (nI 0))))] H := hP
        have hD : va_D A [(m0, .inr (6, [.ref w0, .ref w1, .ref w2, .int ik, .ref w3, .int (nI tx), .int (nI hpn_95), .int (nI f9), .ref w4, .ref w5, .int (nI cl), .ref w6, .ref w7, .ref w8, .ref w9])), (w3, .inl (E 0, 100, .inl tg)), (w4, .inl (E 0, 12, .inl (upd wd cl (nI 4)))), (w5, .inl (E 0, 36, .inl (upd nu (nI (3 * cl)).toNatClampNeg (nI 0))))] := hD
        have hcz : (upd nu (nI (3 * cl)).toNatClampNeg (nI 0)) = (upd nu (3 * cl) (nI 0)) := by rw [nI_clamp (n := 3 * cl) (by omega)]
        rw [hcz] at hP hD
        refine lv_iload_n hx hb dX8_clause_41 rfl (lv_at hl 1 rfl) ?_
        refine lv_if_eq (tgt := 79) hx hb dX8_clause_42 (by decide) (fun cn_108 => ?_) (fun cn_108 => ?_)
        · skip
          exact absurd cn_108 (by decide)
        · skip
          refine lv_iload_n hx hb dX8_clause_45 rfl (lv_at hl 1 rfl) ?_
          refine lv_bipush (v := nI 6) hx hb dX8_clause_46 (by rfl) ?_
          refine lv_icmp_eq (tgt := 79) hx hb dX8_clause_48 (by decide) (fun cn_109 => ?_) (fun cn_109 => ?_)
          · skip
            exact absurd cn_109 (by decide)
          · skip
            refine lv_aload_n hx hb dX8_clause_51 rfl (lv_at hl 2 rfl) ?_
            refine va_get (D := D) (ci := 6) (v := .ref w5) (C := RX8) (T := TX8) (N := 15) hx hb hts (by decide +kernel) hown hK.1 hP 0 rfl rfl 9 (by decide) (hts (.fieldLink RX8 27 "HomeRoundsModel" "numbers" "[I") (by decide +kernel)) (fun _ h9 => h9) rfl dX8_clause_52 ?_
            refine lv_iload_n hx hb dX8_clause_55 rfl (lv_at hl 0 rfl) ?_
            refine lv_iconst (v := nI 1) hx hb dX8_clause_56 (by rfl) ?_
            refine lv_iadd hx hb dX8_clause_57 ?_
            refine zr_ti (y := nI ((3 * cl) + 1)) (nI_add _ _) ?_
            refine lv_aload_n hx hb dX8_clause_58 rfl (lv_at hl 2 rfl) ?_
            refine lv_iload_n hx hb dX8_clause_59 rfl (lv_at hl 1 rfl) ?_
            refine lv_iconst (v := nI 5) hx hb dX8_clause_60 (by rfl) ?_
            refine lv_icmp_eq (tgt := 70) hx hb dX8_clause_61 (by decide) (fun cn_110 => ?_) (fun cn_110 => ?_)
            · skip
              exact absurd cn_110 (by decide)
            · skip
              refine lv_iload_n hx hb dX8_clause_64 rfl (lv_at hl 1 rfl) ?_
              refine lv_bipush (v := nI 7) hx hb dX8_clause_65 (by rfl) ?_
              refine lv_icmp_ne (tgt := 74) hx hb dX8_clause_67 (by decide) (fun cn_111 => ?_) (fun cn_111 => ?_)
              · skip
                refine lv_iconst (v := nI 1) hx hb dX8_clause_74 (by rfl) ?_
                have hPc := hP.sub (ws' := [(m0, .inr (6, [.ref w0, .ref w1, .ref w2, .int ik, .ref w3, .int (nI tx), .int (nI hpn_95), .int (nI f9), .ref w4, .ref w5, .int (nI cl), .ref w6, .ref w7, .ref w8, .ref w9])), (w3, .inl (E 0, 100, .inl tg))]) [0, 1] rfl
                have hDc := hD.sub (ws' := [(m0, .inr (6, [.ref w0, .ref w1, .ref w2, .int ik, .ref w3, .int (nI tx), .int (nI hpn_95), .int (nI f9), .ref w4, .ref w5, .int (nI cl), .ref w6, .ref w7, .ref w8, .ref w9])), (w3, .inl (E 0, 100, .inl tg))]) [0, 1] (by decide +kernel) rfl
                have hAc := zw_AA (wc := [(m0, .inr (6, [.ref w0, .ref w1, .ref w2, .int ik, .ref w3, .int (nI tx), .int (nI hpn_95), .int (nI f9), .ref w4, .ref w5, .int (nI cl), .ref w6, .ref w7, .ref w8, .ref w9])), (w3, .inl (E 0, 100, .inl tg))]) hD [0, 1] rfl
                refine zw_ci hAc hS (va_runV (As := [.int (nI 1)]) (rest := [.int (nI ((3 * cl) + 1)), .ref w5]) ⟨hx, hb, hml, hown, hts⟩ (c_X8_number_f l D E m0 w0 w1 w2 w3 w4 w5 w6 w7 w8 w9 ik tx cl wv hpn_95 tg T 1 f9 (htx) (by omega) (by omega)) (cwV 1 hts gX8_clause_X8_number rfl rfl rfl (by decide +kernel) ⟨Nat.le_of_ble_eq_true rfl, Nat.le_of_ble_eq_true rfl⟩) (zw_V hK hPc hDc (ci := 6) (q0 := 0) rfl rfl) rfl rfl hl.1 rfl (lv_room (Nat.le_of_ble_eq_true rfl)) dX8_clause_75 ⟨Nat.zero_le _, Nat.zero_le _⟩) (fun r_112 u_114 H locs hw_113 hP1 hD1 hk1 hS => ?_)
                obtain ⟨hP, hD⟩ := zw_join (wr := [(w4, .inl (E 0, 12, .inl (upd wd cl (nI 4)))), (w5, .inl (E 0, 36, .inl (upd nu (3 * cl) (nI 0))))]) (w1 := [(m0, .inr (6, [.ref w0, .ref w1, .ref w2, .int ik, .ref w3, .int (nI tx), .int (nI hpn_95), .int (nI f9), .ref w4, .ref w5, .int (nI cl), .ref w6, .ref w7, .ref w8, .ref w9])), (w3, .inl (E 0, 100, .inl tg))]) (ws' := [(m0, .inr (6, [.ref w0, .ref w1, .ref w2, .int ik, .ref w3, .int (nI tx), .int (nI hpn_95), .int (nI f9), .ref w4, .ref w5, .int (nI cl), .ref w6, .ref w7, .ref w8, .ref w9])), (w3, .inl (E 0, 100, .inl tg)), (w4, .inl (E 0, 12, .inl (upd wd cl (nI 4)))), (w5, .inl (E 0, 36, .inl (upd nu (3 * cl) (nI 0))))]) hP hD [0, 1] [2, 3] [2, 3, 0, 1] rfl rfl (by decide +kernel) (by decide +kernel) hAc hk1 hP1 hD1 (by decide +kernel) rfl
                clear hP1 hD1 hk1 hPc hDc hAc
                obtain ⟨rfl, hw_113⟩ := hw_113
                refine va_iast hx hb hK.1 hP hD hS 3 0 rfl rfl (vp_in_nI (by omega) (by omega)) dX8_clause_78 (fun H locs hP hD hS => ?_)
                have hP : va_P D vwCl [(m0, .inr (6, [.ref w0, .ref w1, .ref w2, .int ik, .ref w3, .int (nI tx), .int (nI hpn_95), .int (nI f9), .ref w4, .ref w5, .int (nI cl), .ref w6, .ref w7, .ref w8, .ref w9])), (w3, .inl (E 0, 100, .inl tg)), (w4, .inl (E 0, 12, .inl (upd wd cl (nI 4)))), (w5, .inl (E 0, 36, .inl (upd (upd nu (3 * cl) (nI 0)) (nI ((3 * cl) + 1)).toNatClampNeg (nI 0))))] H := hP
                have hD : va_D A [(m0, .inr (6, [.ref w0, .ref w1, .ref w2, .int ik, .ref w3, .int (nI tx), .int (nI hpn_95), .int (nI f9), .ref w4, .ref w5, .int (nI cl), .ref w6, .ref w7, .ref w8, .ref w9])), (w3, .inl (E 0, 100, .inl tg)), (w4, .inl (E 0, 12, .inl (upd wd cl (nI 4)))), (w5, .inl (E 0, 36, .inl (upd (upd nu (3 * cl) (nI 0)) (nI ((3 * cl) + 1)).toNatClampNeg (nI 0))))] := hD
                have hcz : (upd (upd nu (3 * cl) (nI 0)) (nI ((3 * cl) + 1)).toNatClampNeg (nI 0)) = (upd (upd nu (3 * cl) (nI 0)) ((3 * cl) + 1) (nI 0)) := by rw [nI_clamp (n := (3 * cl) + 1) (by omega)]
                rw [hcz] at hP hD
                refine lv_iload_n hx hb dX8_clause_79 rfl (lv_at hl 1 rfl) ?_
                refine lv_bipush (v := nI 7) hx hb dX8_clause_80 (by rfl) ?_
                refine lv_icmp_ne (tgt := 98) hx hb dX8_clause_82 (by decide) (fun cn_115 => ?_) (fun cn_115 => ?_)
                · skip
                  refine lv_aload_n hx hb dX8_clause_98 rfl (lv_at hl 2 rfl) ?_
                  refine lv_dup hx hb dX8_clause_99 rfl ?_
                  refine va_get (D := D) (ci := 6) (v := .int (nI cl)) (C := RX8) (T := TX8) (N := 15) hx hb hts (by decide +kernel) hown hK.1 hP 0 rfl rfl 10 (by decide) (hts (.fieldLink RX8 132 "HomeRoundsModel" "clauses" "I") (by decide +kernel)) (fun _ h9 => h9) rfl dX8_clause_100 ?_
                  refine lv_iconst (v := nI 1) hx hb dX8_clause_103 (by rfl) ?_
                  refine lv_iadd hx hb dX8_clause_104 ?_
                  refine zr_ti (y := nI (cl + 1)) (nI_add _ _) ?_
                  refine va_put (D := D) (ci := 6) (v := .int (nI (cl + 1))) (ty := .int) (C := RX8) (T := TX8) (N := 15) hx hb hts (by decide +kernel) tyX8 tyX8_ok nmX8 hown hK.1 hP hD hS 0 rfl rfl 10 (by decide) (hts (.fieldLink RX8 132 "HomeRoundsModel" "clauses" "I") (by decide +kernel)) (fun _ h9 => h9) rfl (by decide +kernel) rfl rfl (Nat.le_of_ble_eq_true rfl) dX8_clause_105 (fun H locs hP hD hS => ?_)
                  have hP : va_P D vwCl [(m0, .inr (6, [.ref w0, .ref w1, .ref w2, .int ik, .ref w3, .int (nI tx), .int (nI hpn_95), .int (nI f9), .ref w4, .ref w5, .int (nI (cl + 1)), .ref w6, .ref w7, .ref w8, .ref w9])), (w3, .inl (E 0, 100, .inl tg)), (w4, .inl (E 0, 12, .inl (upd wd cl (nI 4)))), (w5, .inl (E 0, 36, .inl (upd (upd nu (3 * cl) (nI 0)) ((3 * cl) + 1) (nI 0))))] H := hP
                  have hD : va_D A [(m0, .inr (6, [.ref w0, .ref w1, .ref w2, .int ik, .ref w3, .int (nI tx), .int (nI hpn_95), .int (nI f9), .ref w4, .ref w5, .int (nI (cl + 1)), .ref w6, .ref w7, .ref w8, .ref w9])), (w3, .inl (E 0, 100, .inl tg)), (w4, .inl (E 0, 12, .inl (upd wd cl (nI 4)))), (w5, .inl (E 0, 36, .inl (upd (upd nu (3 * cl) (nI 0)) ((3 * cl) + 1) (nI 0))))] := hD
                  subst hQ; subst hAe
                  exact W.vret hx hb hr (fun tz htz hWz => ⟨⟨(hpn_95, nI f9, cl + 1, (upd wd cl (nI 4)), (upd (upd nu (3 * cl) (nI 0)) ((3 * cl) + 1) (nI 0))), rfl, ⟨by rw [hcF.trans (zx_fl_cs hfl0)]; rfl, fun q => by rw [hcF.trans (zx_fl_cs hfl0)] at q; cases q⟩, by rw [htz]; exact hP, hD⟩, hS.F htz⟩) hS.2.2 dX8_clause_108
                · skip
                  exact absurd cn_115 (by decide)
              · skip
                exact absurd cn_111 (by decide)
    · skip
      exact absurd cn_91 (by decide)
  · skip
    refine zr_ti (y := nI 5) (hwz.trans (by rw [hcw]; rfl)) ?_
    rw [hpe, hfa, hcw, if_pos (by decide)] at hP hD
    have hcF : zx_cF T tx hp = zx_fl T tx [0, 1] (zx_we T tx 100 hp) := by unfold zx_cF; rw [hcw, if_neg (by decide)]; rfl
    have hle2 := zx_we_le (T := T) (L := tx) 100 hp hpt8
    refine lv_istore_n (lv' := [(1, .int (nI 5)), (0, .ref m0)]) hx hb dX8_clause_4 rfl hl (by decide) rfl (fun ls hl => ?_)
    refine lv_aload_n hx hb dX8_clause_5 rfl (lv_at hl 1 rfl) ?_
    refine va_get (D := D) (ci := 6) (v := .int (-1)) (C := RX8) (T := TX8) (N := 15) hx hb hts (by decide +kernel) hown hK.1 hP 0 rfl rfl 7 (by decide) (hts (.fieldLink RX8 106 "HomeRoundsModel" "fault" "I") (by decide +kernel)) (fun _ h9 => h9) rfl dX8_clause_6 ?_
    refine lv_if_lt (tgt := 13) hx hb dX8_clause_9 (by decide) (fun cn_116 => ?_) (fun cn_116 => ?_)
    · skip
      refine lv_iconst (v := nI 3) hx hb dX8_clause_13 (by rfl) ?_
      refine lv_aload_n hx hb dX8_clause_14 rfl (lv_at hl 1 rfl) ?_
      refine va_get (D := D) (ci := 6) (v := .int (nI cl)) (C := RX8) (T := TX8) (N := 15) hx hb hts (by decide +kernel) hown hK.1 hP 0 rfl rfl 10 (by decide) (hts (.fieldLink RX8 132 "HomeRoundsModel" "clauses" "I") (by decide +kernel)) (fun _ h9 => h9) rfl dX8_clause_15 ?_
      refine lv_imul hx hb dX8_clause_18 ?_
      refine zr_ti (y := nI (3 * cl)) (pk_mul _ _) ?_
      refine lv_istore_n (lv' := [(2, .int (nI (3 * cl))), (1, .int (nI 5)), (0, .ref m0)]) hx hb dX8_clause_19 rfl hl (by decide) rfl (fun ls hl => ?_)
      refine lv_aload_n hx hb dX8_clause_20 rfl (lv_at hl 2 rfl) ?_
      refine va_get (D := D) (ci := 6) (v := .ref w4) (C := RX8) (T := TX8) (N := 15) hx hb hts (by decide +kernel) hown hK.1 hP 0 rfl rfl 8 (by decide) (hts (.fieldLink RX8 24 "HomeRoundsModel" "words" "[I") (by decide +kernel)) (fun _ h9 => h9) rfl dX8_clause_21 ?_
      refine lv_aload_n hx hb dX8_clause_24 rfl (lv_at hl 2 rfl) ?_
      refine va_get (D := D) (ci := 6) (v := .int (nI cl)) (C := RX8) (T := TX8) (N := 15) hx hb hts (by decide +kernel) hown hK.1 hP 0 rfl rfl 10 (by decide) (hts (.fieldLink RX8 132 "HomeRoundsModel" "clauses" "I") (by decide +kernel)) (fun _ h9 => h9) rfl dX8_clause_25 ?_
      refine lv_iload_n hx hb dX8_clause_28 rfl (lv_at hl 1 rfl) ?_
      refine va_iast hx hb hK.1 hP hD hS 2 0 rfl rfl (vp_in_nI (by omega) (by omega)) dX8_clause_29 (fun H locs hP hD hS => ?_)
      have hP : va_P D vwCl [(m0, .inr (6, [.ref w0, .ref w1, .ref w2, .int ik, .ref w3, .int (nI tx), .int (nI (zx_we T tx 100 hp)), .int (-1), .ref w4, .ref w5, .int (nI cl), .ref w6, .ref w7, .ref w8, .ref w9])), (w3, .inl (E 0, 100, .inl tg)), (w4, .inl (E 0, 12, .inl (upd wd (nI cl).toNatClampNeg (nI 5)))), (w5, .inl (E 0, 36, .inl nu))] H := hP
      have hD : va_D A [(m0, .inr (6, [.ref w0, .ref w1, .ref w2, .int ik, .ref w3, .int (nI tx), .int (nI (zx_we T tx 100 hp)), .int (-1), .ref w4, .ref w5, .int (nI cl), .ref w6, .ref w7, .ref w8, .ref w9])), (w3, .inl (E 0, 100, .inl tg)), (w4, .inl (E 0, 12, .inl (upd wd (nI cl).toNatClampNeg (nI 5)))), (w5, .inl (E 0, 36, .inl nu))] := hD
      have hcz : (upd wd (nI cl).toNatClampNeg (nI 5)) = (upd wd cl (nI 5)) := by rw [nI_clamp (n := cl) (by omega)]
      rw [hcz] at hP hD
      refine lv_aload_n hx hb dX8_clause_30 rfl (lv_at hl 2 rfl) ?_
      refine va_get (D := D) (ci := 6) (v := .ref w5) (C := RX8) (T := TX8) (N := 15) hx hb hts (by decide +kernel) hown hK.1 hP 0 rfl rfl 9 (by decide) (hts (.fieldLink RX8 27 "HomeRoundsModel" "numbers" "[I") (by decide +kernel)) (fun _ h9 => h9) rfl dX8_clause_31 ?_
      refine lv_iload_n hx hb dX8_clause_34 rfl (lv_at hl 0 rfl) ?_
      refine lv_aload_n hx hb dX8_clause_35 rfl (lv_at hl 2 rfl) ?_
      refine lv_iconst (v := nI 1) hx hb dX8_clause_36 (by rfl) ?_
      have hPc := hP.sub (ws' := [(m0, .inr (6, [.ref w0, .ref w1, .ref w2, .int ik, .ref w3, .int (nI tx), .int (nI (zx_we T tx 100 hp)), .int (-1), .ref w4, .ref w5, .int (nI cl), .ref w6, .ref w7, .ref w8, .ref w9])), (w3, .inl (E 0, 100, .inl tg))]) [0, 1] rfl
      have hDc := hD.sub (ws' := [(m0, .inr (6, [.ref w0, .ref w1, .ref w2, .int ik, .ref w3, .int (nI tx), .int (nI (zx_we T tx 100 hp)), .int (-1), .ref w4, .ref w5, .int (nI cl), .ref w6, .ref w7, .ref w8, .ref w9])), (w3, .inl (E 0, 100, .inl tg))]) [0, 1] (by decide +kernel) rfl
      have hAc := zw_AA (wc := [(m0, .inr (6, [.ref w0, .ref w1, .ref w2, .int ik, .ref w3, .int (nI tx), .int (nI (zx_we T tx 100 hp)), .int (-1), .ref w4, .ref w5, .int (nI cl), .ref w6, .ref w7, .ref w8, .ref w9])), (w3, .inl (E 0, 100, .inl tg))]) hD [0, 1] rfl
      refine zw_ci hAc hS (va_runV (As := [.int (nI 1)]) (rest := [.int (nI (3 * cl)), .ref w5]) ⟨hx, hb, hml, hown, hts⟩ (c_X8_number_1 l D E m0 w0 w1 w2 w3 w4 w5 w6 w7 w8 w9 ik tx cl wv (zx_we T tx 100 hp) tg T (htx) (by omega)) (cwV 1 hts gX8_clause_X8_number rfl rfl rfl (by decide +kernel) ⟨Nat.le_of_ble_eq_true rfl, Nat.le_of_ble_eq_true rfl⟩) (zw_V hK hPc hDc (ci := 6) (q0 := 0) rfl rfl) rfl rfl hl.1 rfl (lv_room (Nat.le_of_ble_eq_true rfl)) dX8_clause_37 ⟨Nat.zero_le _, Nat.zero_le _⟩) (fun r_117 u_119 H locs hw_118 hP1 hD1 hk1 hS => ?_)
      obtain ⟨hpn_120, fan_121⟩ := u_119
      try dsimp only at hw_118 hP1 hD1
      obtain ⟨hP, hD⟩ := zw_join (wr := [(w4, .inl (E 0, 12, .inl (upd wd cl (nI 5)))), (w5, .inl (E 0, 36, .inl nu))]) (w1 := [(m0, .inr (6, [.ref w0, .ref w1, .ref w2, .int ik, .ref w3, .int (nI tx), .int (nI hpn_120), .int fan_121, .ref w4, .ref w5, .int (nI cl), .ref w6, .ref w7, .ref w8, .ref w9])), (w3, .inl (E 0, 100, .inl tg))]) (ws' := [(m0, .inr (6, [.ref w0, .ref w1, .ref w2, .int ik, .ref w3, .int (nI tx), .int (nI hpn_120), .int fan_121, .ref w4, .ref w5, .int (nI cl), .ref w6, .ref w7, .ref w8, .ref w9])), (w3, .inl (E 0, 100, .inl tg)), (w4, .inl (E 0, 12, .inl (upd wd cl (nI 5)))), (w5, .inl (E 0, 36, .inl nu))]) hP hD [0, 1] [2, 3] [2, 3, 0, 1] rfl rfl (by decide +kernel) (by decide +kernel) hAc hk1 hP1 hD1 (by decide +kernel) rfl
      clear hP1 hD1 hk1 hPc hDc hAc
      have hn9 := hw_118
      obtain ⟨hle0, ⟨hfl0, hfa, hzv, hpq⟩ | ⟨f9, hf9, hfl0, hfa, hzv⟩⟩ := hn9
      · skip
        refine zr_ti (y := nI (zx_nv T tx 0 (zx_we T tx 100 hp + 1))) hzv ?_
        rw [hpq, hfa] at hP hD
        rw [hpq] at hle0
        refine va_iast hx hb hK.1 hP hD hS 3 0 rfl rfl (vp_in_nI (by omega) (by omega)) dX8_clause_40 (fun H locs hP hD hS => ?_)
        have hP : va_P D vwCl [(m0, .inr (6, [.ref w0, .ref w1, .ref w2, .int ik, .ref w3, .int (nI tx), .int (nI (zx_np T tx 0 (zx_we T tx 100 hp + 1))), .int (-1), .ref w4, .ref w5, .int (nI cl), .ref w6, .ref w7, .ref w8, .ref w9])), (w3, .inl (E 0, 100, .inl tg)), (w4, .inl (E 0, 12, .inl (upd wd cl (nI 5)))), (w5, .inl (E 0, 36, .inl (upd nu (nI (3 * cl)).toNatClampNeg (nI (zx_nv T tx 0 (zx_we T tx 100 hp + 1))))))] H := hP
        have hD : va_D A [(m0, .inr (6, [.ref w0, .ref w1, .ref w2, .int ik, .ref w3, .int (nI tx), .int (nI (zx_np T tx 0 (zx_we T tx 100 hp + 1))), .int (-1), .ref w4, .ref w5, .int (nI cl), .ref w6, .ref w7, .ref w8, .ref w9])), (w3, .inl (E 0, 100, .inl tg)), (w4, .inl (E 0, 12, .inl (upd wd cl (nI 5)))), (w5, .inl (E 0, 36, .inl (upd nu (nI (3 * cl)).toNatClampNeg (nI (zx_nv T tx 0 (zx_we T tx 100 hp + 1))))))] := hD
        have hcz : (upd nu (nI (3 * cl)).toNatClampNeg (nI (zx_nv T tx 0 (zx_we T tx 100 hp + 1)))) = (upd nu (3 * cl) (nI (zx_nv T tx 0 (zx_we T tx 100 hp + 1)))) := by rw [nI_clamp (n := 3 * cl) (by omega)]
        rw [hcz] at hP hD
        refine lv_iload_n hx hb dX8_clause_41 rfl (lv_at hl 1 rfl) ?_
        refine lv_if_eq (tgt := 79) hx hb dX8_clause_42 (by decide) (fun cn_122 => ?_) (fun cn_122 => ?_)
        · skip
          exact absurd cn_122 (by decide)
        · skip
          refine lv_iload_n hx hb dX8_clause_45 rfl (lv_at hl 1 rfl) ?_
          refine lv_bipush (v := nI 6) hx hb dX8_clause_46 (by rfl) ?_
          refine lv_icmp_eq (tgt := 79) hx hb dX8_clause_48 (by decide) (fun cn_123 => ?_) (fun cn_123 => ?_)
          · skip
            exact absurd cn_123 (by decide)
          · skip
            refine lv_aload_n hx hb dX8_clause_51 rfl (lv_at hl 2 rfl) ?_
            refine va_get (D := D) (ci := 6) (v := .ref w5) (C := RX8) (T := TX8) (N := 15) hx hb hts (by decide +kernel) hown hK.1 hP 0 rfl rfl 9 (by decide) (hts (.fieldLink RX8 27 "HomeRoundsModel" "numbers" "[I") (by decide +kernel)) (fun _ h9 => h9) rfl dX8_clause_52 ?_
            refine lv_iload_n hx hb dX8_clause_55 rfl (lv_at hl 0 rfl) ?_
            refine lv_iconst (v := nI 1) hx hb dX8_clause_56 (by rfl) ?_
            refine lv_iadd hx hb dX8_clause_57 ?_
            refine zr_ti (y := nI ((3 * cl) + 1)) (nI_add _ _) ?_
            refine lv_aload_n hx hb dX8_clause_58 rfl (lv_at hl 2 rfl) ?_
            refine lv_iload_n hx hb dX8_clause_59 rfl (lv_at hl 1 rfl) ?_
            refine lv_iconst (v := nI 5) hx hb dX8_clause_60 (by rfl) ?_
            refine lv_icmp_eq (tgt := 70) hx hb dX8_clause_61 (by decide) (fun cn_124 => ?_) (fun cn_124 => ?_)
            · skip
              refine lv_iconst (v := nI 2) hx hb dX8_clause_70 (by rfl) ?_
              refine lv_goto (tgt := 75) hx hb dX8_clause_71 (by decide) ?_
              have hPc := hP.sub (ws' := [(m0, .inr (6, [.ref w0, .ref w1, .ref w2, .int ik, .ref w3, .int (nI tx), .int (nI (zx_np T tx 0 (zx_we T tx 100 hp + 1))), .int (-1), .ref w4, .ref w5, .int (nI cl), .ref w6, .ref w7, .ref w8, .ref w9])), (w3, .inl (E 0, 100, .inl tg))]) [0, 1] rfl
              have hDc := hD.sub (ws' := [(m0, .inr (6, [.ref w0, .ref w1, .ref w2, .int ik, .ref w3, .int (nI tx), .int (nI (zx_np T tx 0 (zx_we T tx 100 hp + 1))), .int (-1), .ref w4, .ref w5, .int (nI cl), .ref w6, .ref w7, .ref w8, .ref w9])), (w3, .inl (E 0, 100, .inl tg))]) [0, 1] (by decide +kernel) rfl
              have hAc := zw_AA (wc := [(m0, .inr (6, [.ref w0, .ref w1, .ref w2, .int ik, .ref w3, .int (nI tx), .int (nI (zx_np T tx 0 (zx_we T tx 100 hp + 1))), .int (-1), .ref w4, .ref w5, .int (nI cl), .ref w6, .ref w7, .ref w8, .ref w9])), (w3, .inl (E 0, 100, .inl tg))]) hD [0, 1] rfl
              refine zw_ci hAc hS (va_runV (As := [.int (nI 2)]) (rest := [.int (nI ((3 * cl) + 1)), .ref w5]) ⟨hx, hb, hml, hown, hts⟩ (c_X8_number_2 l D E m0 w0 w1 w2 w3 w4 w5 w6 w7 w8 w9 ik tx cl wv (zx_np T tx 0 (zx_we T tx 100 hp + 1)) tg T (htx) (by omega)) (cwV 1 hts gX8_clause_X8_number rfl rfl rfl (by decide +kernel) ⟨Nat.le_of_ble_eq_true rfl, Nat.le_of_ble_eq_true rfl⟩) (zw_V hK hPc hDc (ci := 6) (q0 := 0) rfl rfl) rfl rfl hl.1 rfl (lv_room (Nat.le_of_ble_eq_true rfl)) dX8_clause_75 ⟨Nat.zero_le _, Nat.zero_le _⟩) (fun r_125 u_127 H locs hw_126 hP1 hD1 hk1 hS => ?_)
              obtain ⟨hpn_128, fan_129⟩ := u_127
              try dsimp only at hw_126 hP1 hD1
              obtain ⟨hP, hD⟩ := zw_join (wr := [(w4, .inl (E 0, 12, .inl (upd wd cl (nI 5)))), (w5, .inl (E 0, 36, .inl (upd nu (3 * cl) (nI (zx_nv T tx 0 (zx_we T tx 100 hp + 1))))))]) (w1 := [(m0, .inr (6, [.ref w0, .ref w1, .ref w2, .int ik, .ref w3, .int (nI tx), .int (nI hpn_128), .int fan_129, .ref w4, .ref w5, .int (nI cl), .ref w6, .ref w7, .ref w8, .ref w9])), (w3, .inl (E 0, 100, .inl tg))]) (ws' := [(m0, .inr (6, [.ref w0, .ref w1, .ref w2, .int ik, .ref w3, .int (nI tx), .int (nI hpn_128), .int fan_129, .ref w4, .ref w5, .int (nI cl), .ref w6, .ref w7, .ref w8, .ref w9])), (w3, .inl (E 0, 100, .inl tg)), (w4, .inl (E 0, 12, .inl (upd wd cl (nI 5)))), (w5, .inl (E 0, 36, .inl (upd nu (3 * cl) (nI (zx_nv T tx 0 (zx_we T tx 100 hp + 1))))))]) hP hD [0, 1] [2, 3] [2, 3, 0, 1] rfl rfl (by decide +kernel) (by decide +kernel) hAc hk1 hP1 hD1 (by decide +kernel) rfl
              clear hP1 hD1 hk1 hPc hDc hAc
              have hn9 := hw_126
              obtain ⟨hle1, ⟨hfl1, hfa, hzv, hpq⟩ | ⟨f9, hf9, hfl1, hfa, hzv⟩⟩ := hn9
              · skip
                refine zr_ti (y := nI (zx_nv T tx 1 ((zx_np T tx 0 (zx_we T tx 100 hp + 1)) + 1))) hzv ?_
                rw [hpq, hfa] at hP hD
                rw [hpq] at hle1
                refine va_iast hx hb hK.1 hP hD hS 3 0 rfl rfl (vp_in_nI (by omega) (by omega)) dX8_clause_78 (fun H locs hP hD hS => ?_)
                have hP : va_P D vwCl [(m0, .inr (6, [.ref w0, .ref w1, .ref w2, .int ik, .ref w3, .int (nI tx), .int (nI (zx_np T tx 1 ((zx_np T tx 0 (zx_we T tx 100 hp + 1)) + 1))), .int (-1), .ref w4, .ref w5, .int (nI cl), .ref w6, .ref w7, .ref w8, .ref w9])), (w3, .inl (E 0, 100, .inl tg)), (w4, .inl (E 0, 12, .inl (upd wd cl (nI 5)))), (w5, .inl (E 0, 36, .inl (upd (upd nu (3 * cl) (nI (zx_nv T tx 0 (zx_we T tx 100 hp + 1)))) (nI ((3 * cl) + 1)).toNatClampNeg (nI (zx_nv T tx 1 ((zx_np T tx 0 (zx_we T tx 100 hp + 1)) + 1))))))] H := hP
                have hD : va_D A [(m0, .inr (6, [.ref w0, .ref w1, .ref w2, .int ik, .ref w3, .int (nI tx), .int (nI (zx_np T tx 1 ((zx_np T tx 0 (zx_we T tx 100 hp + 1)) + 1))), .int (-1), .ref w4, .ref w5, .int (nI cl), .ref w6, .ref w7, .ref w8, .ref w9])), (w3, .inl (E 0, 100, .inl tg)), (w4, .inl (E 0, 12, .inl (upd wd cl (nI 5)))), (w5, .inl (E 0, 36, .inl (upd (upd nu (3 * cl) (nI (zx_nv T tx 0 (zx_we T tx 100 hp + 1)))) (nI ((3 * cl) + 1)).toNatClampNeg (nI (zx_nv T tx 1 ((zx_np T tx 0 (zx_we T tx 100 hp + 1)) + 1))))))] := hD
                have hcz : (upd (upd nu (3 * cl) (nI (zx_nv T tx 0 (zx_we T tx 100 hp + 1)))) (nI ((3 * cl) + 1)).toNatClampNeg (nI (zx_nv T tx 1 ((zx_np T tx 0 (zx_we T tx 100 hp + 1)) + 1)))) = (upd (upd nu (3 * cl) (nI (zx_nv T tx 0 (zx_we T tx 100 hp + 1)))) ((3 * cl) + 1) (nI (zx_nv T tx 1 ((zx_np T tx 0 (zx_we T tx 100 hp + 1)) + 1)))) := by rw [nI_clamp (n := (3 * cl) + 1) (by omega)]
                rw [hcz] at hP hD
                refine lv_iload_n hx hb dX8_clause_79 rfl (lv_at hl 1 rfl) ?_
                refine lv_bipush (v := nI 7) hx hb dX8_clause_80 (by rfl) ?_
                refine lv_icmp_ne (tgt := 98) hx hb dX8_clause_82 (by decide) (fun cn_130 => ?_) (fun cn_130 => ?_)
                · skip
                  refine lv_aload_n hx hb dX8_clause_98 rfl (lv_at hl 2 rfl) ?_
                  refine lv_dup hx hb dX8_clause_99 rfl ?_
                  refine va_get (D := D) (ci := 6) (v := .int (nI cl)) (C := RX8) (T := TX8) (N := 15) hx hb hts (by decide +kernel) hown hK.1 hP 0 rfl rfl 10 (by decide) (hts (.fieldLink RX8 132 "HomeRoundsModel" "clauses" "I") (by decide +kernel)) (fun _ h9 => h9) rfl dX8_clause_100 ?_
                  refine lv_iconst (v := nI 1) hx hb dX8_clause_103 (by rfl) ?_
                  refine lv_iadd hx hb dX8_clause_104 ?_
                  refine zr_ti (y := nI (cl + 1)) (nI_add _ _) ?_
                  refine va_put (D := D) (ci := 6) (v := .int (nI (cl + 1))) (ty := .int) (C := RX8) (T := TX8) (N := 15) hx hb hts (by decide +kernel) tyX8 tyX8_ok nmX8 hown hK.1 hP hD hS 0 rfl rfl 10 (by decide) (hts (.fieldLink RX8 132 "HomeRoundsModel" "clauses" "I") (by decide +kernel)) (fun _ h9 => h9) rfl (by decide +kernel) rfl rfl (Nat.le_of_ble_eq_true rfl) dX8_clause_105 (fun H locs hP hD hS => ?_)
                  have hP : va_P D vwCl [(m0, .inr (6, [.ref w0, .ref w1, .ref w2, .int ik, .ref w3, .int (nI tx), .int (nI (zx_np T tx 1 ((zx_np T tx 0 (zx_we T tx 100 hp + 1)) + 1))), .int (-1), .ref w4, .ref w5, .int (nI (cl + 1)), .ref w6, .ref w7, .ref w8, .ref w9])), (w3, .inl (E 0, 100, .inl tg)), (w4, .inl (E 0, 12, .inl (upd wd cl (nI 5)))), (w5, .inl (E 0, 36, .inl (upd (upd nu (3 * cl) (nI (zx_nv T tx 0 (zx_we T tx 100 hp + 1)))) ((3 * cl) + 1) (nI (zx_nv T tx 1 ((zx_np T tx 0 (zx_we T tx 100 hp + 1)) + 1))))))] H := hP
                  have hD : va_D A [(m0, .inr (6, [.ref w0, .ref w1, .ref w2, .int ik, .ref w3, .int (nI tx), .int (nI (zx_np T tx 1 ((zx_np T tx 0 (zx_we T tx 100 hp + 1)) + 1))), .int (-1), .ref w4, .ref w5, .int (nI (cl + 1)), .ref w6, .ref w7, .ref w8, .ref w9])), (w3, .inl (E 0, 100, .inl tg)), (w4, .inl (E 0, 12, .inl (upd wd cl (nI 5)))), (w5, .inl (E 0, 36, .inl (upd (upd nu (3 * cl) (nI (zx_nv T tx 0 (zx_we T tx 100 hp + 1)))) ((3 * cl) + 1) (nI (zx_nv T tx 1 ((zx_np T tx 0 (zx_we T tx 100 hp + 1)) + 1))))))] := hD
                  subst hQ; subst hAe
                  exact W.vret hx hb hr (fun tz htz hWz => ⟨⟨(zx_np T tx 1 ((zx_np T tx 0 (zx_we T tx 100 hp + 1)) + 1), (-1), cl + 1, (upd wd cl (nI 5)), (upd (upd nu (3 * cl) (nI (zx_nv T tx 0 (zx_we T tx 100 hp + 1)))) ((3 * cl) + 1) (nI (zx_nv T tx 1 ((zx_np T tx 0 (zx_we T tx 100 hp + 1)) + 1))))), rfl, ⟨by rw [hcF.trans ((zx_fl_cn hfl0).trans (zx_fl_cn hfl1))]; rfl, fun q => ⟨by unfold zx_cP; rw [hcw]; rfl, rfl, zx_mput_g hcw (by decide) rfl (fun j hj => by show upd _ _ _ _ = _; unfold upd; rw [if_neg (by omega), if_neg (by omega)]) (fun j hj => by
    have h9 : j = 0 ∨ j = 1 := (by have : j < 2 := hj; omega)
    rcases h9 with rfl | rfl; (show upd _ _ _ _ = _; unfold upd; rw [if_neg (by omega), if_pos (by omega)]; rfl); (show upd _ _ _ _ = _; unfold upd; rw [if_pos (by omega)]; rfl))⟩⟩, by rw [htz]; exact hP, hD⟩, hS.F htz⟩) hS.2.2 dX8_clause_108
                · skip
                  exact absurd cn_130 (by decide)
              · skip
                refine zr_ti (y := nI 0) hzv ?_
                rw [hfa] at hP hD
                refine va_iast hx hb hK.1 hP hD hS 3 0 rfl rfl (vp_in_nI (by omega) (by omega)) dX8_clause_78 (fun H locs hP hD hS => ?_)
                have hP : va_P D vwCl [(m0, .inr (6, [.ref w0, .ref w1, .ref w2, .int ik, .ref w3, .int (nI tx), .int (nI hpn_128), .int (nI f9), .ref w4, .ref w5, .int (nI cl), .ref w6, .ref w7, .ref w8, .ref w9])), (w3, .inl (E 0, 100, .inl tg)), (w4, .inl (E 0, 12, .inl (upd wd cl (nI 5)))), (w5, .inl (E 0, 36, .inl (upd (upd nu (3 * cl) (nI (zx_nv T tx 0 (zx_we T tx 100 hp + 1)))) (nI ((3 * cl) + 1)).toNatClampNeg (nI 0))))] H := hP
                have hD : va_D A [(m0, .inr (6, [.ref w0, .ref w1, .ref w2, .int ik, .ref w3, .int (nI tx), .int (nI hpn_128), .int (nI f9), .ref w4, .ref w5, .int (nI cl), .ref w6, .ref w7, .ref w8, .ref w9])), (w3, .inl (E 0, 100, .inl tg)), (w4, .inl (E 0, 12, .inl (upd wd cl (nI 5)))), (w5, .inl (E 0, 36, .inl (upd (upd nu (3 * cl) (nI (zx_nv T tx 0 (zx_we T tx 100 hp + 1)))) (nI ((3 * cl) + 1)).toNatClampNeg (nI 0))))] := hD
                have hcz : (upd (upd nu (3 * cl) (nI (zx_nv T tx 0 (zx_we T tx 100 hp + 1)))) (nI ((3 * cl) + 1)).toNatClampNeg (nI 0)) = (upd (upd nu (3 * cl) (nI (zx_nv T tx 0 (zx_we T tx 100 hp + 1)))) ((3 * cl) + 1) (nI 0)) := by rw [nI_clamp (n := (3 * cl) + 1) (by omega)]
                rw [hcz] at hP hD
                refine lv_iload_n hx hb dX8_clause_79 rfl (lv_at hl 1 rfl) ?_
                refine lv_bipush (v := nI 7) hx hb dX8_clause_80 (by rfl) ?_
                refine lv_icmp_ne (tgt := 98) hx hb dX8_clause_82 (by decide) (fun cn_131 => ?_) (fun cn_131 => ?_)
                · skip
                  refine lv_aload_n hx hb dX8_clause_98 rfl (lv_at hl 2 rfl) ?_
                  refine lv_dup hx hb dX8_clause_99 rfl ?_
                  refine va_get (D := D) (ci := 6) (v := .int (nI cl)) (C := RX8) (T := TX8) (N := 15) hx hb hts (by decide +kernel) hown hK.1 hP 0 rfl rfl 10 (by decide) (hts (.fieldLink RX8 132 "HomeRoundsModel" "clauses" "I") (by decide +kernel)) (fun _ h9 => h9) rfl dX8_clause_100 ?_
                  refine lv_iconst (v := nI 1) hx hb dX8_clause_103 (by rfl) ?_
                  refine lv_iadd hx hb dX8_clause_104 ?_
                  refine zr_ti (y := nI (cl + 1)) (nI_add _ _) ?_
                  refine va_put (D := D) (ci := 6) (v := .int (nI (cl + 1))) (ty := .int) (C := RX8) (T := TX8) (N := 15) hx hb hts (by decide +kernel) tyX8 tyX8_ok nmX8 hown hK.1 hP hD hS 0 rfl rfl 10 (by decide) (hts (.fieldLink RX8 132 "HomeRoundsModel" "clauses" "I") (by decide +kernel)) (fun _ h9 => h9) rfl (by decide +kernel) rfl rfl (Nat.le_of_ble_eq_true rfl) dX8_clause_105 (fun H locs hP hD hS => ?_)
                  have hP : va_P D vwCl [(m0, .inr (6, [.ref w0, .ref w1, .ref w2, .int ik, .ref w3, .int (nI tx), .int (nI hpn_128), .int (nI f9), .ref w4, .ref w5, .int (nI (cl + 1)), .ref w6, .ref w7, .ref w8, .ref w9])), (w3, .inl (E 0, 100, .inl tg)), (w4, .inl (E 0, 12, .inl (upd wd cl (nI 5)))), (w5, .inl (E 0, 36, .inl (upd (upd nu (3 * cl) (nI (zx_nv T tx 0 (zx_we T tx 100 hp + 1)))) ((3 * cl) + 1) (nI 0))))] H := hP
                  have hD : va_D A [(m0, .inr (6, [.ref w0, .ref w1, .ref w2, .int ik, .ref w3, .int (nI tx), .int (nI hpn_128), .int (nI f9), .ref w4, .ref w5, .int (nI (cl + 1)), .ref w6, .ref w7, .ref w8, .ref w9])), (w3, .inl (E 0, 100, .inl tg)), (w4, .inl (E 0, 12, .inl (upd wd cl (nI 5)))), (w5, .inl (E 0, 36, .inl (upd (upd nu (3 * cl) (nI (zx_nv T tx 0 (zx_we T tx 100 hp + 1)))) ((3 * cl) + 1) (nI 0))))] := hD
                  subst hQ; subst hAe
                  exact W.vret hx hb hr (fun tz htz hWz => ⟨⟨(hpn_128, nI f9, cl + 1, (upd wd cl (nI 5)), (upd (upd nu (3 * cl) (nI (zx_nv T tx 0 (zx_we T tx 100 hp + 1)))) ((3 * cl) + 1) (nI 0))), rfl, ⟨by rw [hcF.trans ((zx_fl_cn hfl0).trans (zx_fl_cs hfl1))]; rfl, fun q => by rw [hcF.trans ((zx_fl_cn hfl0).trans (zx_fl_cs hfl1))] at q; cases q⟩, by rw [htz]; exact hP, hD⟩, hS.F htz⟩) hS.2.2 dX8_clause_108
                · skip
                  exact absurd cn_131 (by decide)
            · skip
              exact absurd cn_124 (by decide)
      · skip
        refine zr_ti (y := nI 0) hzv ?_
        rw [hfa] at hP hD
        refine va_iast hx hb hK.1 hP hD hS 3 0 rfl rfl (vp_in_nI (by omega) (by omega)) dX8_clause_40 (fun H locs hP hD hS => ?_)
        have hP : va_P D vwCl [(m0, .inr (6, [.ref w0, .ref w1, .ref w2, .int ik, .ref w3, .int (nI tx), .int (nI hpn_120), .int (nI f9), .ref w4, .ref w5, .int (nI cl), .ref w6, .ref w7, .ref w8, .ref w9])), (w3, .inl (E 0, 100, .inl tg)), (w4, .inl (E 0, 12, .inl (upd wd cl (nI 5)))), (w5, .inl (E 0, 36, .inl (upd nu (nI (3 * cl)).toNatClampNeg (nI 0))))] H := hP
        have hD : va_D A [(m0, .inr (6, [.ref w0, .ref w1, .ref w2, .int ik, .ref w3, .int (nI tx), .int (nI hpn_120), .int (nI f9), .ref w4, .ref w5, .int (nI cl), .ref w6, .ref w7, .ref w8, .ref w9])), (w3, .inl (E 0, 100, .inl tg)), (w4, .inl (E 0, 12, .inl (upd wd cl (nI 5)))), (w5, .inl (E 0, 36, .inl (upd nu (nI (3 * cl)).toNatClampNeg (nI 0))))] := hD
        have hcz : (upd nu (nI (3 * cl)).toNatClampNeg (nI 0)) = (upd nu (3 * cl) (nI 0)) := by rw [nI_clamp (n := 3 * cl) (by omega)]
        rw [hcz] at hP hD
        refine lv_iload_n hx hb dX8_clause_41 rfl (lv_at hl 1 rfl) ?_
        refine lv_if_eq (tgt := 79) hx hb dX8_clause_42 (by decide) (fun cn_132 => ?_) (fun cn_132 => ?_)
        · skip
          exact absurd cn_132 (by decide)
        · skip
          refine lv_iload_n hx hb dX8_clause_45 rfl (lv_at hl 1 rfl) ?_
          refine lv_bipush (v := nI 6) hx hb dX8_clause_46 (by rfl) ?_
          refine lv_icmp_eq (tgt := 79) hx hb dX8_clause_48 (by decide) (fun cn_133 => ?_) (fun cn_133 => ?_)
          · skip
            exact absurd cn_133 (by decide)
          · skip
            refine lv_aload_n hx hb dX8_clause_51 rfl (lv_at hl 2 rfl) ?_
            refine va_get (D := D) (ci := 6) (v := .ref w5) (C := RX8) (T := TX8) (N := 15) hx hb hts (by decide +kernel) hown hK.1 hP 0 rfl rfl 9 (by decide) (hts (.fieldLink RX8 27 "HomeRoundsModel" "numbers" "[I") (by decide +kernel)) (fun _ h9 => h9) rfl dX8_clause_52 ?_
            refine lv_iload_n hx hb dX8_clause_55 rfl (lv_at hl 0 rfl) ?_
            refine lv_iconst (v := nI 1) hx hb dX8_clause_56 (by rfl) ?_
            refine lv_iadd hx hb dX8_clause_57 ?_
            refine zr_ti (y := nI ((3 * cl) + 1)) (nI_add _ _) ?_
            refine lv_aload_n hx hb dX8_clause_58 rfl (lv_at hl 2 rfl) ?_
            refine lv_iload_n hx hb dX8_clause_59 rfl (lv_at hl 1 rfl) ?_
            refine lv_iconst (v := nI 5) hx hb dX8_clause_60 (by rfl) ?_
            refine lv_icmp_eq (tgt := 70) hx hb dX8_clause_61 (by decide) (fun cn_134 => ?_) (fun cn_134 => ?_)
            · skip
              refine lv_iconst (v := nI 2) hx hb dX8_clause_70 (by rfl) ?_
              refine lv_goto (tgt := 75) hx hb dX8_clause_71 (by decide) ?_
              have hPc := hP.sub (ws' := [(m0, .inr (6, [.ref w0, .ref w1, .ref w2, .int ik, .ref w3, .int (nI tx), .int (nI hpn_120), .int (nI f9), .ref w4, .ref w5, .int (nI cl), .ref w6, .ref w7, .ref w8, .ref w9])), (w3, .inl (E 0, 100, .inl tg))]) [0, 1] rfl
              have hDc := hD.sub (ws' := [(m0, .inr (6, [.ref w0, .ref w1, .ref w2, .int ik, .ref w3, .int (nI tx), .int (nI hpn_120), .int (nI f9), .ref w4, .ref w5, .int (nI cl), .ref w6, .ref w7, .ref w8, .ref w9])), (w3, .inl (E 0, 100, .inl tg))]) [0, 1] (by decide +kernel) rfl
              have hAc := zw_AA (wc := [(m0, .inr (6, [.ref w0, .ref w1, .ref w2, .int ik, .ref w3, .int (nI tx), .int (nI hpn_120), .int (nI f9), .ref w4, .ref w5, .int (nI cl), .ref w6, .ref w7, .ref w8, .ref w9])), (w3, .inl (E 0, 100, .inl tg))]) hD [0, 1] rfl
              refine zw_ci hAc hS (va_runV (As := [.int (nI 2)]) (rest := [.int (nI ((3 * cl) + 1)), .ref w5]) ⟨hx, hb, hml, hown, hts⟩ (c_X8_number_f l D E m0 w0 w1 w2 w3 w4 w5 w6 w7 w8 w9 ik tx cl wv hpn_120 tg T 2 f9 (htx) (by omega) (by omega)) (cwV 1 hts gX8_clause_X8_number rfl rfl rfl (by decide +kernel) ⟨Nat.le_of_ble_eq_true rfl, Nat.le_of_ble_eq_true rfl⟩) (zw_V hK hPc hDc (ci := 6) (q0 := 0) rfl rfl) rfl rfl hl.1 rfl (lv_room (Nat.le_of_ble_eq_true rfl)) dX8_clause_75 ⟨Nat.zero_le _, Nat.zero_le _⟩) (fun r_135 u_137 H locs hw_136 hP1 hD1 hk1 hS => ?_)
              obtain ⟨hP, hD⟩ := zw_join (wr := [(w4, .inl (E 0, 12, .inl (upd wd cl (nI 5)))), (w5, .inl (E 0, 36, .inl (upd nu (3 * cl) (nI 0))))]) (w1 := [(m0, .inr (6, [.ref w0, .ref w1, .ref w2, .int ik, .ref w3, .int (nI tx), .int (nI hpn_120), .int (nI f9), .ref w4, .ref w5, .int (nI cl), .ref w6, .ref w7, .ref w8, .ref w9])), (w3, .inl (E 0, 100, .inl tg))]) (ws' := [(m0, .inr (6, [.ref w0, .ref w1, .ref w2, .int ik, .ref w3, .int (nI tx), .int (nI hpn_120), .int (nI f9), .ref w4, .ref w5, .int (nI cl), .ref w6, .ref w7, .ref w8, .ref w9])), (w3, .inl (E 0, 100, .inl tg)), (w4, .inl (E 0, 12, .inl (upd wd cl (nI 5)))), (w5, .inl (E 0, 36, .inl (upd nu (3 * cl) (nI 0))))]) hP hD [0, 1] [2, 3] [2, 3, 0, 1] rfl rfl (by decide +kernel) (by decide +kernel) hAc hk1 hP1 hD1 (by decide +kernel) rfl
              clear hP1 hD1 hk1 hPc hDc hAc
              obtain ⟨rfl, hw_136⟩ := hw_136
              refine va_iast hx hb hK.1 hP hD hS 3 0 rfl rfl (vp_in_nI (by omega) (by omega)) dX8_clause_78 (fun H locs hP hD hS => ?_)
              have hP : va_P D vwCl [(m0, .inr (6, [.ref w0, .ref w1, .ref w2, .int ik, .ref w3, .int (nI tx), .int (nI hpn_120), .int (nI f9), .ref w4, .ref w5, .int (nI cl), .ref w6, .ref w7, .ref w8, .ref w9])), (w3, .inl (E 0, 100, .inl tg)), (w4, .inl (E 0, 12, .inl (upd wd cl (nI 5)))), (w5, .inl (E 0, 36, .inl (upd (upd nu (3 * cl) (nI 0)) (nI ((3 * cl) + 1)).toNatClampNeg (nI 0))))] H := hP
              have hD : va_D A [(m0, .inr (6, [.ref w0, .ref w1, .ref w2, .int ik, .ref w3, .int (nI tx), .int (nI hpn_120), .int (nI f9), .ref w4, .ref w5, .int (nI cl), .ref w6, .ref w7, .ref w8, .ref w9])), (w3, .inl (E 0, 100, .inl tg)), (w4, .inl (E 0, 12, .inl (upd wd cl (nI 5)))), (w5, .inl (E 0, 36, .inl (upd (upd nu (3 * cl) (nI 0)) (nI ((3 * cl) + 1)).toNatClampNeg (nI 0))))] := hD
              have hcz : (upd (upd nu (3 * cl) (nI 0)) (nI ((3 * cl) + 1)).toNatClampNeg (nI 0)) = (upd (upd nu (3 * cl) (nI 0)) ((3 * cl) + 1) (nI 0)) := by rw [nI_clamp (n := (3 * cl) + 1) (by omega)]
              rw [hcz] at hP hD
              refine lv_iload_n hx hb dX8_clause_79 rfl (lv_at hl 1 rfl) ?_
              refine lv_bipush (v := nI 7) hx hb dX8_clause_80 (by rfl) ?_
              refine lv_icmp_ne (tgt := 98) hx hb dX8_clause_82 (by decide) (fun cn_138 => ?_) (fun cn_138 => ?_)
              · skip
                refine lv_aload_n hx hb dX8_clause_98 rfl (lv_at hl 2 rfl) ?_
                refine lv_dup hx hb dX8_clause_99 rfl ?_
                refine va_get (D := D) (ci := 6) (v := .int (nI cl)) (C := RX8) (T := TX8) (N := 15) hx hb hts (by decide +kernel) hown hK.1 hP 0 rfl rfl 10 (by decide) (hts (.fieldLink RX8 132 "HomeRoundsModel" "clauses" "I") (by decide +kernel)) (fun _ h9 => h9) rfl dX8_clause_100 ?_
                refine lv_iconst (v := nI 1) hx hb dX8_clause_103 (by rfl) ?_
                refine lv_iadd hx hb dX8_clause_104 ?_
                refine zr_ti (y := nI (cl + 1)) (nI_add _ _) ?_
                refine va_put (D := D) (ci := 6) (v := .int (nI (cl + 1))) (ty := .int) (C := RX8) (T := TX8) (N := 15) hx hb hts (by decide +kernel) tyX8 tyX8_ok nmX8 hown hK.1 hP hD hS 0 rfl rfl 10 (by decide) (hts (.fieldLink RX8 132 "HomeRoundsModel" "clauses" "I") (by decide +kernel)) (fun _ h9 => h9) rfl (by decide +kernel) rfl rfl (Nat.le_of_ble_eq_true rfl) dX8_clause_105 (fun H locs hP hD hS => ?_)
                have hP : va_P D vwCl [(m0, .inr (6, [.ref w0, .ref w1, .ref w2, .int ik, .ref w3, .int (nI tx), .int (nI hpn_120), .int (nI f9), .ref w4, .ref w5, .int (nI (cl + 1)), .ref w6, .ref w7, .ref w8, .ref w9])), (w3, .inl (E 0, 100, .inl tg)), (w4, .inl (E 0, 12, .inl (upd wd cl (nI 5)))), (w5, .inl (E 0, 36, .inl (upd (upd nu (3 * cl) (nI 0)) ((3 * cl) + 1) (nI 0))))] H := hP
                have hD : va_D A [(m0, .inr (6, [.ref w0, .ref w1, .ref w2, .int ik, .ref w3, .int (nI tx), .int (nI hpn_120), .int (nI f9), .ref w4, .ref w5, .int (nI (cl + 1)), .ref w6, .ref w7, .ref w8, .ref w9])), (w3, .inl (E 0, 100, .inl tg)), (w4, .inl (E 0, 12, .inl (upd wd cl (nI 5)))), (w5, .inl (E 0, 36, .inl (upd (upd nu (3 * cl) (nI 0)) ((3 * cl) + 1) (nI 0))))] := hD
                subst hQ; subst hAe
                exact W.vret hx hb hr (fun tz htz hWz => ⟨⟨(hpn_120, nI f9, cl + 1, (upd wd cl (nI 5)), (upd (upd nu (3 * cl) (nI 0)) ((3 * cl) + 1) (nI 0))), rfl, ⟨by rw [hcF.trans (zx_fl_cs hfl0)]; rfl, fun q => by rw [hcF.trans (zx_fl_cs hfl0)] at q; cases q⟩, by rw [htz]; exact hP, hD⟩, hS.F htz⟩) hS.2.2 dX8_clause_108
              · skip
                exact absurd cn_138 (by decide)
            · skip
              exact absurd cn_134 (by decide)
    · skip
      exact absurd cn_116 (by decide)
  · skip
    refine zr_ti (y := nI 6) (hwz.trans (by rw [hcw]; rfl)) ?_
    rw [hpe, hfa, hcw, if_pos (by decide)] at hP hD
    have hcF : zx_cF T tx hp = zx_fl T tx [0] (zx_we T tx 100 hp) := by unfold zx_cF; rw [hcw, if_neg (by decide)]; rfl
    have hle2 := zx_we_le (T := T) (L := tx) 100 hp hpt8
    refine lv_istore_n (lv' := [(1, .int (nI 6)), (0, .ref m0)]) hx hb dX8_clause_4 rfl hl (by decide) rfl (fun ls hl => ?_)
    refine lv_aload_n hx hb dX8_clause_5 rfl (lv_at hl 1 rfl) ?_
    refine va_get (D := D) (ci := 6) (v := .int (-1)) (C := RX8) (T := TX8) (N := 15) hx hb hts (by decide +kernel) hown hK.1 hP 0 rfl rfl 7 (by decide) (hts (.fieldLink RX8 106 "HomeRoundsModel" "fault" "I") (by decide +kernel)) (fun _ h9 => h9) rfl dX8_clause_6 ?_
    refine lv_if_lt (tgt := 13) hx hb dX8_clause_9 (by decide) (fun cn_139 => ?_) (fun cn_139 => ?_)
    · skip
      refine lv_iconst (v := nI 3) hx hb dX8_clause_13 (by rfl) ?_
      refine lv_aload_n hx hb dX8_clause_14 rfl (lv_at hl 1 rfl) ?_
      refine va_get (D := D) (ci := 6) (v := .int (nI cl)) (C := RX8) (T := TX8) (N := 15) hx hb hts (by decide +kernel) hown hK.1 hP 0 rfl rfl 10 (by decide) (hts (.fieldLink RX8 132 "HomeRoundsModel" "clauses" "I") (by decide +kernel)) (fun _ h9 => h9) rfl dX8_clause_15 ?_
      refine lv_imul hx hb dX8_clause_18 ?_
      refine zr_ti (y := nI (3 * cl)) (pk_mul _ _) ?_
      refine lv_istore_n (lv' := [(2, .int (nI (3 * cl))), (1, .int (nI 6)), (0, .ref m0)]) hx hb dX8_clause_19 rfl hl (by decide) rfl (fun ls hl => ?_)
      refine lv_aload_n hx hb dX8_clause_20 rfl (lv_at hl 2 rfl) ?_
      refine va_get (D := D) (ci := 6) (v := .ref w4) (C := RX8) (T := TX8) (N := 15) hx hb hts (by decide +kernel) hown hK.1 hP 0 rfl rfl 8 (by decide) (hts (.fieldLink RX8 24 "HomeRoundsModel" "words" "[I") (by decide +kernel)) (fun _ h9 => h9) rfl dX8_clause_21 ?_
      refine lv_aload_n hx hb dX8_clause_24 rfl (lv_at hl 2 rfl) ?_
      refine va_get (D := D) (ci := 6) (v := .int (nI cl)) (C := RX8) (T := TX8) (N := 15) hx hb hts (by decide +kernel) hown hK.1 hP 0 rfl rfl 10 (by decide) (hts (.fieldLink RX8 132 "HomeRoundsModel" "clauses" "I") (by decide +kernel)) (fun _ h9 => h9) rfl dX8_clause_25 ?_
      refine lv_iload_n hx hb dX8_clause_28 rfl (lv_at hl 1 rfl) ?_
      refine va_iast hx hb hK.1 hP hD hS 2 0 rfl rfl (vp_in_nI (by omega) (by omega)) dX8_clause_29 (fun H locs hP hD hS => ?_)
      have hP : va_P D vwCl [(m0, .inr (6, [.ref w0, .ref w1, .ref w2, .int ik, .ref w3, .int (nI tx), .int (nI (zx_we T tx 100 hp)), .int (-1), .ref w4, .ref w5, .int (nI cl), .ref w6, .ref w7, .ref w8, .ref w9])), (w3, .inl (E 0, 100, .inl tg)), (w4, .inl (E 0, 12, .inl (upd wd (nI cl).toNatClampNeg (nI 6)))), (w5, .inl (E 0, 36, .inl nu))] H := hP
      have hD : va_D A [(m0, .inr (6, [.ref w0, .ref w1, .ref w2, .int ik, .ref w3, .int (nI tx), .int (nI (zx_we T tx 100 hp)), .int (-1), .ref w4, .ref w5, .int (nI cl), .ref w6, .ref w7, .ref w8, .ref w9])), (w3, .inl (E 0, 100, .inl tg)), (w4, .inl (E 0, 12, .inl (upd wd (nI cl).toNatClampNeg (nI 6)))), (w5, .inl (E 0, 36, .inl nu))] := hD
      have hcz : (upd wd (nI cl).toNatClampNeg (nI 6)) = (upd wd cl (nI 6)) := by rw [nI_clamp (n := cl) (by omega)]
      rw [hcz] at hP hD
      refine lv_aload_n hx hb dX8_clause_30 rfl (lv_at hl 2 rfl) ?_
      refine va_get (D := D) (ci := 6) (v := .ref w5) (C := RX8) (T := TX8) (N := 15) hx hb hts (by decide +kernel) hown hK.1 hP 0 rfl rfl 9 (by decide) (hts (.fieldLink RX8 27 "HomeRoundsModel" "numbers" "[I") (by decide +kernel)) (fun _ h9 => h9) rfl dX8_clause_31 ?_
      refine lv_iload_n hx hb dX8_clause_34 rfl (lv_at hl 0 rfl) ?_
      refine lv_aload_n hx hb dX8_clause_35 rfl (lv_at hl 2 rfl) ?_
      refine lv_iconst (v := nI 1) hx hb dX8_clause_36 (by rfl) ?_
      have hPc := hP.sub (ws' := [(m0, .inr (6, [.ref w0, .ref w1, .ref w2, .int ik, .ref w3, .int (nI tx), .int (nI (zx_we T tx 100 hp)), .int (-1), .ref w4, .ref w5, .int (nI cl), .ref w6, .ref w7, .ref w8, .ref w9])), (w3, .inl (E 0, 100, .inl tg))]) [0, 1] rfl
      have hDc := hD.sub (ws' := [(m0, .inr (6, [.ref w0, .ref w1, .ref w2, .int ik, .ref w3, .int (nI tx), .int (nI (zx_we T tx 100 hp)), .int (-1), .ref w4, .ref w5, .int (nI cl), .ref w6, .ref w7, .ref w8, .ref w9])), (w3, .inl (E 0, 100, .inl tg))]) [0, 1] (by decide +kernel) rfl
      have hAc := zw_AA (wc := [(m0, .inr (6, [.ref w0, .ref w1, .ref w2, .int ik, .ref w3, .int (nI tx), .int (nI (zx_we T tx 100 hp)), .int (-1), .ref w4, .ref w5, .int (nI cl), .ref w6, .ref w7, .ref w8, .ref w9])), (w3, .inl (E 0, 100, .inl tg))]) hD [0, 1] rfl
      refine zw_ci hAc hS (va_runV (As := [.int (nI 1)]) (rest := [.int (nI (3 * cl)), .ref w5]) ⟨hx, hb, hml, hown, hts⟩ (c_X8_number_1 l D E m0 w0 w1 w2 w3 w4 w5 w6 w7 w8 w9 ik tx cl wv (zx_we T tx 100 hp) tg T (htx) (by omega)) (cwV 1 hts gX8_clause_X8_number rfl rfl rfl (by decide +kernel) ⟨Nat.le_of_ble_eq_true rfl, Nat.le_of_ble_eq_true rfl⟩) (zw_V hK hPc hDc (ci := 6) (q0 := 0) rfl rfl) rfl rfl hl.1 rfl (lv_room (Nat.le_of_ble_eq_true rfl)) dX8_clause_37 ⟨Nat.zero_le _, Nat.zero_le _⟩) (fun r_140 u_142 H locs hw_141 hP1 hD1 hk1 hS => ?_)
      obtain ⟨hpn_143, fan_144⟩ := u_142
      try dsimp only at hw_141 hP1 hD1
      obtain ⟨hP, hD⟩ := zw_join (wr := [(w4, .inl (E 0, 12, .inl (upd wd cl (nI 6)))), (w5, .inl (E 0, 36, .inl nu))]) (w1 := [(m0, .inr (6, [.ref w0, .ref w1, .ref w2, .int ik, .ref w3, .int (nI tx), .int (nI hpn_143), .int fan_144, .ref w4, .ref w5, .int (nI cl), .ref w6, .ref w7, .ref w8, .ref w9])), (w3, .inl (E 0, 100, .inl tg))]) (ws' := [(m0, .inr (6, [.ref w0, .ref w1, .ref w2, .int ik, .ref w3, .int (nI tx), .int (nI hpn_143), .int fan_144, .ref w4, .ref w5, .int (nI cl), .ref w6, .ref w7, .ref w8, .ref w9])), (w3, .inl (E 0, 100, .inl tg)), (w4, .inl (E 0, 12, .inl (upd wd cl (nI 6)))), (w5, .inl (E 0, 36, .inl nu))]) hP hD [0, 1] [2, 3] [2, 3, 0, 1] rfl rfl (by decide +kernel) (by decide +kernel) hAc hk1 hP1 hD1 (by decide +kernel) rfl
      clear hP1 hD1 hk1 hPc hDc hAc
      have hn9 := hw_141
      obtain ⟨hle0, ⟨hfl0, hfa, hzv, hpq⟩ | ⟨f9, hf9, hfl0, hfa, hzv⟩⟩ := hn9
      · skip
        refine zr_ti (y := nI (zx_nv T tx 0 (zx_we T tx 100 hp + 1))) hzv ?_
        rw [hpq, hfa] at hP hD
        rw [hpq] at hle0
        refine va_iast hx hb hK.1 hP hD hS 3 0 rfl rfl (vp_in_nI (by omega) (by omega)) dX8_clause_40 (fun H locs hP hD hS => ?_)
        have hP : va_P D vwCl [(m0, .inr (6, [.ref w0, .ref w1, .ref w2, .int ik, .ref w3, .int (nI tx), .int (nI (zx_np T tx 0 (zx_we T tx 100 hp + 1))), .int (-1), .ref w4, .ref w5, .int (nI cl), .ref w6, .ref w7, .ref w8, .ref w9])), (w3, .inl (E 0, 100, .inl tg)), (w4, .inl (E 0, 12, .inl (upd wd cl (nI 6)))), (w5, .inl (E 0, 36, .inl (upd nu (nI (3 * cl)).toNatClampNeg (nI (zx_nv T tx 0 (zx_we T tx 100 hp + 1))))))] H := hP
        have hD : va_D A [(m0, .inr (6, [.ref w0, .ref w1, .ref w2, .int ik, .ref w3, .int (nI tx), .int (nI (zx_np T tx 0 (zx_we T tx 100 hp + 1))), .int (-1), .ref w4, .ref w5, .int (nI cl), .ref w6, .ref w7, .ref w8, .ref w9])), (w3, .inl (E 0, 100, .inl tg)), (w4, .inl (E 0, 12, .inl (upd wd cl (nI 6)))), (w5, .inl (E 0, 36, .inl (upd nu (nI (3 * cl)).toNatClampNeg (nI (zx_nv T tx 0 (zx_we T tx 100 hp + 1))))))] := hD
        have hcz : (upd nu (nI (3 * cl)).toNatClampNeg (nI (zx_nv T tx 0 (zx_we T tx 100 hp + 1)))) = (upd nu (3 * cl) (nI (zx_nv T tx 0 (zx_we T tx 100 hp + 1)))) := by rw [nI_clamp (n := 3 * cl) (by omega)]
        rw [hcz] at hP hD
        refine lv_iload_n hx hb dX8_clause_41 rfl (lv_at hl 1 rfl) ?_
        refine lv_if_eq (tgt := 79) hx hb dX8_clause_42 (by decide) (fun cn_145 => ?_) (fun cn_145 => ?_)
        · skip
          exact absurd cn_145 (by decide)
        · skip
          refine lv_iload_n hx hb dX8_clause_45 rfl (lv_at hl 1 rfl) ?_
          refine lv_bipush (v := nI 6) hx hb dX8_clause_46 (by rfl) ?_
          refine lv_icmp_eq (tgt := 79) hx hb dX8_clause_48 (by decide) (fun cn_146 => ?_) (fun cn_146 => ?_)
          · skip
            refine lv_iload_n hx hb dX8_clause_79 rfl (lv_at hl 1 rfl) ?_
            refine lv_bipush (v := nI 7) hx hb dX8_clause_80 (by rfl) ?_
            refine lv_icmp_ne (tgt := 98) hx hb dX8_clause_82 (by decide) (fun cn_147 => ?_) (fun cn_147 => ?_)
            · skip
              refine lv_aload_n hx hb dX8_clause_98 rfl (lv_at hl 2 rfl) ?_
              refine lv_dup hx hb dX8_clause_99 rfl ?_
              refine va_get (D := D) (ci := 6) (v := .int (nI cl)) (C := RX8) (T := TX8) (N := 15) hx hb hts (by decide +kernel) hown hK.1 hP 0 rfl rfl 10 (by decide) (hts (.fieldLink RX8 132 "HomeRoundsModel" "clauses" "I") (by decide +kernel)) (fun _ h9 => h9) rfl dX8_clause_100 ?_
              refine lv_iconst (v := nI 1) hx hb dX8_clause_103 (by rfl) ?_
              refine lv_iadd hx hb dX8_clause_104 ?_
              refine zr_ti (y := nI (cl + 1)) (nI_add _ _) ?_
              refine va_put (D := D) (ci := 6) (v := .int (nI (cl + 1))) (ty := .int) (C := RX8) (T := TX8) (N := 15) hx hb hts (by decide +kernel) tyX8 tyX8_ok nmX8 hown hK.1 hP hD hS 0 rfl rfl 10 (by decide) (hts (.fieldLink RX8 132 "HomeRoundsModel" "clauses" "I") (by decide +kernel)) (fun _ h9 => h9) rfl (by decide +kernel) rfl rfl (Nat.le_of_ble_eq_true rfl) dX8_clause_105 (fun H locs hP hD hS => ?_)
              have hP : va_P D vwCl [(m0, .inr (6, [.ref w0, .ref w1, .ref w2, .int ik, .ref w3, .int (nI tx), .int (nI (zx_np T tx 0 (zx_we T tx 100 hp + 1))), .int (-1), .ref w4, .ref w5, .int (nI (cl + 1)), .ref w6, .ref w7, .ref w8, .ref w9])), (w3, .inl (E 0, 100, .inl tg)), (w4, .inl (E 0, 12, .inl (upd wd cl (nI 6)))), (w5, .inl (E 0, 36, .inl (upd nu (3 * cl) (nI (zx_nv T tx 0 (zx_we T tx 100 hp + 1))))))] H := hP
              have hD : va_D A [(m0, .inr (6, [.ref w0, .ref w1, .ref w2, .int ik, .ref w3, .int (nI tx), .int (nI (zx_np T tx 0 (zx_we T tx 100 hp + 1))), .int (-1), .ref w4, .ref w5, .int (nI (cl + 1)), .ref w6, .ref w7, .ref w8, .ref w9])), (w3, .inl (E 0, 100, .inl tg)), (w4, .inl (E 0, 12, .inl (upd wd cl (nI 6)))), (w5, .inl (E 0, 36, .inl (upd nu (3 * cl) (nI (zx_nv T tx 0 (zx_we T tx 100 hp + 1))))))] := hD
              subst hQ; subst hAe
              exact W.vret hx hb hr (fun tz htz hWz => ⟨⟨(zx_np T tx 0 (zx_we T tx 100 hp + 1), (-1), cl + 1, (upd wd cl (nI 6)), (upd nu (3 * cl) (nI (zx_nv T tx 0 (zx_we T tx 100 hp + 1))))), rfl, ⟨by rw [hcF.trans (zx_fl_cn hfl0)]; rfl, fun q => ⟨by unfold zx_cP; rw [hcw]; rfl, rfl, zx_mput_g hcw (by decide) rfl (fun j hj => by show upd _ _ _ _ = _; unfold upd; rw [if_neg (by omega)]) (fun j hj => by
    have h9 : j = 0 := (by have : j < 1 := hj; omega)
    subst h9; show upd _ _ _ _ = _; unfold upd; rw [if_pos (by omega)]; rfl)⟩⟩, by rw [htz]; exact hP, hD⟩, hS.F htz⟩) hS.2.2 dX8_clause_108
            · skip
              exact absurd cn_147 (by decide)
          · skip
            exact absurd cn_146 (by decide)
      · skip
        refine zr_ti (y := nI 0) hzv ?_
        rw [hfa] at hP hD
        refine va_iast hx hb hK.1 hP hD hS 3 0 rfl rfl (vp_in_nI (by omega) (by omega)) dX8_clause_40 (fun H locs hP hD hS => ?_)
        have hP : va_P D vwCl [(m0, .inr (6, [.ref w0, .ref w1, .ref w2, .int ik, .ref w3, .int (nI tx), .int (nI hpn_143), .int (nI f9), .ref w4, .ref w5, .int (nI cl), .ref w6, .ref w7, .ref w8, .ref w9])), (w3, .inl (E 0, 100, .inl tg)), (w4, .inl (E 0, 12, .inl (upd wd cl (nI 6)))), (w5, .inl (E 0, 36, .inl (upd nu (nI (3 * cl)).toNatClampNeg (nI 0))))] H := hP
        have hD : va_D A [(m0, .inr (6, [.ref w0, .ref w1, .ref w2, .int ik, .ref w3, .int (nI tx), .int (nI hpn_143), .int (nI f9), .ref w4, .ref w5, .int (nI cl), .ref w6, .ref w7, .ref w8, .ref w9])), (w3, .inl (E 0, 100, .inl tg)), (w4, .inl (E 0, 12, .inl (upd wd cl (nI 6)))), (w5, .inl (E 0, 36, .inl (upd nu (nI (3 * cl)).toNatClampNeg (nI 0))))] := hD
        have hcz : (upd nu (nI (3 * cl)).toNatClampNeg (nI 0)) = (upd nu (3 * cl) (nI 0)) := by rw [nI_clamp (n := 3 * cl) (by omega)]
        rw [hcz] at hP hD
        refine lv_iload_n hx hb dX8_clause_41 rfl (lv_at hl 1 rfl) ?_
        refine lv_if_eq (tgt := 79) hx hb dX8_clause_42 (by decide) (fun cn_148 => ?_) (fun cn_148 => ?_)
        · skip
          exact absurd cn_148 (by decide)
        · skip
          refine lv_iload_n hx hb dX8_clause_45 rfl (lv_at hl 1 rfl) ?_
          refine lv_bipush (v := nI 6) hx hb dX8_clause_46 (by rfl) ?_
          refine lv_icmp_eq (tgt := 79) hx hb dX8_clause_48 (by decide) (fun cn_149 => ?_) (fun cn_149 => ?_)
          · skip
            refine lv_iload_n hx hb dX8_clause_79 rfl (lv_at hl 1 rfl) ?_
            refine lv_bipush (v := nI 7) hx hb dX8_clause_80 (by rfl) ?_
            refine lv_icmp_ne (tgt := 98) hx hb dX8_clause_82 (by decide) (fun cn_150 => ?_) (fun cn_150 => ?_)
            · skip
              refine lv_aload_n hx hb dX8_clause_98 rfl (lv_at hl 2 rfl) ?_
              refine lv_dup hx hb dX8_clause_99 rfl ?_
              refine va_get (D := D) (ci := 6) (v := .int (nI cl)) (C := RX8) (T := TX8) (N := 15) hx hb hts (by decide +kernel) hown hK.1 hP 0 rfl rfl 10 (by decide) (hts (.fieldLink RX8 132 "HomeRoundsModel" "clauses" "I") (by decide +kernel)) (fun _ h9 => h9) rfl dX8_clause_100 ?_
              refine lv_iconst (v := nI 1) hx hb dX8_clause_103 (by rfl) ?_
              refine lv_iadd hx hb dX8_clause_104 ?_
              refine zr_ti (y := nI (cl + 1)) (nI_add _ _) ?_
              refine va_put (D := D) (ci := 6) (v := .int (nI (cl + 1))) (ty := .int) (C := RX8) (T := TX8) (N := 15) hx hb hts (by decide +kernel) tyX8 tyX8_ok nmX8 hown hK.1 hP hD hS 0 rfl rfl 10 (by decide) (hts (.fieldLink RX8 132 "HomeRoundsModel" "clauses" "I") (by decide +kernel)) (fun _ h9 => h9) rfl (by decide +kernel) rfl rfl (Nat.le_of_ble_eq_true rfl) dX8_clause_105 (fun H locs hP hD hS => ?_)
              have hP : va_P D vwCl [(m0, .inr (6, [.ref w0, .ref w1, .ref w2, .int ik, .ref w3, .int (nI tx), .int (nI hpn_143), .int (nI f9), .ref w4, .ref w5, .int (nI (cl + 1)), .ref w6, .ref w7, .ref w8, .ref w9])), (w3, .inl (E 0, 100, .inl tg)), (w4, .inl (E 0, 12, .inl (upd wd cl (nI 6)))), (w5, .inl (E 0, 36, .inl (upd nu (3 * cl) (nI 0))))] H := hP
              have hD : va_D A [(m0, .inr (6, [.ref w0, .ref w1, .ref w2, .int ik, .ref w3, .int (nI tx), .int (nI hpn_143), .int (nI f9), .ref w4, .ref w5, .int (nI (cl + 1)), .ref w6, .ref w7, .ref w8, .ref w9])), (w3, .inl (E 0, 100, .inl tg)), (w4, .inl (E 0, 12, .inl (upd wd cl (nI 6)))), (w5, .inl (E 0, 36, .inl (upd nu (3 * cl) (nI 0))))] := hD
              subst hQ; subst hAe
              exact W.vret hx hb hr (fun tz htz hWz => ⟨⟨(hpn_143, nI f9, cl + 1, (upd wd cl (nI 6)), (upd nu (3 * cl) (nI 0))), rfl, ⟨by rw [hcF.trans (zx_fl_cs hfl0)]; rfl, fun q => by rw [hcF.trans (zx_fl_cs hfl0)] at q; cases q⟩, by rw [htz]; exact hP, hD⟩, hS.F htz⟩) hS.2.2 dX8_clause_108
            · skip
              exact absurd cn_150 (by decide)
          · skip
            exact absurd cn_149 (by decide)
    · skip
      exact absurd cn_139 (by decide)
  · skip
    refine zr_ti (y := nI 7) (hwz.trans (by rw [hcw]; rfl)) ?_
    rw [hpe, hfa, hcw, if_pos (by decide)] at hP hD
    have hcF : zx_cF T tx hp = zx_fl T tx [0, 1, 1] (zx_we T tx 100 hp) := by unfold zx_cF; rw [hcw, if_neg (by decide)]; rfl
    have hle2 := zx_we_le (T := T) (L := tx) 100 hp hpt8
    refine lv_istore_n (lv' := [(1, .int (nI 7)), (0, .ref m0)]) hx hb dX8_clause_4 rfl hl (by decide) rfl (fun ls hl => ?_)
    refine lv_aload_n hx hb dX8_clause_5 rfl (lv_at hl 1 rfl) ?_
    refine va_get (D := D) (ci := 6) (v := .int (-1)) (C := RX8) (T := TX8) (N := 15) hx hb hts (by decide +kernel) hown hK.1 hP 0 rfl rfl 7 (by decide) (hts (.fieldLink RX8 106 "HomeRoundsModel" "fault" "I") (by decide +kernel)) (fun _ h9 => h9) rfl dX8_clause_6 ?_
    refine lv_if_lt (tgt := 13) hx hb dX8_clause_9 (by decide) (fun cn_151 => ?_) (fun cn_151 => ?_)
    · skip
      refine lv_iconst (v := nI 3) hx hb dX8_clause_13 (by rfl) ?_
      refine lv_aload_n hx hb dX8_clause_14 rfl (lv_at hl 1 rfl) ?_
      refine va_get (D := D) (ci := 6) (v := .int (nI cl)) (C := RX8) (T := TX8) (N := 15) hx hb hts (by decide +kernel) hown hK.1 hP 0 rfl rfl 10 (by decide) (hts (.fieldLink RX8 132 "HomeRoundsModel" "clauses" "I") (by decide +kernel)) (fun _ h9 => h9) rfl dX8_clause_15 ?_
      refine lv_imul hx hb dX8_clause_18 ?_
      refine zr_ti (y := nI (3 * cl)) (pk_mul _ _) ?_
      refine lv_istore_n (lv' := [(2, .int (nI (3 * cl))), (1, .int (nI 7)), (0, .ref m0)]) hx hb dX8_clause_19 rfl hl (by decide) rfl (fun ls hl => ?_)
      refine lv_aload_n hx hb dX8_clause_20 rfl (lv_at hl 2 rfl) ?_
      refine va_get (D := D) (ci := 6) (v := .ref w4) (C := RX8) (T := TX8) (N := 15) hx hb hts (by decide +kernel) hown hK.1 hP 0 rfl rfl 8 (by decide) (hts (.fieldLink RX8 24 "HomeRoundsModel" "words" "[I") (by decide +kernel)) (fun _ h9 => h9) rfl dX8_clause_21 ?_
      refine lv_aload_n hx hb dX8_clause_24 rfl (lv_at hl 2 rfl) ?_
      refine va_get (D := D) (ci := 6) (v := .int (nI cl)) (C := RX8) (T := TX8) (N := 15) hx hb hts (by decide +kernel) hown hK.1 hP 0 rfl rfl 10 (by decide) (hts (.fieldLink RX8 132 "HomeRoundsModel" "clauses" "I") (by decide +kernel)) (fun _ h9 => h9) rfl dX8_clause_25 ?_
      refine lv_iload_n hx hb dX8_clause_28 rfl (lv_at hl 1 rfl) ?_
      refine va_iast hx hb hK.1 hP hD hS 2 0 rfl rfl (vp_in_nI (by omega) (by omega)) dX8_clause_29 (fun H locs hP hD hS => ?_)
      have hP : va_P D vwCl [(m0, .inr (6, [.ref w0, .ref w1, .ref w2, .int ik, .ref w3, .int (nI tx), .int (nI (zx_we T tx 100 hp)), .int (-1), .ref w4, .ref w5, .int (nI cl), .ref w6, .ref w7, .ref w8, .ref w9])), (w3, .inl (E 0, 100, .inl tg)), (w4, .inl (E 0, 12, .inl (upd wd (nI cl).toNatClampNeg (nI 7)))), (w5, .inl (E 0, 36, .inl nu))] H := hP
      have hD : va_D A [(m0, .inr (6, [.ref w0, .ref w1, .ref w2, .int ik, .ref w3, .int (nI tx), .int (nI (zx_we T tx 100 hp)), .int (-1), .ref w4, .ref w5, .int (nI cl), .ref w6, .ref w7, .ref w8, .ref w9])), (w3, .inl (E 0, 100, .inl tg)), (w4, .inl (E 0, 12, .inl (upd wd (nI cl).toNatClampNeg (nI 7)))), (w5, .inl (E 0, 36, .inl nu))] := hD
      have hcz : (upd wd (nI cl).toNatClampNeg (nI 7)) = (upd wd cl (nI 7)) := by rw [nI_clamp (n := cl) (by omega)]
      rw [hcz] at hP hD
      refine lv_aload_n hx hb dX8_clause_30 rfl (lv_at hl 2 rfl) ?_
      refine va_get (D := D) (ci := 6) (v := .ref w5) (C := RX8) (T := TX8) (N := 15) hx hb hts (by decide +kernel) hown hK.1 hP 0 rfl rfl 9 (by decide) (hts (.fieldLink RX8 27 "HomeRoundsModel" "numbers" "[I") (by decide +kernel)) (fun _ h9 => h9) rfl dX8_clause_31 ?_
      refine lv_iload_n hx hb dX8_clause_34 rfl (lv_at hl 0 rfl) ?_
      refine lv_aload_n hx hb dX8_clause_35 rfl (lv_at hl 2 rfl) ?_
      refine lv_iconst (v := nI 1) hx hb dX8_clause_36 (by rfl) ?_
      have hPc := hP.sub (ws' := [(m0, .inr (6, [.ref w0, .ref w1, .ref w2, .int ik, .ref w3, .int (nI tx), .int (nI (zx_we T tx 100 hp)), .int (-1), .ref w4, .ref w5, .int (nI cl), .ref w6, .ref w7, .ref w8, .ref w9])), (w3, .inl (E 0, 100, .inl tg))]) [0, 1] rfl
      have hDc := hD.sub (ws' := [(m0, .inr (6, [.ref w0, .ref w1, .ref w2, .int ik, .ref w3, .int (nI tx), .int (nI (zx_we T tx 100 hp)), .int (-1), .ref w4, .ref w5, .int (nI cl), .ref w6, .ref w7, .ref w8, .ref w9])), (w3, .inl (E 0, 100, .inl tg))]) [0, 1] (by decide +kernel) rfl
      have hAc := zw_AA (wc := [(m0, .inr (6, [.ref w0, .ref w1, .ref w2, .int ik, .ref w3, .int (nI tx), .int (nI (zx_we T tx 100 hp)), .int (-1), .ref w4, .ref w5, .int (nI cl), .ref w6, .ref w7, .ref w8, .ref w9])), (w3, .inl (E 0, 100, .inl tg))]) hD [0, 1] rfl
      refine zw_ci hAc hS (va_runV (As := [.int (nI 1)]) (rest := [.int (nI (3 * cl)), .ref w5]) ⟨hx, hb, hml, hown, hts⟩ (c_X8_number_1 l D E m0 w0 w1 w2 w3 w4 w5 w6 w7 w8 w9 ik tx cl wv (zx_we T tx 100 hp) tg T (htx) (by omega)) (cwV 1 hts gX8_clause_X8_number rfl rfl rfl (by decide +kernel) ⟨Nat.le_of_ble_eq_true rfl, Nat.le_of_ble_eq_true rfl⟩) (zw_V hK hPc hDc (ci := 6) (q0 := 0) rfl rfl) rfl rfl hl.1 rfl (lv_room (Nat.le_of_ble_eq_true rfl)) dX8_clause_37 ⟨Nat.zero_le _, Nat.zero_le _⟩) (fun r_152 u_154 H locs hw_153 hP1 hD1 hk1 hS => ?_)
      obtain ⟨hpn_155, fan_156⟩ := u_154
      try dsimp only at hw_153 hP1 hD1
      obtain ⟨hP, hD⟩ := zw_join (wr := [(w4, .inl (E 0, 12, .inl (upd wd cl (nI 7)))), (w5, .inl (E 0, 36, .inl nu))]) (w1 := [(m0, .inr (6, [.ref w0, .ref w1, .ref w2, .int ik, .ref w3, .int (nI tx), .int (nI hpn_155), .int fan_156, .ref w4, .ref w5, .int (nI cl), .ref w6, .ref w7, .ref w8, .ref w9])), (w3, .inl (E 0, 100, .inl tg))]) (ws' := [(m0, .inr (6, [.ref w0, .ref w1, .ref w2, .int ik, .ref w3, .int (nI tx), .int (nI hpn_155), .int fan_156, .ref w4, .ref w5, .int (nI cl), .ref w6, .ref w7, .ref w8, .ref w9])), (w3, .inl (E 0, 100, .inl tg)), (w4, .inl (E 0, 12, .inl (upd wd cl (nI 7)))), (w5, .inl (E 0, 36, .inl nu))]) hP hD [0, 1] [2, 3] [2, 3, 0, 1] rfl rfl (by decide +kernel) (by decide +kernel) hAc hk1 hP1 hD1 (by decide +kernel) rfl
      clear hP1 hD1 hk1 hPc hDc hAc
      have hn9 := hw_153
      obtain ⟨hle0, ⟨hfl0, hfa, hzv, hpq⟩ | ⟨f9, hf9, hfl0, hfa, hzv⟩⟩ := hn9
      · skip
        refine zr_ti (y := nI (zx_nv T tx 0 (zx_we T tx 100 hp + 1))) hzv ?_
        rw [hpq, hfa] at hP hD
        rw [hpq] at hle0
        refine va_iast hx hb hK.1 hP hD hS 3 0 rfl rfl (vp_in_nI (by omega) (by omega)) dX8_clause_40 (fun H locs hP hD hS => ?_)
        have hP : va_P D vwCl [(m0, .inr (6, [.ref w0, .ref w1, .ref w2, .int ik, .ref w3, .int (nI tx), .int (nI (zx_np T tx 0 (zx_we T tx 100 hp + 1))), .int (-1), .ref w4, .ref w5, .int (nI cl), .ref w6, .ref w7, .ref w8, .ref w9])), (w3, .inl (E 0, 100, .inl tg)), (w4, .inl (E 0, 12, .inl (upd wd cl (nI 7)))), (w5, .inl (E 0, 36, .inl (upd nu (nI (3 * cl)).toNatClampNeg (nI (zx_nv T tx 0 (zx_we T tx 100 hp + 1))))))] H := hP
        have hD : va_D A [(m0, .inr (6, [.ref w0, .ref w1, .ref w2, .int ik, .ref w3, .int (nI tx), .int (nI (zx_np T tx 0 (zx_we T tx 100 hp + 1))), .int (-1), .ref w4, .ref w5, .int (nI cl), .ref w6, .ref w7, .ref w8, .ref w9])), (w3, .inl (E 0, 100, .inl tg)), (w4, .inl (E 0, 12, .inl (upd wd cl (nI 7)))), (w5, .inl (E 0, 36, .inl (upd nu (nI (3 * cl)).toNatClampNeg (nI (zx_nv T tx 0 (zx_we T tx 100 hp + 1))))))] := hD
        have hcz : (upd nu (nI (3 * cl)).toNatClampNeg (nI (zx_nv T tx 0 (zx_we T tx 100 hp + 1)))) = (upd nu (3 * cl) (nI (zx_nv T tx 0 (zx_we T tx 100 hp + 1)))) := by rw [nI_clamp (n := 3 * cl) (by omega)]
        rw [hcz] at hP hD
        refine lv_iload_n hx hb dX8_clause_41 rfl (lv_at hl 1 rfl) ?_
        refine lv_if_eq (tgt := 79) hx hb dX8_clause_42 (by decide) (fun cn_157 => ?_) (fun cn_157 => ?_)
        · skip
          exact absurd cn_157 (by decide)
        · skip
          refine lv_iload_n hx hb dX8_clause_45 rfl (lv_at hl 1 rfl) ?_
          refine lv_bipush (v := nI 6) hx hb dX8_clause_46 (by rfl) ?_
          refine lv_icmp_eq (tgt := 79) hx hb dX8_clause_48 (by decide) (fun cn_158 => ?_) (fun cn_158 => ?_)
          · skip
            exact absurd cn_158 (by decide)
          · skip
            refine lv_aload_n hx hb dX8_clause_51 rfl (lv_at hl 2 rfl) ?_
            refine va_get (D := D) (ci := 6) (v := .ref w5) (C := RX8) (T := TX8) (N := 15) hx hb hts (by decide +kernel) hown hK.1 hP 0 rfl rfl 9 (by decide) (hts (.fieldLink RX8 27 "HomeRoundsModel" "numbers" "[I") (by decide +kernel)) (fun _ h9 => h9) rfl dX8_clause_52 ?_
            refine lv_iload_n hx hb dX8_clause_55 rfl (lv_at hl 0 rfl) ?_
            refine lv_iconst (v := nI 1) hx hb dX8_clause_56 (by rfl) ?_
            refine lv_iadd hx hb dX8_clause_57 ?_
            refine zr_ti (y := nI ((3 * cl) + 1)) (nI_add _ _) ?_
            refine lv_aload_n hx hb dX8_clause_58 rfl (lv_at hl 2 rfl) ?_
            refine lv_iload_n hx hb dX8_clause_59 rfl (lv_at hl 1 rfl) ?_
            refine lv_iconst (v := nI 5) hx hb dX8_clause_60 (by rfl) ?_
            refine lv_icmp_eq (tgt := 70) hx hb dX8_clause_61 (by decide) (fun cn_159 => ?_) (fun cn_159 => ?_)
            · skip
              exact absurd cn_159 (by decide)
            · skip
              refine lv_iload_n hx hb dX8_clause_64 rfl (lv_at hl 1 rfl) ?_
              refine lv_bipush (v := nI 7) hx hb dX8_clause_65 (by rfl) ?_
              refine lv_icmp_ne (tgt := 74) hx hb dX8_clause_67 (by decide) (fun cn_160 => ?_) (fun cn_160 => ?_)
              · skip
                exact absurd cn_160 (by decide)
              · skip
                refine lv_iconst (v := nI 2) hx hb dX8_clause_70 (by rfl) ?_
                refine lv_goto (tgt := 75) hx hb dX8_clause_71 (by decide) ?_
                have hPc := hP.sub (ws' := [(m0, .inr (6, [.ref w0, .ref w1, .ref w2, .int ik, .ref w3, .int (nI tx), .int (nI (zx_np T tx 0 (zx_we T tx 100 hp + 1))), .int (-1), .ref w4, .ref w5, .int (nI cl), .ref w6, .ref w7, .ref w8, .ref w9])), (w3, .inl (E 0, 100, .inl tg))]) [0, 1] rfl
                have hDc := hD.sub (ws' := [(m0, .inr (6, [.ref w0, .ref w1, .ref w2, .int ik, .ref w3, .int (nI tx), .int (nI (zx_np T tx 0 (zx_we T tx 100 hp + 1))), .int (-1), .ref w4, .ref w5, .int (nI cl), .ref w6, .ref w7, .ref w8, .ref w9])), (w3, .inl (E 0, 100, .inl tg))]) [0, 1] (by decide +kernel) rfl
                have hAc := zw_AA (wc := [(m0, .inr (6, [.ref w0, .ref w1, .ref w2, .int ik, .ref w3, .int (nI tx), .int (nI (zx_np T tx 0 (zx_we T tx 100 hp + 1))), .int (-1), .ref w4, .ref w5, .int (nI cl), .ref w6, .ref w7, .ref w8, .ref w9])), (w3, .inl (E 0, 100, .inl tg))]) hD [0, 1] rfl
                refine zw_ci hAc hS (va_runV (As := [.int (nI 2)]) (rest := [.int (nI ((3 * cl) + 1)), .ref w5]) ⟨hx, hb, hml, hown, hts⟩ (c_X8_number_2 l D E m0 w0 w1 w2 w3 w4 w5 w6 w7 w8 w9 ik tx cl wv (zx_np T tx 0 (zx_we T tx 100 hp + 1)) tg T (htx) (by omega)) (cwV 1 hts gX8_clause_X8_number rfl rfl rfl (by decide +kernel) ⟨Nat.le_of_ble_eq_true rfl, Nat.le_of_ble_eq_true rfl⟩) (zw_V hK hPc hDc (ci := 6) (q0 := 0) rfl rfl) rfl rfl hl.1 rfl (lv_room (Nat.le_of_ble_eq_true rfl)) dX8_clause_75 ⟨Nat.zero_le _, Nat.zero_le _⟩) (fun r_161 u_163 H locs hw_162 hP1 hD1 hk1 hS => ?_)
                obtain ⟨hpn_164, fan_165⟩ := u_163
                try dsimp only at hw_162 hP1 hD1
                obtain ⟨hP, hD⟩ := zw_join (wr := [(w4, .inl (E 0, 12, .inl (upd wd cl (nI 7)))), (w5, .inl (E 0, 36, .inl (upd nu (3 * cl) (nI (zx_nv T tx 0 (zx_we T tx 100 hp + 1))))))]) (w1 := [(m0, .inr (6, [.ref w0, .ref w1, .ref w2, .int ik, .ref w3, .int (nI tx), .int (nI hpn_164), .int fan_165, .ref w4, .ref w5, .int (nI cl), .ref w6, .ref w7, .ref w8, .ref w9])), (w3, .inl (E 0, 100, .inl tg))]) (ws' := [(m0, .inr (6, [.ref w0, .ref w1, .ref w2, .int ik, .ref w3, .int (nI tx), .int (nI hpn_164), .int fan_165, .ref w4, .ref w5, .int (nI cl), .ref w6, .ref w7, .ref w8, .ref w9])), (w3, .inl (E 0, 100, .inl tg)), (w4, .inl (E 0, 12, .inl (upd wd cl (nI 7)))), (w5, .inl (E 0, 36, .inl (upd nu (3 * cl) (nI (zx_nv T tx 0 (zx_we T tx 100 hp + 1))))))]) hP hD [0, 1] [2, 3] [2, 3, 0, 1] rfl rfl (by decide +kernel) (by decide +kernel) hAc hk1 hP1 hD1 (by decide +kernel) rfl
                clear hP1 hD1 hk1 hPc hDc hAc
                have hn9 := hw_162
                obtain ⟨hle1, ⟨hfl1, hfa, hzv, hpq⟩ | ⟨f9, hf9, hfl1, hfa, hzv⟩⟩ := hn9
                · skip
                  refine zr_ti (y := nI (zx_nv T tx 1 ((zx_np T tx 0 (zx_we T tx 100 hp + 1)) + 1))) hzv ?_
                  rw [hpq, hfa] at hP hD
                  rw [hpq] at hle1
                  refine va_iast hx hb hK.1 hP hD hS 3 0 rfl rfl (vp_in_nI (by omega) (by omega)) dX8_clause_78 (fun H locs hP hD hS => ?_)
                  have hP : va_P D vwCl [(m0, .inr (6, [.ref w0, .ref w1, .ref w2, .int ik, .ref w3, .int (nI tx), .int (nI (zx_np T tx 1 ((zx_np T tx 0 (zx_we T tx 100 hp + 1)) + 1))), .int (-1), .ref w4, .ref w5, .int (nI cl), .ref w6, .ref w7, .ref w8, .ref w9])), (w3, .inl (E 0, 100, .inl tg)), (w4, .inl (E 0, 12, .inl (upd wd cl (nI 7)))), (w5, .inl (E 0, 36, .inl (upd (upd nu (3 * cl) (nI (zx_nv T tx 0 (zx_we T tx 100 hp + 1)))) (nI ((3 * cl) + 1)).toNatClampNeg (nI (zx_nv T tx 1 ((zx_np T tx 0 (zx_we T tx 100 hp + 1)) + 1))))))] H := hP
                  have hD : va_D A [(m0, .inr (6, [.ref w0, .ref w1, .ref w2, .int ik, .ref w3, .int (nI tx), .int (nI (zx_np T tx 1 ((zx_np T tx 0 (zx_we T tx 100 hp + 1)) + 1))), .int (-1), .ref w4, .ref w5, .int (nI cl), .ref w6, .ref w7, .ref w8, .ref w9])), (w3, .inl (E 0, 100, .inl tg)), (w4, .inl (E 0, 12, .inl (upd wd cl (nI 7)))), (w5, .inl (E 0, 36, .inl (upd (upd nu (3 * cl) (nI (zx_nv T tx 0 (zx_we T tx 100 hp + 1)))) (nI ((3 * cl) + 1)).toNatClampNeg (nI (zx_nv T tx 1 ((zx_np T tx 0 (zx_we T tx 100 hp + 1)) + 1))))))] := hD
                  have hcz : (upd (upd nu (3 * cl) (nI (zx_nv T tx 0 (zx_we T tx 100 hp + 1)))) (nI ((3 * cl) + 1)).toNatClampNeg (nI (zx_nv T tx 1 ((zx_np T tx 0 (zx_we T tx 100 hp + 1)) + 1)))) = (upd (upd nu (3 * cl) (nI (zx_nv T tx 0 (zx_we T tx 100 hp + 1)))) ((3 * cl) + 1) (nI (zx_nv T tx 1 ((zx_np T tx 0 (zx_we T tx 100 hp + 1)) + 1)))) := by rw [nI_clamp (n := (3 * cl) + 1) (by omega)]
                  rw [hcz] at hP hD
                  refine lv_iload_n hx hb dX8_clause_79 rfl (lv_at hl 1 rfl) ?_
                  refine lv_bipush (v := nI 7) hx hb dX8_clause_80 (by rfl) ?_
                  refine lv_icmp_ne (tgt := 98) hx hb dX8_clause_82 (by decide) (fun cn_166 => ?_) (fun cn_166 => ?_)
                  · skip
                    exact absurd cn_166 (by decide)
                  · skip
                    refine lv_aload_n hx hb dX8_clause_85 rfl (lv_at hl 2 rfl) ?_
                    refine va_get (D := D) (ci := 6) (v := .ref w5) (C := RX8) (T := TX8) (N := 15) hx hb hts (by decide +kernel) hown hK.1 hP 0 rfl rfl 9 (by decide) (hts (.fieldLink RX8 27 "HomeRoundsModel" "numbers" "[I") (by decide +kernel)) (fun _ h9 => h9) rfl dX8_clause_86 ?_
                    refine lv_iload_n hx hb dX8_clause_89 rfl (lv_at hl 0 rfl) ?_
                    refine lv_iconst (v := nI 2) hx hb dX8_clause_90 (by rfl) ?_
                    refine lv_iadd hx hb dX8_clause_91 ?_
                    refine zr_ti (y := nI ((3 * cl) + 2)) (nI_add _ _) ?_
                    refine lv_aload_n hx hb dX8_clause_92 rfl (lv_at hl 2 rfl) ?_
                    refine lv_iconst (v := nI 2) hx hb dX8_clause_93 (by rfl) ?_
                    have hPc := hP.sub (ws' := [(m0, .inr (6, [.ref w0, .ref w1, .ref w2, .int ik, .ref w3, .int (nI tx), .int (nI (zx_np T tx 1 ((zx_np T tx 0 (zx_we T tx 100 hp + 1)) + 1))), .int (-1), .ref w4, .ref w5, .int (nI cl), .ref w6, .ref w7, .ref w8, .ref w9])), (w3, .inl (E 0, 100, .inl tg))]) [0, 1] rfl
                    have hDc := hD.sub (ws' := [(m0, .inr (6, [.ref w0, .ref w1, .ref w2, .int ik, .ref w3, .int (nI tx), .int (nI (zx_np T tx 1 ((zx_np T tx 0 (zx_we T tx 100 hp + 1)) + 1))), .int (-1), .ref w4, .ref w5, .int (nI cl), .ref w6, .ref w7, .ref w8, .ref w9])), (w3, .inl (E 0, 100, .inl tg))]) [0, 1] (by decide +kernel) rfl
                    have hAc := zw_AA (wc := [(m0, .inr (6, [.ref w0, .ref w1, .ref w2, .int ik, .ref w3, .int (nI tx), .int (nI (zx_np T tx 1 ((zx_np T tx 0 (zx_we T tx 100 hp + 1)) + 1))), .int (-1), .ref w4, .ref w5, .int (nI cl), .ref w6, .ref w7, .ref w8, .ref w9])), (w3, .inl (E 0, 100, .inl tg))]) hD [0, 1] rfl
                    refine zw_ci hAc hS (va_runV (As := [.int (nI 2)]) (rest := [.int (nI ((3 * cl) + 2)), .ref w5]) ⟨hx, hb, hml, hown, hts⟩ (c_X8_number_2 l D E m0 w0 w1 w2 w3 w4 w5 w6 w7 w8 w9 ik tx cl wv (zx_np T tx 1 ((zx_np T tx 0 (zx_we T tx 100 hp + 1)) + 1)) tg T (htx) (by omega)) (cwV 1 hts gX8_clause_X8_number rfl rfl rfl (by decide +kernel) ⟨Nat.le_of_ble_eq_true rfl, Nat.le_of_ble_eq_true rfl⟩) (zw_V hK hPc hDc (ci := 6) (q0 := 0) rfl rfl) rfl rfl hl.1 rfl (lv_room (Nat.le_of_ble_eq_true rfl)) dX8_clause_94 ⟨Nat.zero_le _, Nat.zero_le _⟩) (fun r_167 u_169 H locs hw_168 hP1 hD1 hk1 hS => ?_)
                    obtain ⟨hpn_170, fan_171⟩ := u_169
                    try dsimp only at hw_168 hP1 hD1
                    obtain ⟨hP, hD⟩ := zw_join (wr := [(w4, .inl (E 0, 12, .inl (upd wd cl (nI 7)))), (w5, .inl (E 0, 36, .inl (upd (upd nu (3 * cl) (nI (zx_nv T tx 0 (zx_we T tx 100 hp + 1)))) ((3 * cl) + 1) (nI (zx_nv T tx 1 ((zx_np T tx 0 (zx_we T tx 100 hp + 1)) + 1))))))]) (w1 := [(m0, .inr (6, [.ref w0, .ref w1, .ref w2, .int ik, .ref w3, .int (nI tx), .int (nI hpn_170), .int fan_171, .ref w4, .ref w5, .int (nI cl), .ref w6, .ref w7, .ref w8, .ref w9])), (w3, .inl (E 0, 100, .inl tg))]) (ws' := [(m0, .inr (6, [.ref w0, .ref w1, .ref w2, .int ik, .ref w3, .int (nI tx), .int (nI hpn_170), .int fan_171, .ref w4, .ref w5, .int (nI cl), .ref w6, .ref w7, .ref w8, .ref w9])), (w3, .inl (E 0, 100, .inl tg)), (w4, .inl (E 0, 12, .inl (upd wd cl (nI 7)))), (w5, .inl (E 0, 36, .inl (upd (upd nu (3 * cl) (nI (zx_nv T tx 0 (zx_we T tx 100 hp + 1)))) ((3 * cl) + 1) (nI (zx_nv T tx 1 ((zx_np T tx 0 (zx_we T tx 100 hp + 1)) + 1))))))]) hP hD [0, 1] [2, 3] [2, 3, 0, 1] rfl rfl (by decide +kernel) (by decide +kernel) hAc hk1 hP1 hD1 (by decide +kernel) rfl
                    clear hP1 hD1 hk1 hPc hDc hAc
                    have hn9 := hw_168
                    obtain ⟨hle2, ⟨hfl2, hfa, hzv, hpq⟩ | ⟨f9, hf9, hfl2, hfa, hzv⟩⟩ := hn9
                    · skip
                      refine zr_ti (y := nI (zx_nv T tx 1 ((zx_np T tx 1 ((zx_np T tx 0 (zx_we T tx 100 hp + 1)) + 1)) + 1))) hzv ?_
                      rw [hpq, hfa] at hP hD
                      rw [hpq] at hle2
                      refine va_iast hx hb hK.1 hP hD hS 3 0 rfl rfl (vp_in_nI (by omega) (by omega)) dX8_clause_97 (fun H locs hP hD hS => ?_)
                      have hP : va_P D vwCl [(m0, .inr (6, [.ref w0, .ref w1, .ref w2, .int ik, .ref w3, .int (nI tx), .int (nI (zx_np T tx 1 ((zx_np T tx 1 ((zx_np T tx 0 (zx_we T tx 100 hp + 1)) + 1)) + 1))), .int (-1), .ref w4, .ref w5, .int (nI cl), .ref w6, .ref w7, .ref w8, .ref w9])), (w3, .inl (E 0, 100, .inl tg)), (w4, .inl (E 0, 12, .inl (upd wd cl (nI 7)))), (w5, .inl (E 0, 36, .inl (upd (upd (upd nu (3 * cl) (nI (zx_nv T tx 0 (zx_we T tx 100 hp + 1)))) ((3 * cl) + 1) (nI (zx_nv T tx 1 ((zx_np T tx 0 (zx_we T tx 100 hp + 1)) + 1)))) (nI ((3 * cl) + 2)).toNatClampNeg (nI (zx_nv T tx 1 ((zx_np T tx 1 ((zx_np T tx 0 (zx_we T tx 100 hp + 1)) + 1)) + 1))))))] H := hP
                      have hD : va_D A [(m0, .inr (6, [.ref w0, .ref w1, .ref w2, .int ik, .ref w3, .int (nI tx), .int (nI (zx_np T tx 1 ((zx_np T tx 1 ((zx_np T tx 0 (zx_we T tx 100 hp + 1)) + 1)) + 1))), .int (-1), .ref w4, .ref w5, .int (nI cl), .ref w6, .ref w7, .ref w8, .ref w9])), (w3, .inl (E 0, 100, .inl tg)), (w4, .inl (E 0, 12, .inl (upd wd cl (nI 7)))), (w5, .inl (E 0, 36, .inl (upd (upd (upd nu (3 * cl) (nI (zx_nv T tx 0 (zx_we T tx 100 hp + 1)))) ((3 * cl) + 1) (nI (zx_nv T tx 1 ((zx_np T tx 0 (zx_we T tx 100 hp + 1)) + 1)))) (nI ((3 * cl) + 2)).toNatClampNeg (nI (zx_nv T tx 1 ((zx_np T tx 1 ((zx_np T tx 0 (zx_we T tx 100 hp + 1)) + 1)) + 1))))))] := hD
                      have hcz : (upd (upd (upd nu (3 * cl) (nI (zx_nv T tx 0 (zx_we T tx 100 hp + 1)))) ((3 * cl) + 1) (nI (zx_nv T tx 1 ((zx_np T tx 0 (zx_we T tx 100 hp + 1)) + 1)))) (nI ((3 * cl) + 2)).toNatClampNeg (nI (zx_nv T tx 1 ((zx_np T tx 1 ((zx_np T tx 0 (zx_we T tx 100 hp + 1)) + 1)) + 1)))) = (upd (upd (upd nu (3 * cl) (nI (zx_nv T tx 0 (zx_we T tx 100 hp + 1)))) ((3 * cl) + 1) (nI (zx_nv T tx 1 ((zx_np T tx 0 (zx_we T tx 100 hp + 1)) + 1)))) ((3 * cl) + 2) (nI (zx_nv T tx 1 ((zx_np T tx 1 ((zx_np T tx 0 (zx_we T tx 100 hp + 1)) + 1)) + 1)))) := by rw [nI_clamp (n := (3 * cl) + 2) (by omega)]
                      rw [hcz] at hP hD
                      refine lv_aload_n hx hb dX8_clause_98 rfl (lv_at hl 2 rfl) ?_
                      refine lv_dup hx hb dX8_clause_99 rfl ?_
                      refine va_get (D := D) (ci := 6) (v := .int (nI cl)) (C := RX8) (T := TX8) (N := 15) hx hb hts (by decide +kernel) hown hK.1 hP 0 rfl rfl 10 (by decide) (hts (.fieldLink RX8 132 "HomeRoundsModel" "clauses" "I") (by decide +kernel)) (fun _ h9 => h9) rfl dX8_clause_100 ?_
                      refine lv_iconst (v := nI 1) hx hb dX8_clause_103 (by rfl) ?_
                      refine lv_iadd hx hb dX8_clause_104 ?_
                      refine zr_ti (y := nI (cl + 1)) (nI_add _ _) ?_
                      refine va_put (D := D) (ci := 6) (v := .int (nI (cl + 1))) (ty := .int) (C := RX8) (T := TX8) (N := 15) hx hb hts (by decide +kernel) tyX8 tyX8_ok nmX8 hown hK.1 hP hD hS 0 rfl rfl 10 (by decide) (hts (.fieldLink RX8 132 "HomeRoundsModel" "clauses" "I") (by decide +kernel)) (fun _ h9 => h9) rfl (by decide +kernel) rfl rfl (Nat.le_of_ble_eq_true rfl) dX8_clause_105 (fun H locs hP hD hS => ?_)
                      have hP : va_P D vwCl [(m0, .inr (6, [.ref w0, .ref w1, .ref w2, .int ik, .ref w3, .int (nI tx), .int (nI (zx_np T tx 1 ((zx_np T tx 1 ((zx_np T tx 0 (zx_we T tx 100 hp + 1)) + 1)) + 1))), .int (-1), .ref w4, .ref w5, .int (nI (cl + 1)), .ref w6, .ref w7, .ref w8, .ref w9])), (w3, .inl (E 0, 100, .inl tg)), (w4, .inl (E 0, 12, .inl (upd wd cl (nI 7)))), (w5, .inl (E 0, 36, .inl (upd (upd (upd nu (3 * cl) (nI (zx_nv T tx 0 (zx_we T tx 100 hp + 1)))) ((3 * cl) + 1) (nI (zx_nv T tx 1 ((zx_np T tx 0 (zx_we T tx 100 hp + 1)) + 1)))) ((3 * cl) + 2) (nI (zx_nv T tx 1 ((zx_np T tx 1 ((zx_np T tx 0 (zx_we T tx 100 hp + 1)) + 1)) + 1))))))] H := hP
                      have hD : va_D A [(m0, .inr (6, [.ref w0, .ref w1, .ref w2, .int ik, .ref w3, .int (nI tx), .int (nI (zx_np T tx 1 ((zx_np T tx 1 ((zx_np T tx 0 (zx_we T tx 100 hp + 1)) + 1)) + 1))), .int (-1), .ref w4, .ref w5, .int (nI (cl + 1)), .ref w6, .ref w7, .ref w8, .ref w9])), (w3, .inl (E 0, 100, .inl tg)), (w4, .inl (E 0, 12, .inl (upd wd cl (nI 7)))), (w5, .inl (E 0, 36, .inl (upd (upd (upd nu (3 * cl) (nI (zx_nv T tx 0 (zx_we T tx 100 hp + 1)))) ((3 * cl) + 1) (nI (zx_nv T tx 1 ((zx_np T tx 0 (zx_we T tx 100 hp + 1)) + 1)))) ((3 * cl) + 2) (nI (zx_nv T tx 1 ((zx_np T tx 1 ((zx_np T tx 0 (zx_we T tx 100 hp + 1)) + 1)) + 1))))))] := hD
                      subst hQ; subst hAe
                      exact W.vret hx hb hr (fun tz htz hWz => ⟨⟨(zx_np T tx 1 ((zx_np T tx 1 ((zx_np T tx 0 (zx_we T tx 100 hp + 1)) + 1)) + 1), (-1), cl + 1, (upd wd cl (nI 7)), (upd (upd (upd nu (3 * cl) (nI (zx_nv T tx 0 (zx_we T tx 100 hp + 1)))) ((3 * cl) + 1) (nI (zx_nv T tx 1 ((zx_np T tx 0 (zx_we T tx 100 hp + 1)) + 1)))) ((3 * cl) + 2) (nI (zx_nv T tx 1 ((zx_np T tx 1 ((zx_np T tx 0 (zx_we T tx 100 hp + 1)) + 1)) + 1))))), rfl, ⟨by rw [hcF.trans ((zx_fl_cn hfl0).trans ((zx_fl_cn hfl1).trans (zx_fl_cn hfl2)))]; rfl, fun q => ⟨by unfold zx_cP; rw [hcw]; rfl, rfl, zx_mput_g hcw (by decide) rfl (fun j hj => by show upd _ _ _ _ = _; unfold upd; rw [if_neg (by omega), if_neg (by omega), if_neg (by omega)]) (fun j hj => by
    have h9 : j = 0 ∨ j = 1 ∨ j = 2 := (by have : j < 3 := hj; omega)
    rcases h9 with rfl | rfl | rfl; (show upd _ _ _ _ = _; unfold upd; rw [if_neg (by omega), if_neg (by omega), if_pos (by omega)]; rfl); (show upd _ _ _ _ = _; unfold upd; rw [if_neg (by omega), if_pos (by omega)]; rfl); (show upd _ _ _ _ = _; unfold upd; rw [if_pos (by omega)]; rfl))⟩⟩, by rw [htz]; exact hP, hD⟩, hS.F htz⟩) hS.2.2 dX8_clause_108
                    · skip
                      refine zr_ti (y := nI 0) hzv ?_
                      rw [hfa] at hP hD
                      refine va_iast hx hb hK.1 hP hD hS 3 0 rfl rfl (vp_in_nI (by omega) (by omega)) dX8_clause_97 (fun H locs hP hD hS => ?_)
                      have hP : va_P D vwCl [(m0, .inr (6, [.ref w0, .ref w1, .ref w2, .int ik, .ref w3, .int (nI tx), .int (nI hpn_170), .int (nI f9), .ref w4, .ref w5, .int (nI cl), .ref w6, .ref w7, .ref w8, .ref w9])), (w3, .inl (E 0, 100, .inl tg)), (w4, .inl (E 0, 12, .inl (upd wd cl (nI 7)))), (w5, .inl (E 0, 36, .inl (upd (upd (upd nu (3 * cl) (nI (zx_nv T tx 0 (zx_we T tx 100 hp + 1)))) ((3 * cl) + 1) (nI (zx_nv T tx 1 ((zx_np T tx 0 (zx_we T tx 100 hp + 1)) + 1)))) (nI ((3 * cl) + 2)).toNatClampNeg (nI 0))))] H := hP
                      have hD : va_D A [(m0, .inr (6, [.ref w0, .ref w1, .ref w2, .int ik, .ref w3, .int (nI tx), .int (nI hpn_170), .int (nI f9), .ref w4, .ref w5, .int (nI cl), .ref w6, .ref w7, .ref w8, .ref w9])), (w3, .inl (E 0, 100, .inl tg)), (w4, .inl (E 0, 12, .inl (upd wd cl (nI 7)))), (w5, .inl (E 0, 36, .inl (upd (upd (upd nu (3 * cl) (nI (zx_nv T tx 0 (zx_we T tx 100 hp + 1)))) ((3 * cl) + 1) (nI (zx_nv T tx 1 ((zx_np T tx 0 (zx_we T tx 100 hp + 1)) + 1)))) (nI ((3 * cl) + 2)).toNatClampNeg (nI 0))))] := hD
                      have hcz : (upd (upd (upd nu (3 * cl) (nI (zx_nv T tx 0 (zx_we T tx 100 hp + 1)))) ((3 * cl) + 1) (nI (zx_nv T tx 1 ((zx_np T tx 0 (zx_we T tx 100 hp + 1)) + 1)))) (nI ((3 * cl) + 2)).toNatClampNeg (nI 0)) = (upd (upd (upd nu (3 * cl) (nI (zx_nv T tx 0 (zx_we T tx 100 hp + 1)))) ((3 * cl) + 1) (nI (zx_nv T tx 1 ((zx_np T tx 0 (zx_we T tx 100 hp + 1)) + 1)))) ((3 * cl) + 2) (nI 0)) := by rw [nI_clamp (n := (3 * cl) + 2) (by omega)]
                      rw [hcz] at hP hD
                      refine lv_aload_n hx hb dX8_clause_98 rfl (lv_at hl 2 rfl) ?_
                      refine lv_dup hx hb dX8_clause_99 rfl ?_
                      refine va_get (D := D) (ci := 6) (v := .int (nI cl)) (C := RX8) (T := TX8) (N := 15) hx hb hts (by decide +kernel) hown hK.1 hP 0 rfl rfl 10 (by decide) (hts (.fieldLink RX8 132 "HomeRoundsModel" "clauses" "I") (by decide +kernel)) (fun _ h9 => h9) rfl dX8_clause_100 ?_
                      refine lv_iconst (v := nI 1) hx hb dX8_clause_103 (by rfl) ?_
                      refine lv_iadd hx hb dX8_clause_104 ?_
                      refine zr_ti (y := nI (cl + 1)) (nI_add _ _) ?_
                      refine va_put (D := D) (ci := 6) (v := .int (nI (cl + 1))) (ty := .int) (C := RX8) (T := TX8) (N := 15) hx hb hts (by decide +kernel) tyX8 tyX8_ok nmX8 hown hK.1 hP hD hS 0 rfl rfl 10 (by decide) (hts (.fieldLink RX8 132 "HomeRoundsModel" "clauses" "I") (by decide +kernel)) (fun _ h9 => h9) rfl (by decide +kernel) rfl rfl (Nat.le_of_ble_eq_true rfl) dX8_clause_105 (fun H locs hP hD hS => ?_)
                      have hP : va_P D vwCl [(m0, .inr (6, [.ref w0, .ref w1, .ref w2, .int ik, .ref w3, .int (nI tx), .int (nI hpn_170), .int (nI f9), .ref w4, .ref w5, .int (nI (cl + 1)), .ref w6, .ref w7, .ref w8, .ref w9])), (w3, .inl (E 0, 100, .inl tg)), (w4, .inl (E 0, 12, .inl (upd wd cl (nI 7)))), (w5, .inl (E 0, 36, .inl (upd (upd (upd nu (3 * cl) (nI (zx_nv T tx 0 (zx_we T tx 100 hp + 1)))) ((3 * cl) + 1) (nI (zx_nv T tx 1 ((zx_np T tx 0 (zx_we T tx 100 hp + 1)) + 1)))) ((3 * cl) + 2) (nI 0))))] H := hP
                      have hD : va_D A [(m0, .inr (6, [.ref w0, .ref w1, .ref w2, .int ik, .ref w3, .int (nI tx), .int (nI hpn_170), .int (nI f9), .ref w4, .ref w5, .int (nI (cl + 1)), .ref w6, .ref w7, .ref w8, .ref w9])), (w3, .inl (E 0, 100, .inl tg)), (w4, .inl (E 0, 12, .inl (upd wd cl (nI 7)))), (w5, .inl (E 0, 36, .inl (upd (upd (upd nu (3 * cl) (nI (zx_nv T tx 0 (zx_we T tx 100 hp + 1)))) ((3 * cl) + 1) (nI (zx_nv T tx 1 ((zx_np T tx 0 (zx_we T tx 100 hp + 1)) + 1)))) ((3 * cl) + 2) (nI 0))))] := hD
                      subst hQ; subst hAe
                      exact W.vret hx hb hr (fun tz htz hWz => ⟨⟨(hpn_170, nI f9, cl + 1, (upd wd cl (nI 7)), (upd (upd (upd nu (3 * cl) (nI (zx_nv T tx 0 (zx_we T tx 100 hp + 1)))) ((3 * cl) + 1) (nI (zx_nv T tx 1 ((zx_np T tx 0 (zx_we T tx 100 hp + 1)) + 1)))) ((3 * cl) + 2) (nI 0))), rfl, ⟨by rw [hcF.trans ((zx_fl_cn hfl0).trans ((zx_fl_cn hfl1).trans (zx_fl_cs hfl2)))]; rfl, fun q => by rw [hcF.trans ((zx_fl_cn hfl0).trans ((zx_fl_cn hfl1).trans (zx_fl_cs hfl2)))] at q; cases q⟩, by rw [htz]; exact hP, hD⟩, hS.F htz⟩) hS.2.2 dX8_clause_108
                · skip
                  refine zr_ti (y := nI 0) hzv ?_
                  rw [hfa] at hP hD
                  refine va_iast hx hb hK.1 hP hD hS 3 0 rfl rfl (vp_in_nI (by omega) (by omega)) dX8_clause_78 (fun H locs hP hD hS => ?_)
                  have hP : va_P D vwCl [(m0, .inr (6, [.ref w0, .ref w1, .ref w2, .int ik, .ref w3, .int (nI tx), .int (nI hpn_164), .int (nI f9), .ref w4, .ref w5, .int (nI cl), .ref w6, .ref w7, .ref w8, .ref w9])), (w3, .inl (E 0, 100, .inl tg)), (w4, .inl (E 0, 12, .inl (upd wd cl (nI 7)))), (w5, .inl (E 0, 36, .inl (upd (upd nu (3 * cl) (nI (zx_nv T tx 0 (zx_we T tx 100 hp + 1)))) (nI ((3 * cl) + 1)).toNatClampNeg (nI 0))))] H := hP
                  have hD : va_D A [(m0, .inr (6, [.ref w0, .ref w1, .ref w2, .int ik, .ref w3, .int (nI tx), .int (nI hpn_164), .int (nI f9), .ref w4, .ref w5, .int (nI cl), .ref w6, .ref w7, .ref w8, .ref w9])), (w3, .inl (E 0, 100, .inl tg)), (w4, .inl (E 0, 12, .inl (upd wd cl (nI 7)))), (w5, .inl (E 0, 36, .inl (upd (upd nu (3 * cl) (nI (zx_nv T tx 0 (zx_we T tx 100 hp + 1)))) (nI ((3 * cl) + 1)).toNatClampNeg (nI 0))))] := hD
                  have hcz : (upd (upd nu (3 * cl) (nI (zx_nv T tx 0 (zx_we T tx 100 hp + 1)))) (nI ((3 * cl) + 1)).toNatClampNeg (nI 0)) = (upd (upd nu (3 * cl) (nI (zx_nv T tx 0 (zx_we T tx 100 hp + 1)))) ((3 * cl) + 1) (nI 0)) := by rw [nI_clamp (n := (3 * cl) + 1) (by omega)]
                  rw [hcz] at hP hD
                  refine lv_iload_n hx hb dX8_clause_79 rfl (lv_at hl 1 rfl) ?_
                  refine lv_bipush (v := nI 7) hx hb dX8_clause_80 (by rfl) ?_
                  refine lv_icmp_ne (tgt := 98) hx hb dX8_clause_82 (by decide) (fun cn_172 => ?_) (fun cn_172 => ?_)
                  · skip
                    exact absurd cn_172 (by decide)
                  · skip
                    refine lv_aload_n hx hb dX8_clause_85 rfl (lv_at hl 2 rfl) ?_
                    refine va_get (D := D) (ci := 6) (v := .ref w5) (C := RX8) (T := TX8) (N := 15) hx hb hts (by decide +kernel) hown hK.1 hP 0 rfl rfl 9 (by decide) (hts (.fieldLink RX8 27 "HomeRoundsModel" "numbers" "[I") (by decide +kernel)) (fun _ h9 => h9) rfl dX8_clause_86 ?_
                    refine lv_iload_n hx hb dX8_clause_89 rfl (lv_at hl 0 rfl) ?_
                    refine lv_iconst (v := nI 2) hx hb dX8_clause_90 (by rfl) ?_
                    refine lv_iadd hx hb dX8_clause_91 ?_
                    refine zr_ti (y := nI ((3 * cl) + 2)) (nI_add _ _) ?_
                    refine lv_aload_n hx hb dX8_clause_92 rfl (lv_at hl 2 rfl) ?_
                    refine lv_iconst (v := nI 2) hx hb dX8_clause_93 (by rfl) ?_
                    have hPc := hP.sub (ws' := [(m0, .inr (6, [.ref w0, .ref w1, .ref w2, .int ik, .ref w3, .int (nI tx), .int (nI hpn_164), .int (nI f9), .ref w4, .ref w5, .int (nI cl), .ref w6, .ref w7, .ref w8, .ref w9])), (w3, .inl (E 0, 100, .inl tg))]) [0, 1] rfl
                    have hDc := hD.sub (ws' := [(m0, .inr (6, [.ref w0, .ref w1, .ref w2, .int ik, .ref w3, .int (nI tx), .int (nI hpn_164), .int (nI f9), .ref w4, .ref w5, .int (nI cl), .ref w6, .ref w7, .ref w8, .ref w9])), (w3, .inl (E 0, 100, .inl tg))]) [0, 1] (by decide +kernel) rfl
                    have hAc := zw_AA (wc := [(m0, .inr (6, [.ref w0, .ref w1, .ref w2, .int ik, .ref w3, .int (nI tx), .int (nI hpn_164), .int (nI f9), .ref w4, .ref w5, .int (nI cl), .ref w6, .ref w7, .ref w8, .ref w9])), (w3, .inl (E 0, 100, .inl tg))]) hD [0, 1] rfl
                    refine zw_ci hAc hS (va_runV (As := [.int (nI 2)]) (rest := [.int (nI ((3 * cl) + 2)), .ref w5]) ⟨hx, hb, hml, hown, hts⟩ (c_X8_number_f l D E m0 w0 w1 w2 w3 w4 w5 w6 w7 w8 w9 ik tx cl wv hpn_164 tg T 2 f9 (htx) (by omega) (by omega)) (cwV 1 hts gX8_clause_X8_number rfl rfl rfl (by decide +kernel) ⟨Nat.le_of_ble_eq_true rfl, Nat.le_of_ble_eq_true rfl⟩) (zw_V hK hPc hDc (ci := 6) (q0 := 0) rfl rfl) rfl rfl hl.1 rfl (lv_room (Nat.le_of_ble_eq_true rfl)) dX8_clause_94 ⟨Nat.zero_le _, Nat.zero_le _⟩) (fun r_173 u_175 H locs hw_174 hP1 hD1 hk1 hS => ?_)
                    obtain ⟨hP, hD⟩ := zw_join (wr := [(w4, .inl (E 0, 12, .inl (upd wd cl (nI 7)))), (w5, .inl (E 0, 36, .inl (upd (upd nu (3 * cl) (nI (zx_nv T tx 0 (zx_we T tx 100 hp + 1)))) ((3 * cl) + 1) (nI 0))))]) (w1 := [(m0, .inr (6, [.ref w0, .ref w1, .ref w2, .int ik, .ref w3, .int (nI tx), .int (nI hpn_164), .int (nI f9), .ref w4, .ref w5, .int (nI cl), .ref w6, .ref w7, .ref w8, .ref w9])), (w3, .inl (E 0, 100, .inl tg))]) (ws' := [(m0, .inr (6, [.ref w0, .ref w1, .ref w2, .int ik, .ref w3, .int (nI tx), .int (nI hpn_164), .int (nI f9), .ref w4, .ref w5, .int (nI cl), .ref w6, .ref w7, .ref w8, .ref w9])), (w3, .inl (E 0, 100, .inl tg)), (w4, .inl (E 0, 12, .inl (upd wd cl (nI 7)))), (w5, .inl (E 0, 36, .inl (upd (upd nu (3 * cl) (nI (zx_nv T tx 0 (zx_we T tx 100 hp + 1)))) ((3 * cl) + 1) (nI 0))))]) hP hD [0, 1] [2, 3] [2, 3, 0, 1] rfl rfl (by decide +kernel) (by decide +kernel) hAc hk1 hP1 hD1 (by decide +kernel) rfl
                    clear hP1 hD1 hk1 hPc hDc hAc
                    obtain ⟨rfl, hw_174⟩ := hw_174
                    refine va_iast hx hb hK.1 hP hD hS 3 0 rfl rfl (vp_in_nI (by omega) (by omega)) dX8_clause_97 (fun H locs hP hD hS => ?_)
                    have hP : va_P D vwCl [(m0, .inr (6, [.ref w0, .ref w1, .ref w2, .int ik, .ref w3, .int (nI tx), .int (nI hpn_164), .int (nI f9), .ref w4, .ref w5, .int (nI cl), .ref w6, .ref w7, .ref w8, .ref w9])), (w3, .inl (E 0, 100, .inl tg)), (w4, .inl (E 0, 12, .inl (upd wd cl (nI 7)))), (w5, .inl (E 0, 36, .inl (upd (upd (upd nu (3 * cl) (nI (zx_nv T tx 0 (zx_we T tx 100 hp + 1)))) ((3 * cl) + 1) (nI 0)) (nI ((3 * cl) + 2)).toNatClampNeg (nI 0))))] H := hP
                    have hD : va_D A [(m0, .inr (6, [.ref w0, .ref w1, .ref w2, .int ik, .ref w3, .int (nI tx), .int (nI hpn_164), .int (nI f9), .ref w4, .ref w5, .int (nI cl), .ref w6, .ref w7, .ref w8, .ref w9])), (w3, .inl (E 0, 100, .inl tg)), (w4, .inl (E 0, 12, .inl (upd wd cl (nI 7)))), (w5, .inl (E 0, 36, .inl (upd (upd (upd nu (3 * cl) (nI (zx_nv T tx 0 (zx_we T tx 100 hp + 1)))) ((3 * cl) + 1) (nI 0)) (nI ((3 * cl) + 2)).toNatClampNeg (nI 0))))] := hD
                    have hcz : (upd (upd (upd nu (3 * cl) (nI (zx_nv T tx 0 (zx_we T tx 100 hp + 1)))) ((3 * cl) + 1) (nI 0)) (nI ((3 * cl) + 2)).toNatClampNeg (nI 0)) = (upd (upd (upd nu (3 * cl) (nI (zx_nv T tx 0 (zx_we T tx 100 hp + 1)))) ((3 * cl) + 1) (nI 0)) ((3 * cl) + 2) (nI 0)) := by rw [nI_clamp (n := (3 * cl) + 2) (by omega)]
                    rw [hcz] at hP hD
                    refine lv_aload_n hx hb dX8_clause_98 rfl (lv_at hl 2 rfl) ?_
                    refine lv_dup hx hb dX8_clause_99 rfl ?_
                    refine va_get (D := D) (ci := 6) (v := .int (nI cl)) (C := RX8) (T := TX8) (N := 15) hx hb hts (by decide +kernel) hown hK.1 hP 0 rfl rfl 10 (by decide) (hts (.fieldLink RX8 132 "HomeRoundsModel" "clauses" "I") (by decide +kernel)) (fun _ h9 => h9) rfl dX8_clause_100 ?_
                    refine lv_iconst (v := nI 1) hx hb dX8_clause_103 (by rfl) ?_
                    refine lv_iadd hx hb dX8_clause_104 ?_
                    refine zr_ti (y := nI (cl + 1)) (nI_add _ _) ?_
                    refine va_put (D := D) (ci := 6) (v := .int (nI (cl + 1))) (ty := .int) (C := RX8) (T := TX8) (N := 15) hx hb hts (by decide +kernel) tyX8 tyX8_ok nmX8 hown hK.1 hP hD hS 0 rfl rfl 10 (by decide) (hts (.fieldLink RX8 132 "HomeRoundsModel" "clauses" "I") (by decide +kernel)) (fun _ h9 => h9) rfl (by decide +kernel) rfl rfl (Nat.le_of_ble_eq_true rfl) dX8_clause_105 (fun H locs hP hD hS => ?_)
                    have hP : va_P D vwCl [(m0, .inr (6, [.ref w0, .ref w1, .ref w2, .int ik, .ref w3, .int (nI tx), .int (nI hpn_164), .int (nI f9), .ref w4, .ref w5, .int (nI (cl + 1)), .ref w6, .ref w7, .ref w8, .ref w9])), (w3, .inl (E 0, 100, .inl tg)), (w4, .inl (E 0, 12, .inl (upd wd cl (nI 7)))), (w5, .inl (E 0, 36, .inl (upd (upd (upd nu (3 * cl) (nI (zx_nv T tx 0 (zx_we T tx 100 hp + 1)))) ((3 * cl) + 1) (nI 0)) ((3 * cl) + 2) (nI 0))))] H := hP
                    have hD : va_D A [(m0, .inr (6, [.ref w0, .ref w1, .ref w2, .int ik, .ref w3, .int (nI tx), .int (nI hpn_164), .int (nI f9), .ref w4, .ref w5, .int (nI (cl + 1)), .ref w6, .ref w7, .ref w8, .ref w9])), (w3, .inl (E 0, 100, .inl tg)), (w4, .inl (E 0, 12, .inl (upd wd cl (nI 7)))), (w5, .inl (E 0, 36, .inl (upd (upd (upd nu (3 * cl) (nI (zx_nv T tx 0 (zx_we T tx 100 hp + 1)))) ((3 * cl) + 1) (nI 0)) ((3 * cl) + 2) (nI 0))))] := hD
                    subst hQ; subst hAe
                    exact W.vret hx hb hr (fun tz htz hWz => ⟨⟨(hpn_164, nI f9, cl + 1, (upd wd cl (nI 7)), (upd (upd (upd nu (3 * cl) (nI (zx_nv T tx 0 (zx_we T tx 100 hp + 1)))) ((3 * cl) + 1) (nI 0)) ((3 * cl) + 2) (nI 0))), rfl, ⟨by rw [hcF.trans ((zx_fl_cn hfl0).trans (zx_fl_cs hfl1))]; rfl, fun q => by rw [hcF.trans ((zx_fl_cn hfl0).trans (zx_fl_cs hfl1))] at q; cases q⟩, by rw [htz]; exact hP, hD⟩, hS.F htz⟩) hS.2.2 dX8_clause_108
      · skip
        refine zr_ti (y := nI 0) hzv ?_
        rw [hfa] at hP hD
        refine va_iast hx hb hK.1 hP hD hS 3 0 rfl rfl (vp_in_nI (by omega) (by omega)) dX8_clause_40 (fun H locs hP hD hS => ?_)
        have hP : va_P D vwCl [(m0, .inr (6, [.ref w0, .ref w1, .ref w2, .int ik, .ref w3, .int (nI tx), .int (nI hpn_155), .int (nI f9), .ref w4, .ref w5, .int (nI cl), .ref w6, .ref w7, .ref w8, .ref w9])), (w3, .inl (E 0, 100, .inl tg)), (w4, .inl (E 0, 12, .inl (upd wd cl (nI 7)))), (w5, .inl (E 0, 36, .inl (upd nu (nI (3 * cl)).toNatClampNeg (nI 0))))] H := hP
        have hD : va_D A [(m0, .inr (6, [.ref w0, .ref w1, .ref w2, .int ik, .ref w3, .int (nI tx), .int (nI hpn_155), .int (nI f9), .ref w4, .ref w5, .int (nI cl), .ref w6, .ref w7, .ref w8, .ref w9])), (w3, .inl (E 0, 100, .inl tg)), (w4, .inl (E 0, 12, .inl (upd wd cl (nI 7)))), (w5, .inl (E 0, 36, .inl (upd nu (nI (3 * cl)).toNatClampNeg (nI 0))))] := hD
        have hcz : (upd nu (nI (3 * cl)).toNatClampNeg (nI 0)) = (upd nu (3 * cl) (nI 0)) := by rw [nI_clamp (n := 3 * cl) (by omega)]
        rw [hcz] at hP hD
        refine lv_iload_n hx hb dX8_clause_41 rfl (lv_at hl 1 rfl) ?_
        refine lv_if_eq (tgt := 79) hx hb dX8_clause_42 (by decide) (fun cn_176 => ?_) (fun cn_176 => ?_)
        · skip
          exact absurd cn_176 (by decide)
        · skip
          refine lv_iload_n hx hb dX8_clause_45 rfl (lv_at hl 1 rfl) ?_
          refine lv_bipush (v := nI 6) hx hb dX8_clause_46 (by rfl) ?_
          refine lv_icmp_eq (tgt := 79) hx hb dX8_clause_48 (by decide) (fun cn_177 => ?_) (fun cn_177 => ?_)
          · skip
            exact absurd cn_177 (by decide)
          · skip
            refine lv_aload_n hx hb dX8_clause_51 rfl (lv_at hl 2 rfl) ?_
            refine va_get (D := D) (ci := 6) (v := .ref w5) (C := RX8) (T := TX8) (N := 15) hx hb hts (by decide +kernel) hown hK.1 hP 0 rfl rfl 9 (by decide) (hts (.fieldLink RX8 27 "HomeRoundsModel" "numbers" "[I") (by decide +kernel)) (fun _ h9 => h9) rfl dX8_clause_52 ?_
            refine lv_iload_n hx hb dX8_clause_55 rfl (lv_at hl 0 rfl) ?_
            refine lv_iconst (v := nI 1) hx hb dX8_clause_56 (by rfl) ?_
            refine lv_iadd hx hb dX8_clause_57 ?_
            refine zr_ti (y := nI ((3 * cl) + 1)) (nI_add _ _) ?_
            refine lv_aload_n hx hb dX8_clause_58 rfl (lv_at hl 2 rfl) ?_
            refine lv_iload_n hx hb dX8_clause_59 rfl (lv_at hl 1 rfl) ?_
            refine lv_iconst (v := nI 5) hx hb dX8_clause_60 (by rfl) ?_
            refine lv_icmp_eq (tgt := 70) hx hb dX8_clause_61 (by decide) (fun cn_178 => ?_) (fun cn_178 => ?_)
            · skip
              exact absurd cn_178 (by decide)
            · skip
              refine lv_iload_n hx hb dX8_clause_64 rfl (lv_at hl 1 rfl) ?_
              refine lv_bipush (v := nI 7) hx hb dX8_clause_65 (by rfl) ?_
              refine lv_icmp_ne (tgt := 74) hx hb dX8_clause_67 (by decide) (fun cn_179 => ?_) (fun cn_179 => ?_)
              · skip
                exact absurd cn_179 (by decide)
              · skip
                refine lv_iconst (v := nI 2) hx hb dX8_clause_70 (by rfl) ?_
                refine lv_goto (tgt := 75) hx hb dX8_clause_71 (by decide) ?_
                have hPc := hP.sub (ws' := [(m0, .inr (6, [.ref w0, .ref w1, .ref w2, .int ik, .ref w3, .int (nI tx), .int (nI hpn_155), .int (nI f9), .ref w4, .ref w5, .int (nI cl), .ref w6, .ref w7, .ref w8, .ref w9])), (w3, .inl (E 0, 100, .inl tg))]) [0, 1] rfl
                have hDc := hD.sub (ws' := [(m0, .inr (6, [.ref w0, .ref w1, .ref w2, .int ik, .ref w3, .int (nI tx), .int (nI hpn_155), .int (nI f9), .ref w4, .ref w5, .int (nI cl), .ref w6, .ref w7, .ref w8, .ref w9])), (w3, .inl (E 0, 100, .inl tg))]) [0, 1] (by decide +kernel) rfl
                have hAc := zw_AA (wc := [(m0, .inr (6, [.ref w0, .ref w1, .ref w2, .int ik, .ref w3, .int (nI tx), .int (nI hpn_155), .int (nI f9), .ref w4, .ref w5, .int (nI cl), .ref w6, .ref w7, .ref w8, .ref w9])), (w3, .inl (E 0, 100, .inl tg))]) hD [0, 1] rfl
                refine zw_ci hAc hS (va_runV (As := [.int (nI 2)]) (rest := [.int (nI ((3 * cl) + 1)), .ref w5]) ⟨hx, hb, hml, hown, hts⟩ (c_X8_number_f l D E m0 w0 w1 w2 w3 w4 w5 w6 w7 w8 w9 ik tx cl wv hpn_155 tg T 2 f9 (htx) (by omega) (by omega)) (cwV 1 hts gX8_clause_X8_number rfl rfl rfl (by decide +kernel) ⟨Nat.le_of_ble_eq_true rfl, Nat.le_of_ble_eq_true rfl⟩) (zw_V hK hPc hDc (ci := 6) (q0 := 0) rfl rfl) rfl rfl hl.1 rfl (lv_room (Nat.le_of_ble_eq_true rfl)) dX8_clause_75 ⟨Nat.zero_le _, Nat.zero_le _⟩) (fun r_180 u_182 H locs hw_181 hP1 hD1 hk1 hS => ?_)
                obtain ⟨hP, hD⟩ := zw_join (wr := [(w4, .inl (E 0, 12, .inl (upd wd cl (nI 7)))), (w5, .inl (E 0, 36, .inl (upd nu (3 * cl) (nI 0))))]) (w1 := [(m0, .inr (6, [.ref w0, .ref w1, .ref w2, .int ik, .ref w3, .int (nI tx), .int (nI hpn_155), .int (nI f9), .ref w4, .ref w5, .int (nI cl), .ref w6, .ref w7, .ref w8, .ref w9])), (w3, .inl (E 0, 100, .inl tg))]) (ws' := [(m0, .inr (6, [.ref w0, .ref w1, .ref w2, .int ik, .ref w3, .int (nI tx), .int (nI hpn_155), .int (nI f9), .ref w4, .ref w5, .int (nI cl), .ref w6, .ref w7, .ref w8, .ref w9])), (w3, .inl (E 0, 100, .inl tg)), (w4, .inl (E 0, 12, .inl (upd wd cl (nI 7)))), (w5, .inl (E 0, 36, .inl (upd nu (3 * cl) (nI 0))))]) hP hD [0, 1] [2, 3] [2, 3, 0, 1] rfl rfl (by decide +kernel) (by decide +kernel) hAc hk1 hP1 hD1 (by decide +kernel) rfl
                clear hP1 hD1 hk1 hPc hDc hAc
                obtain ⟨rfl, hw_181⟩ := hw_181
                refine va_iast hx hb hK.1 hP hD hS 3 0 rfl rfl (vp_in_nI (by omega) (by omega)) dX8_clause_78 (fun H locs hP hD hS => ?_)
                have hP : va_P D vwCl [(m0, .inr (6, [.ref w0, .ref w1, .ref w2, .int ik, .ref w3, .int (nI tx), .int (nI hpn_155), .int (nI f9), .ref w4, .ref w5, .int (nI cl), .ref w6, .ref w7, .ref w8, .ref w9])), (w3, .inl (E 0, 100, .inl tg)), (w4, .inl (E 0, 12, .inl (upd wd cl (nI 7)))), (w5, .inl (E 0, 36, .inl (upd (upd nu (3 * cl) (nI 0)) (nI ((3 * cl) + 1)).toNatClampNeg (nI 0))))] H := hP
                have hD : va_D A [(m0, .inr (6, [.ref w0, .ref w1, .ref w2, .int ik, .ref w3, .int (nI tx), .int (nI hpn_155), .int (nI f9), .ref w4, .ref w5, .int (nI cl), .ref w6, .ref w7, .ref w8, .ref w9])), (w3, .inl (E 0, 100, .inl tg)), (w4, .inl (E 0, 12, .inl (upd wd cl (nI 7)))), (w5, .inl (E 0, 36, .inl (upd (upd nu (3 * cl) (nI 0)) (nI ((3 * cl) + 1)).toNatClampNeg (nI 0))))] := hD
                have hcz : (upd (upd nu (3 * cl) (nI 0)) (nI ((3 * cl) + 1)).toNatClampNeg (nI 0)) = (upd (upd nu (3 * cl) (nI 0)) ((3 * cl) + 1) (nI 0)) := by rw [nI_clamp (n := (3 * cl) + 1) (by omega)]
                rw [hcz] at hP hD
                refine lv_iload_n hx hb dX8_clause_79 rfl (lv_at hl 1 rfl) ?_
                refine lv_bipush (v := nI 7) hx hb dX8_clause_80 (by rfl) ?_
                refine lv_icmp_ne (tgt := 98) hx hb dX8_clause_82 (by decide) (fun cn_183 => ?_) (fun cn_183 => ?_)
                · skip
                  exact absurd cn_183 (by decide)
                · skip
                  refine lv_aload_n hx hb dX8_clause_85 rfl (lv_at hl 2 rfl) ?_
                  refine va_get (D := D) (ci := 6) (v := .ref w5) (C := RX8) (T := TX8) (N := 15) hx hb hts (by decide +kernel) hown hK.1 hP 0 rfl rfl 9 (by decide) (hts (.fieldLink RX8 27 "HomeRoundsModel" "numbers" "[I") (by decide +kernel)) (fun _ h9 => h9) rfl dX8_clause_86 ?_
                  refine lv_iload_n hx hb dX8_clause_89 rfl (lv_at hl 0 rfl) ?_
                  refine lv_iconst (v := nI 2) hx hb dX8_clause_90 (by rfl) ?_
                  refine lv_iadd hx hb dX8_clause_91 ?_
                  refine zr_ti (y := nI ((3 * cl) + 2)) (nI_add _ _) ?_
                  refine lv_aload_n hx hb dX8_clause_92 rfl (lv_at hl 2 rfl) ?_
                  refine lv_iconst (v := nI 2) hx hb dX8_clause_93 (by rfl) ?_
                  have hPc := hP.sub (ws' := [(m0, .inr (6, [.ref w0, .ref w1, .ref w2, .int ik, .ref w3, .int (nI tx), .int (nI hpn_155), .int (nI f9), .ref w4, .ref w5, .int (nI cl), .ref w6, .ref w7, .ref w8, .ref w9])), (w3, .inl (E 0, 100, .inl tg))]) [0, 1] rfl
                  have hDc := hD.sub (ws' := [(m0, .inr (6, [.ref w0, .ref w1, .ref w2, .int ik, .ref w3, .int (nI tx), .int (nI hpn_155), .int (nI f9), .ref w4, .ref w5, .int (nI cl), .ref w6, .ref w7, .ref w8, .ref w9])), (w3, .inl (E 0, 100, .inl tg))]) [0, 1] (by decide +kernel) rfl
                  have hAc := zw_AA (wc := [(m0, .inr (6, [.ref w0, .ref w1, .ref w2, .int ik, .ref w3, .int (nI tx), .int (nI hpn_155), .int (nI f9), .ref w4, .ref w5, .int (nI cl), .ref w6, .ref w7, .ref w8, .ref w9])), (w3, .inl (E 0, 100, .inl tg))]) hD [0, 1] rfl
                  refine zw_ci hAc hS (va_runV (As := [.int (nI 2)]) (rest := [.int (nI ((3 * cl) + 2)), .ref w5]) ⟨hx, hb, hml, hown, hts⟩ (c_X8_number_f l D E m0 w0 w1 w2 w3 w4 w5 w6 w7 w8 w9 ik tx cl wv hpn_155 tg T 2 f9 (htx) (by omega) (by omega)) (cwV 1 hts gX8_clause_X8_number rfl rfl rfl (by decide +kernel) ⟨Nat.le_of_ble_eq_true rfl, Nat.le_of_ble_eq_true rfl⟩) (zw_V hK hPc hDc (ci := 6) (q0 := 0) rfl rfl) rfl rfl hl.1 rfl (lv_room (Nat.le_of_ble_eq_true rfl)) dX8_clause_94 ⟨Nat.zero_le _, Nat.zero_le _⟩) (fun r_184 u_186 H locs hw_185 hP1 hD1 hk1 hS => ?_)
                  obtain ⟨hP, hD⟩ := zw_join (wr := [(w4, .inl (E 0, 12, .inl (upd wd cl (nI 7)))), (w5, .inl (E 0, 36, .inl (upd (upd nu (3 * cl) (nI 0)) ((3 * cl) + 1) (nI 0))))]) (w1 := [(m0, .inr (6, [.ref w0, .ref w1, .ref w2, .int ik, .ref w3, .int (nI tx), .int (nI hpn_155), .int (nI f9), .ref w4, .ref w5, .int (nI cl), .ref w6, .ref w7, .ref w8, .ref w9])), (w3, .inl (E 0, 100, .inl tg))]) (ws' := [(m0, .inr (6, [.ref w0, .ref w1, .ref w2, .int ik, .ref w3, .int (nI tx), .int (nI hpn_155), .int (nI f9), .ref w4, .ref w5, .int (nI cl), .ref w6, .ref w7, .ref w8, .ref w9])), (w3, .inl (E 0, 100, .inl tg)), (w4, .inl (E 0, 12, .inl (upd wd cl (nI 7)))), (w5, .inl (E 0, 36, .inl (upd (upd nu (3 * cl) (nI 0)) ((3 * cl) + 1) (nI 0))))]) hP hD [0, 1] [2, 3] [2, 3, 0, 1] rfl rfl (by decide +kernel) (by decide +kernel) hAc hk1 hP1 hD1 (by decide +kernel) rfl
                  clear hP1 hD1 hk1 hPc hDc hAc
                  obtain ⟨rfl, hw_185⟩ := hw_185
                  refine va_iast hx hb hK.1 hP hD hS 3 0 rfl rfl (vp_in_nI (by omega) (by omega)) dX8_clause_97 (fun H locs hP hD hS => ?_)
                  have hP : va_P D vwCl [(m0, .inr (6, [.ref w0, .ref w1, .ref w2, .int ik, .ref w3, .int (nI tx), .int (nI hpn_155), .int (nI f9), .ref w4, .ref w5, .int (nI cl), .ref w6, .ref w7, .ref w8, .ref w9])), (w3, .inl (E 0, 100, .inl tg)), (w4, .inl (E 0, 12, .inl (upd wd cl (nI 7)))), (w5, .inl (E 0, 36, .inl (upd (upd (upd nu (3 * cl) (nI 0)) ((3 * cl) + 1) (nI 0)) (nI ((3 * cl) + 2)).toNatClampNeg (nI 0))))] H := hP
                  have hD : va_D A [(m0, .inr (6, [.ref w0, .ref w1, .ref w2, .int ik, .ref w3, .int (nI tx), .int (nI hpn_155), .int (nI f9), .ref w4, .ref w5, .int (nI cl), .ref w6, .ref w7, .ref w8, .ref w9])), (w3, .inl (E 0, 100, .inl tg)), (w4, .inl (E 0, 12, .inl (upd wd cl (nI 7)))), (w5, .inl (E 0, 36, .inl (upd (upd (upd nu (3 * cl) (nI 0)) ((3 * cl) + 1) (nI 0)) (nI ((3 * cl) + 2)).toNatClampNeg (nI 0))))] := hD
                  have hcz : (upd (upd (upd nu (3 * cl) (nI 0)) ((3 * cl) + 1) (nI 0)) (nI ((3 * cl) + 2)).toNatClampNeg (nI 0)) = (upd (upd (upd nu (3 * cl) (nI 0)) ((3 * cl) + 1) (nI 0)) ((3 * cl) + 2) (nI 0)) := by rw [nI_clamp (n := (3 * cl) + 2) (by omega)]
                  rw [hcz] at hP hD
                  refine lv_aload_n hx hb dX8_clause_98 rfl (lv_at hl 2 rfl) ?_
                  refine lv_dup hx hb dX8_clause_99 rfl ?_
                  refine va_get (D := D) (ci := 6) (v := .int (nI cl)) (C := RX8) (T := TX8) (N := 15) hx hb hts (by decide +kernel) hown hK.1 hP 0 rfl rfl 10 (by decide) (hts (.fieldLink RX8 132 "HomeRoundsModel" "clauses" "I") (by decide +kernel)) (fun _ h9 => h9) rfl dX8_clause_100 ?_
                  refine lv_iconst (v := nI 1) hx hb dX8_clause_103 (by rfl) ?_
                  refine lv_iadd hx hb dX8_clause_104 ?_
                  refine zr_ti (y := nI (cl + 1)) (nI_add _ _) ?_
                  refine va_put (D := D) (ci := 6) (v := .int (nI (cl + 1))) (ty := .int) (C := RX8) (T := TX8) (N := 15) hx hb hts (by decide +kernel) tyX8 tyX8_ok nmX8 hown hK.1 hP hD hS 0 rfl rfl 10 (by decide) (hts (.fieldLink RX8 132 "HomeRoundsModel" "clauses" "I") (by decide +kernel)) (fun _ h9 => h9) rfl (by decide +kernel) rfl rfl (Nat.le_of_ble_eq_true rfl) dX8_clause_105 (fun H locs hP hD hS => ?_)
                  have hP : va_P D vwCl [(m0, .inr (6, [.ref w0, .ref w1, .ref w2, .int ik, .ref w3, .int (nI tx), .int (nI hpn_155), .int (nI f9), .ref w4, .ref w5, .int (nI (cl + 1)), .ref w6, .ref w7, .ref w8, .ref w9])), (w3, .inl (E 0, 100, .inl tg)), (w4, .inl (E 0, 12, .inl (upd wd cl (nI 7)))), (w5, .inl (E 0, 36, .inl (upd (upd (upd nu (3 * cl) (nI 0)) ((3 * cl) + 1) (nI 0)) ((3 * cl) + 2) (nI 0))))] H := hP
                  have hD : va_D A [(m0, .inr (6, [.ref w0, .ref w1, .ref w2, .int ik, .ref w3, .int (nI tx), .int (nI hpn_155), .int (nI f9), .ref w4, .ref w5, .int (nI (cl + 1)), .ref w6, .ref w7, .ref w8, .ref w9])), (w3, .inl (E 0, 100, .inl tg)), (w4, .inl (E 0, 12, .inl (upd wd cl (nI 7)))), (w5, .inl (E 0, 36, .inl (upd (upd (upd nu (3 * cl) (nI 0)) ((3 * cl) + 1) (nI 0)) ((3 * cl) + 2) (nI 0))))] := hD
                  subst hQ; subst hAe
                  exact W.vret hx hb hr (fun tz htz hWz => ⟨⟨(hpn_155, nI f9, cl + 1, (upd wd cl (nI 7)), (upd (upd (upd nu (3 * cl) (nI 0)) ((3 * cl) + 1) (nI 0)) ((3 * cl) + 2) (nI 0))), rfl, ⟨by rw [hcF.trans (zx_fl_cs hfl0)]; rfl, fun q => by rw [hcF.trans (zx_fl_cs hfl0)] at q; cases q⟩, by rw [htz]; exact hP, hD⟩, hS.F htz⟩) hS.2.2 dX8_clause_108
    · skip
      exact absurd cn_151 (by decide)
  · skip
    refine zr_ti (y := -1) (hwz.trans (by rw [hcw]; rfl)) ?_
    rw [hpe, hfa, hcw, if_neg (by decide)] at hP hD
    refine lv_istore_n (lv' := [(1, .int (-1)), (0, .ref m0)]) hx hb dX8_clause_4 rfl hl (by decide) rfl (fun ls hl => ?_)
    refine lv_aload_n hx hb dX8_clause_5 rfl (lv_at hl 1 rfl) ?_
    refine va_get (D := D) (ci := 6) (v := .int (nI hp)) (C := RX8) (T := TX8) (N := 15) hx hb hts (by decide +kernel) hown hK.1 hP 0 rfl rfl 7 (by decide) (hts (.fieldLink RX8 106 "HomeRoundsModel" "fault" "I") (by decide +kernel)) (fun _ h9 => h9) rfl dX8_clause_6 ?_
    refine lv_if_lt (tgt := 13) hx hb dX8_clause_9 (by decide) (fun cn_187 => ?_) (fun cn_187 => ?_)
    · skip
      have cn_187 : hp < 0 := (nI_ltI (a := hp) (b := 0) (by omega) (by omega)).mp cn_187
      exfalso; omega
    · skip
      have cn_187 : ¬ (hp < 0) := fun hz => cn_187 ((nI_ltI (a := hp) (b := 0) (by omega) (by omega)).mpr hz)
      subst hQ; subst hAe
      exact W.vret hx hb hr (fun tz htz hWz => ⟨⟨(zx_we T tx 100 hp, nI hp, cl, wd, nu), rfl, ⟨by unfold zx_cF; rw [if_pos hcw]; rfl, fun q => by unfold zx_cF at q; rw [if_pos hcw] at q; cases q⟩, by rw [htz]; exact hP, hD⟩, hS.F htz⟩) hS.2.2 dX8_clause_12

