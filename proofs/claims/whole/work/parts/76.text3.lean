set_option maxHeartbeats 4000000 in
set_option maxRecDepth 100000 in
theorem c_X5_parseClause (l : Launch) (D : va_G) (E : Nat → ClassId) (adK adV ad : Nat → Nat) (wa sa : Nat) (xx : Nat) (x1 : Nat) (x2 : Nat) (x3 : Nat) (tx : Nat) (pl : Nat) (sg : Nat → Int32) (T : Nat → Nat) (y1 : Nat) (cn : Nat) (cc : Nat → Int32) (nm : Nat → Int32) (htx : zx_T tx T sg) (hpl5 : pl ≤ tx) (hcn : cn < 12) : Met l yX5_parseClause wsX5_parseClause ({ frames := 7, cells := 0, slots := 0, locals := 152 }) (zwE_P D E adK adV ad wa sa [.ref xx] [(xx, .inr (4, [.ref x1, .ref x2, .ref x3, .int (nI tx), .int (nI pl)])), (x1, .inl (E 2, 100, .inl sg)), (x2, .inr (1, [.int (nI 12), .ref y1, .int (nI cn)])), (y1, .inl (E 0, 48, .inl cc)), (x3, .inl (E 0, 3, .inl nm))]) (zw_Qi D [(xx, .inr (4, [.ref x1, .ref x2, .ref x3, .int (nI tx), .int (nI pl)])), (x1, .inl (E 2, 100, .inl sg)), (x2, .inr (1, [.int (nI 12), .ref y1, .int (nI cn)])), (y1, .inl (E 0, 48, .inl cc)), (x3, .inl (E 0, 3, .inl nm))] (fun zv (u : (Nat) × (Nat) × (Nat → Int32) × (Nat → Int32)) => zv = zx_fz (zx_cF T tx pl) ∧ (zx_cF T tx pl = none → u.1 = zx_cP T tx pl ∧ u.2.1 = cn + 1 ∧ zx_put T tx pl cn cc u.2.2.1)) (fun (u : (Nat) × (Nat) × (Nat → Int32) × (Nat → Int32)) => [(xx, .inr (4, [.ref x1, .ref x2, .ref x3, .int (nI tx), .int (nI u.1)])), (x1, .inl (E 2, 100, .inl sg)), (x2, .inr (1, [.int (nI 12), .ref y1, .int (nI u.2.1)])), (y1, .inl (E 0, 48, .inl u.2.2.1)), (x3, .inl (E 0, 3, .inl u.2.2.2))])) 0 0 (zw_A [(xx, .inr (4, [.ref x1, .ref x2, .ref x3, .int (nI tx), .int (nI pl)])), (x1, .inl (E 2, 100, .inl sg)), (x2, .inr (1, [.int (nI 12), .ref y1, .int (nI cn)])), (y1, .inl (E 0, 48, .inl cc)), (x3, .inl (E 0, 3, .inl nm))]) := by
  refine Met.ofW (cc := cX5_parseClause) (maxL := 5) (ret := (some .int)) (by decide) rfl ?_
  intro p e s m args below meth c s₁ Bz hml hv
  obtain ⟨rfl, hP, hK, hD0, hE, hR⟩ := hv
  have hx := Bz.exec
  have hb := Bz.bytes
  have hr := Bz.returns
  have hts := atoms_spec (ws := wsX5_parseClause) Bz.pre
  have hown : s.vm.findClass RX5 = some m.cls := findClass_of_methodNamed Bz.named
  have hlocks := Bz.notSynchronized
  have hP : va_P D vwCl [(xx, .inr (4, [.ref x1, .ref x2, .ref x3, .int (nI tx), .int (nI pl)])), (x1, .inl (E 2, 100, .inl sg)), (x2, .inr (1, [.int (nI 12), .ref y1, .int (nI cn)])), (y1, .inl (E 0, 48, .inl cc)), (x3, .inl (E 0, 3, .inl nm))] s.heap := hP
  obtain ⟨A, hAe⟩ : ∃ A : Nat → Prop, A = zw_A [(xx, .inr (4, [.ref x1, .ref x2, .ref x3, .int (nI tx), .int (nI pl)])), (x1, .inl (E 2, 100, .inl sg)), (x2, .inr (1, [.int (nI 12), .ref y1, .int (nI cn)])), (y1, .inl (E 0, 48, .inl cc)), (x3, .inl (E 0, 3, .inl nm))] := ⟨_, rfl⟩
  have hD : va_D A [(xx, .inr (4, [.ref x1, .ref x2, .ref x3, .int (nI tx), .int (nI pl)])), (x1, .inl (E 2, 100, .inl sg)), (x2, .inr (1, [.int (nI 12), .ref y1, .int (nI cn)])), (y1, .inl (E 0, 48, .inl cc)), (x3, .inl (E 0, 3, .inl nm))] := hAe ▸ zw_own hD0
  have hE : zc_E adK adV ad wa sa A s s.heap := by rw [hAe]; exact hE
  have hS : va_S A s.heap s.heap [] := va_S.rf
  have hl := lv_entry ([.ref xx]) (n := 5) (Nat.le_of_ble_eq_true rfl)
  rw [lg_entry_eq]
  generalize (lg_sl ([.ref xx]) ++ List.replicate (5 - (lg_sl ([.ref xx])).length) Slot.unset).toArray = ls at hl ⊢
  have hl : lv_has ls 5 [(0, .ref xx)] := hl
  refine zr_nQ (fun Q hQ => ?_)
  have htx2 := htx.2
  have htx1 := htx.1
  have hwe2 := zx_we_le (T := T) (L := tx) 100 pl hpl5
  refine lv_aload_n hx hb dX5_parseClause_0 rfl (lv_at hl 0 rfl) ?_
  refine va_get (D := D) (ci := 4) (v := .int (nI pl)) (C := RX5) (T := TX5) (N := 5) hx hb hts (by decide +kernel) hown hK.1 hP 0 rfl rfl 4 (by decide) (hts (.fieldLink RX5 28 "HomeRounds$Text" "place" "I") (by decide +kernel)) (fun _ h9 => h9) rfl dX5_parseClause_1 ?_
  refine lv_istore_n (lv' := [(1, .int (nI pl)), (0, .ref xx)]) hx hb dX5_parseClause_4 rfl hl (by decide) rfl (fun ls hl => ?_)
  refine lv_aload_n hx hb dX5_parseClause_5 rfl (lv_at hl 1 rfl) ?_
  have hPc := hP.sub (ws' := [(xx, .inr (4, [.ref x1, .ref x2, .ref x3, .int (nI tx), .int (nI pl)])), (x1, .inl (E 2, 100, .inl sg))]) [0, 1] rfl
  have hDc := hD.sub (ws' := [(xx, .inr (4, [.ref x1, .ref x2, .ref x3, .int (nI tx), .int (nI pl)])), (x1, .inl (E 2, 100, .inl sg))]) [0, 1] (by decide +kernel) rfl
  have hAc := zw_AA (wc := [(xx, .inr (4, [.ref x1, .ref x2, .ref x3, .int (nI tx), .int (nI pl)])), (x1, .inl (E 2, 100, .inl sg))]) hD [0, 1] rfl
  refine zw_ci hAc hS (va_runV (As := []) (rest := []) ⟨hx, hb, hml, hown, hts⟩ (c_X5_takeWord l D E adK adV ad wa sa xx x1 x2 x3 tx pl sg T (htx) (by omega)) (cwV 0 hts gX5_parseClause_X5_takeWord rfl rfl rfl (by decide +kernel) ⟨Nat.le_of_ble_eq_true rfl, Nat.le_of_ble_eq_true rfl⟩) (zwE_V hE hR hS hAc hK hPc hDc (ci := 4) (q0 := 0) rfl rfl) rfl rfl hl.1 rfl (lv_room (Nat.le_of_ble_eq_true rfl)) dX5_parseClause_6 ⟨Nat.zero_le _, Nat.zero_le _⟩) (fun r_1 u_3 H locs hw_2 hP1 hD1 hk1 hS => ?_)
  obtain ⟨pln_4, rfl⟩ : ∃ z, z = u_3 := ⟨_, rfl⟩
  try dsimp only at hw_2 hP1 hD1
  obtain ⟨hP, hD⟩ := zw_join (wr := [(x2, .inr (1, [.int (nI 12), .ref y1, .int (nI cn)])), (y1, .inl (E 0, 48, .inl cc)), (x3, .inl (E 0, 3, .inl nm))]) (w1 := [(xx, .inr (4, [.ref x1, .ref x2, .ref x3, .int (nI tx), .int (nI pln_4)])), (x1, .inl (E 2, 100, .inl sg))]) (ws' := [(xx, .inr (4, [.ref x1, .ref x2, .ref x3, .int (nI tx), .int (nI pln_4)])), (x1, .inl (E 2, 100, .inl sg)), (x2, .inr (1, [.int (nI 12), .ref y1, .int (nI cn)])), (y1, .inl (E 0, 48, .inl cc)), (x3, .inl (E 0, 3, .inl nm))]) hP hD [0, 1] [2, 3, 4] [3, 4, 0, 1, 2] rfl rfl (by decide +kernel) (by decide +kernel) hAc hk1 hP1 hD1 (by decide +kernel) rfl
  clear hP1 hD1 hk1 hPc hDc hAc
  obtain ⟨hwz, hpln⟩ := hw_2
  rw [hpln] at hP hD
  refine lv_istore_n (lv' := [(2, .int r_1), (1, .int (nI pl)), (0, .ref xx)]) hx hb dX5_parseClause_9 rfl hl (by decide) rfl (fun ls hl => ?_)
  rcases Nat.lt_or_ge (zx_cw T tx pl) 8 with hw8 | hw8
  · skip
    rw [hwz, zx_wz_t hw8] at hl
    obtain ⟨w9, hw9⟩ : ∃ w, zx_cw T tx pl = w := ⟨_, rfl⟩
    rw [hw9] at hl hw8
    have hcF : zx_cF T tx pl = zx_fl T tx (zx_fw w9) (zx_we T tx 100 pl) := by unfold zx_cF; rw [hw9, if_neg (by omega)]
    obtain ⟨hf1, hf2, hf3⟩ := zx_fwE w9 hw8
    refine lv_iload_n hx hb dX5_parseClause_10 rfl (lv_at hl 0 rfl) ?_
    refine lv_if_ge (tgt := 16) hx hb dX5_parseClause_11 (by decide) (fun cn_5 => ?_) (fun cn_5 => ?_)
    · skip
      have cn_5 : 0 ≤ w9 := (nI_leI (a := 0) (b := w9) (by omega) (by omega)).mp cn_5
      refine va_getsN (v := .ref wa) hx hb hE.2.2.1 hS hown (va_tabs rfl rfl hK.2.2.2.2.2.2.2.2) (fun _ h9 => h9) dX5_parseClause_16 ?_
      refine lv_iload_n hx hb dX5_parseClause_19 rfl (lv_at hl 0 rfl) ?_
      refine vb_tq (v := .ref (ad w9)) hx hb hE.2.2.2.1 hS (vp_in_nI (by omega) (by omega)) (by rw [nI_clamp (by omega)]) dX5_parseClause_20 ?_
      refine vk_getf (v := .ref (adK (zc_nu w9))) hx hb ((hE.2.2.2.2.2.2.1 w9 (by omega)).2.2.1) hS hown (hts (.fieldLink RX5 56 "HomeRounds$Word" "numbers" "Ljava/lang/String;") (by decide +kernel)) (fun _ h9 => h9) dX5_parseClause_21 ?_
      refine lv_astore_n (lv' := [(3, .ref (adK (zc_nu w9))), (2, .int (nI w9)), (1, .int (nI pl)), (0, .ref xx)]) hx hb dX5_parseClause_24 rfl hl (by decide) rfl (fun ls hl => ?_)
      refine lv_aload_n hx hb dX5_parseClause_25 rfl (lv_at hl 3 rfl) ?_
      refine va_get (D := D) (ci := 4) (v := .ref x3) (C := RX5) (T := TX5) (N := 5) hx hb hts (by decide +kernel) hown hK.1 hP 0 rfl rfl 2 (by decide) (hts (.fieldLink RX5 24 "HomeRounds$Text" "numbers" "[I") (by decide +kernel)) (fun _ h9 => h9) rfl dX5_parseClause_26 ?_
      refine lv_iconst (v := nI 0) hx hb dX5_parseClause_29 (by rfl) ?_
      have hPc := hP.sub (ws' := [(x3, .inl (E 0, 3, .inl nm))]) [4] rfl
      have hDc := hD.sub (ws' := [(x3, .inl (E 0, 3, .inl nm))]) [4] (by decide +kernel) rfl
      have hAc := zw_AA (wc := [(x3, .inl (E 0, 3, .inl nm))]) hD [4] rfl
      refine zw_cv hAc hS (va_runS (As := [.ref x3, .int (nI 0)]) (rest := []) ⟨hx, hb, hml, hown, hts⟩ (c_J7_fill_53178 l D E x3 3 nm (nI 0) (by omega)) (va_cwS 2 hts gX5_parseClause_J7_fill_53178 rfl rfl rfl (by decide +kernel) ⟨Nat.le_of_ble_eq_true rfl, Nat.le_of_ble_eq_true rfl⟩) (zw_S hK hPc hDc) rfl rfl hl.1 rfl (lv_room (Nat.le_of_ble_eq_true rfl)) dX5_parseClause_30 ⟨Nat.zero_le _, Nat.zero_le _⟩) (fun u_8 H locs hw_7 hP1 hD1 hk1 hS => ?_)
      obtain ⟨ff_9, rfl⟩ : ∃ z, z = u_8 := ⟨_, rfl⟩
      try dsimp only at hw_7 hP1 hD1
      obtain ⟨hP, hD⟩ := zw_join (wr := [(xx, .inr (4, [.ref x1, .ref x2, .ref x3, .int (nI tx), .int (nI (zx_we T tx 100 pl))])), (x1, .inl (E 2, 100, .inl sg)), (x2, .inr (1, [.int (nI 12), .ref y1, .int (nI cn)])), (y1, .inl (E 0, 48, .inl cc))]) (w1 := [(x3, .inl (E 0, 3, .inl ff_9))]) (ws' := [(xx, .inr (4, [.ref x1, .ref x2, .ref x3, .int (nI tx), .int (nI (zx_we T tx 100 pl))])), (x1, .inl (E 2, 100, .inl sg)), (x2, .inr (1, [.int (nI 12), .ref y1, .int (nI cn)])), (y1, .inl (E 0, 48, .inl cc)), (x3, .inl (E 0, 3, .inl ff_9))]) hP hD [4] [0, 1, 2, 3] [0, 1, 2, 3, 4] rfl rfl (by decide +kernel) (by decide +kernel) hAc hk1 hP1 hD1 (by decide +kernel) rfl
      clear hP1 hD1 hk1 hPc hDc hAc
      have hfill := hw_7
      refine lv_iconst (v := nI 0) hx hb dX5_parseClause_33 (by rfl) ?_
      refine lv_istore (lv' := [(4, .int (nI 0)), (3, .ref (adK (zc_nu w9))), (2, .int (nI w9)), (1, .int (nI pl)), (0, .ref xx)]) hx hb dX5_parseClause_34 hl (by decide) rfl (fun ls hl => ?_)
      suffices KL36 : ∀ (kz : Nat) (i : Nat) (p2 : Nat) (nmv : Nat → Int32) (H : Heap) (locs : List Loc) (ls : Array Slot), (zc_len.getD (zc_nu w9) 0 - i) < kz → (zx_I T tx w9 (zx_we T tx 100 pl) i p2 nmv) → (p2 ≤ tx) → (i ≤ (zx_fw w9).length) → va_P D vwCl [(xx, .inr (4, [.ref x1, .ref x2, .ref x3, .int (nI tx), .int (nI p2)])), (x1, .inl (E 2, 100, .inl sg)), (x2, .inr (1, [.int (nI 12), .ref y1, .int (nI cn)])), (y1, .inl (E 0, 48, .inl cc)), (x3, .inl (E 0, 3, .inl nmv))] H → va_D A [(xx, .inr (4, [.ref x1, .ref x2, .ref x3, .int (nI tx), .int (nI p2)])), (x1, .inl (E 2, 100, .inl sg)), (x2, .inr (1, [.int (nI 12), .ref y1, .int (nI cn)])), (y1, .inl (E 0, 48, .inl cc)), (x3, .inl (E 0, 3, .inl nmv))] → va_S A s.heap H locs → lv_has ls 5 [(0, .ref xx), (1, .int (nI pl)), (2, .int (nI w9)), (3, .ref (adK (zc_nu w9))), (4, .int (nI i))] → W p l e (headSpec wsX5_parseClause ({ frames := 7, cells := 0, slots := 0, locals := 152 })).room s m ([.ref xx] : List Value).toArray below meth c H locs 0 0 Q (F0 m 36 ls []) from
        KL36 _ 0 (zx_we T tx 100 pl) ff_9 _ _ ls (Nat.lt_succ_self _) (zx_I_0 hfill) (hwe2) (Nat.zero_le _) hP hD hS (lv_sub hl [4, 3, 2, 1, 0] rfl)
      clear hP hS hl hD
      intro kz
      induction kz with
      | zero => intro i p2 nmv H locs ls hkz; exact absurd hkz (Nat.not_lt_zero _)
      | succ kz ih36 =>
        intro i p2 nmv H locs ls hkz hI hp2 hi9 hP hD hS hl
        refine lv_iload hx hb dX5_parseClause_36 (lv_at hl 4 rfl) ?_
        refine lv_aload_n hx hb dX5_parseClause_38 rfl (lv_at hl 3 rfl) ?_
        refine zr_ci hP hS (va_runV (As := []) (rest := [.int (nI i)]) ⟨hx, hb, hml, hown, hts⟩ (c_J0_length_8abf5 l D E adK adV ad wa sa (zc_nu w9) (hf3)) (cwV 0 hts gX5_parseClause_J0_length_8abf5 rfl rfl rfl (by decide +kernel) ⟨Nat.le_of_ble_eq_true rfl, Nat.le_of_ble_eq_true rfl⟩) (zrE_VK (i := (zc_nu w9)) (hf3) hE hR hS hK (hP.sub (ws' := []) [] rfl)) rfl rfl hl.1 rfl (lv_room (Nat.le_of_ble_eq_true rfl)) dX5_parseClause_39 ⟨Nat.zero_le _, Nat.zero_le _⟩) (fun r_10 H locs hw_11 hP hS => ?_)
        subst hw_11
        refine lv_icmp_ge (tgt := 124) hx hb dX5_parseClause_42 (by decide) (fun cn_12 => ?_) (fun cn_12 => ?_)
        · skip
          have cn_12 : zc_len.getD (zc_nu w9) 0 ≤ i := (nI_leI (a := zc_len.getD (zc_nu w9) 0) (b := i) (by omega) (by omega)).mp cn_12
          have hie : i = (zx_fw w9).length := by omega
          obtain ⟨hz1, hz2, hz3⟩ := zx_I_e hI hie
          refine lv_aload_n hx hb dX5_parseClause_124 rfl (lv_at hl 0 rfl) ?_
          refine va_get (D := D) (ci := 4) (v := .ref x2) (C := RX5) (T := TX5) (N := 5) hx hb hts (by decide +kernel) hown hK.1 hP 0 rfl rfl 1 (by decide) (hts (.fieldLink RX5 20 "HomeRounds$Text" "clauses" "LHomeRounds$Rows;") (by decide +kernel)) (fun _ h9 => h9) rfl dX5_parseClause_125 ?_
          refine lv_iload_n hx hb dX5_parseClause_128 rfl (lv_at hl 2 rfl) ?_
          refine lv_aload_n hx hb dX5_parseClause_129 rfl (lv_at hl 0 rfl) ?_
          refine va_get (D := D) (ci := 4) (v := .ref x3) (C := RX5) (T := TX5) (N := 5) hx hb hts (by decide +kernel) hown hK.1 hP 0 rfl rfl 2 (by decide) (hts (.fieldLink RX5 24 "HomeRounds$Text" "numbers" "[I") (by decide +kernel)) (fun _ h9 => h9) rfl dX5_parseClause_130 ?_
          refine lv_iconst (v := nI 0) hx hb dX5_parseClause_133 (by rfl) ?_
          refine va_iald hx hb hK.1 hP 4 0 rfl rfl (vp_in_nI (by omega) (by omega)) dX5_parseClause_134 ?_
          refine zr_ti (y := nI (zx_cN T tx pl 0)) ((congrArg nmv (nI_clamp (by omega))).trans ((hz3 0 (by omega)).trans (by unfold zx_cN; rw [hw9]))) ?_
          refine lv_aload_n hx hb dX5_parseClause_135 rfl (lv_at hl 0 rfl) ?_
          refine va_get (D := D) (ci := 4) (v := .ref x3) (C := RX5) (T := TX5) (N := 5) hx hb hts (by decide +kernel) hown hK.1 hP 0 rfl rfl 2 (by decide) (hts (.fieldLink RX5 24 "HomeRounds$Text" "numbers" "[I") (by decide +kernel)) (fun _ h9 => h9) rfl dX5_parseClause_136 ?_
          refine lv_iconst (v := nI 1) hx hb dX5_parseClause_139 (by rfl) ?_
          refine va_iald hx hb hK.1 hP 4 0 rfl rfl (vp_in_nI (by omega) (by omega)) dX5_parseClause_140 ?_
          refine zr_ti (y := nI (zx_cN T tx pl 1)) ((congrArg nmv (nI_clamp (by omega))).trans ((hz3 1 (by omega)).trans (by unfold zx_cN; rw [hw9]))) ?_
          refine lv_aload_n hx hb dX5_parseClause_141 rfl (lv_at hl 0 rfl) ?_
          refine va_get (D := D) (ci := 4) (v := .ref x3) (C := RX5) (T := TX5) (N := 5) hx hb hts (by decide +kernel) hown hK.1 hP 0 rfl rfl 2 (by decide) (hts (.fieldLink RX5 24 "HomeRounds$Text" "numbers" "[I") (by decide +kernel)) (fun _ h9 => h9) rfl dX5_parseClause_142 ?_
          refine lv_iconst (v := nI 2) hx hb dX5_parseClause_145 (by rfl) ?_
          refine va_iald hx hb hK.1 hP 4 0 rfl rfl (vp_in_nI (by omega) (by omega)) dX5_parseClause_146 ?_
          refine zr_ti (y := nI (zx_cN T tx pl 2)) ((congrArg nmv (nI_clamp (by omega))).trans ((hz3 2 (by omega)).trans (by unfold zx_cN; rw [hw9]))) ?_
          have hPc := hP.sub (ws' := [(x2, .inr (1, [.int (nI 12), .ref y1, .int (nI cn)])), (y1, .inl (E 0, 48, .inl cc))]) [2, 3] rfl
          have hDc := hD.sub (ws' := [(x2, .inr (1, [.int (nI 12), .ref y1, .int (nI cn)])), (y1, .inl (E 0, 48, .inl cc))]) [2, 3] (by decide +kernel) rfl
          have hAc := zw_AA (wc := [(x2, .inr (1, [.int (nI 12), .ref y1, .int (nI cn)])), (y1, .inl (E 0, 48, .inl cc))]) hD [2, 3] rfl
          refine zw_cv hAc hS (va_runV (As := [.int (nI w9), .int (nI (zx_cN T tx pl 0)), .int (nI (zx_cN T tx pl 1)), .int (nI (zx_cN T tx pl 2))]) (rest := []) ⟨hx, hb, hml, hown, hts⟩ (c_X2_add l D E x2 y1 12 48 cn cc (nI w9) (nI (zx_cN T tx pl 0)) (nI (zx_cN T tx pl 1)) (nI (zx_cN T tx pl 2)) (by omega) (by omega) (by omega)) (cwV 4 hts gX5_parseClause_X2_add rfl rfl rfl (by decide +kernel) ⟨Nat.le_of_ble_eq_true rfl, Nat.le_of_ble_eq_true rfl⟩) (zw_V hK hPc hDc (ci := 1) (q0 := 0) rfl rfl) rfl rfl hl.1 rfl (lv_room (Nat.le_of_ble_eq_true rfl)) dX5_parseClause_147 ⟨Nat.zero_le _, Nat.zero_le _⟩) (fun u_15 H locs hw_14 hP1 hD1 hk1 hS => ?_)
          obtain ⟨hP, hD⟩ := zw_join (wr := [(xx, .inr (4, [.ref x1, .ref x2, .ref x3, .int (nI tx), .int (nI p2)])), (x1, .inl (E 2, 100, .inl sg)), (x3, .inl (E 0, 3, .inl nmv))]) (w1 := [(x2, .inr (1, [.int (nI 12), .ref y1, .int (nI (cn + 1))])), (y1, .inl (E 0, 48, .inl (upd (upd (upd (upd cc (cn * 4) (nI w9)) (cn * 4 + 1) (nI (zx_cN T tx pl 0))) (cn * 4 + 2) (nI (zx_cN T tx pl 1))) (cn * 4 + 3) (nI (zx_cN T tx pl 2)))))]) (ws' := [(xx, .inr (4, [.ref x1, .ref x2, .ref x3, .int (nI tx), .int (nI p2)])), (x1, .inl (E 2, 100, .inl sg)), (x2, .inr (1, [.int (nI 12), .ref y1, .int (nI (cn + 1))])), (y1, .inl (E 0, 48, .inl (upd (upd (upd (upd cc (cn * 4) (nI w9)) (cn * 4 + 1) (nI (zx_cN T tx pl 0))) (cn * 4 + 2) (nI (zx_cN T tx pl 1))) (cn * 4 + 3) (nI (zx_cN T tx pl 2))))), (x3, .inl (E 0, 3, .inl nmv))]) hP hD [2, 3] [0, 1, 4] [0, 1, 3, 4, 2] rfl rfl (by decide +kernel) (by decide +kernel) hAc hk1 hP1 hD1 (by decide +kernel) rfl
          clear hP1 hD1 hk1 hPc hDc hAc
          refine lv_iconst (v := (-1)) hx hb dX5_parseClause_150 (by rfl) ?_
          subst hQ; subst hAe
          exact W.iret (v := (-1)) hx hb hr (fun tz htz hWz => ⟨⟨(-1), (p2, cn + 1, upd (upd (upd (upd cc (cn * 4) (nI w9)) (cn * 4 + 1) (nI (zx_cN T tx pl 0))) (cn * 4 + 2) (nI (zx_cN T tx pl 1))) (cn * 4 + 3) (nI (zx_cN T tx pl 2)), nmv), rfl, ⟨by rw [hcF, hz1]; rfl, fun _ => ⟨by unfold zx_cP; rw [hw9]; exact hz2.symm, rfl, by rw [← hw9]; exact zx_put_u⟩⟩, by rw [htz]; exact hP, hD⟩, hS.F htz⟩) hS.2.2 dX5_parseClause_151
        · skip
          have cn_12 : ¬ (zc_len.getD (zc_nu w9) 0 ≤ i) := fun hz => cn_12 ((nI_leI (a := zc_len.getD (zc_nu w9) 0) (b := i) (by omega) (by omega)).mpr hz)
          have hil : i < (zx_fw w9).length := by omega
          obtain ⟨-, hch⟩ := zc_chE (zc_nu w9) hf3 i (by omega)
          refine lv_iload hx hb dX5_parseClause_45 (lv_at hl 4 rfl) ?_
          refine lv_aload_n hx hb dX5_parseClause_47 rfl (lv_at hl 0 rfl) ?_
          refine va_get (D := D) (ci := 4) (v := .ref x3) (C := RX5) (T := TX5) (N := 5) hx hb hts (by decide +kernel) hown hK.1 hP 0 rfl rfl 2 (by decide) (hts (.fieldLink RX5 24 "HomeRounds$Text" "numbers" "[I") (by decide +kernel)) (fun _ h9 => h9) rfl dX5_parseClause_48 ?_
          refine va_alen hx hb hK.1 hP 4 0 rfl rfl (v := nI 3) rfl dX5_parseClause_51 ?_
          refine lv_icmp_ge (tgt := 124) hx hb dX5_parseClause_52 (by decide) (fun cn_16 => ?_) (fun cn_16 => ?_)
          · skip
            have cn_16 : 3 ≤ i := (nI_leI (a := 3) (b := i) (by omega) (by omega)).mp cn_16
            exfalso; omega
          · skip
            have cn_16 : ¬ (3 ≤ i) := fun hz => cn_16 ((nI_leI (a := 3) (b := i) (by omega) (by omega)).mpr hz)
            refine lv_aload_n hx hb dX5_parseClause_55 rfl (lv_at hl 0 rfl) ?_
            refine zr_ci hP hS (va_runV (As := []) (rest := []) ⟨hx, hb, hml, hown, hts⟩ (c_X5_signHere l D E xx x1 x2 x3 tx p2 sg T (htx) (by omega)) (cwV 0 hts gX5_parseClause_X5_signHere rfl rfl rfl (by decide +kernel) ⟨Nat.le_of_ble_eq_true rfl, Nat.le_of_ble_eq_true rfl⟩) (zr_V hK (hP.sub (ws' := [(xx, .inr (4, [.ref x1, .ref x2, .ref x3, .int (nI tx), .int (nI p2)])), (x1, .inl (E 2, 100, .inl sg))]) [0, 1] rfl) (ci := 4) (q0 := 0) rfl rfl) rfl rfl hl.1 rfl (lv_room (Nat.le_of_ble_eq_true rfl)) dX5_parseClause_56 ⟨Nat.zero_le _, Nat.zero_le _⟩) (fun r_17 H locs hw_18 hP hS => ?_)
            subst hw_18
            rcases Nat.lt_or_ge p2 tx with hpt | hpt
            · skip
              refine zr_ti (y := nI (T p2)) (zx_sg_t hpt) ?_
              obtain ⟨ht1, -⟩ := htx2 _ hpt
              refine lv_bipush (v := nI 32) hx hb dX5_parseClause_59 (by rfl) ?_
              refine lv_icmp_eq (tgt := 69) hx hb dX5_parseClause_61 (by decide) (fun cn_19 => ?_) (fun cn_19 => ?_)
              · skip
                have cn_19 : T p2 = 32 := (nI_eq (a := T p2) (b := 32) (by omega) (by omega)).mp cn_19
                have hat32 := zx_at_t hpt cn_19
                refine lv_aload_n hx hb dX5_parseClause_69 rfl (lv_at hl 0 rfl) ?_
                refine lv_dup hx hb dX5_parseClause_70 rfl ?_
                refine va_get (D := D) (ci := 4) (v := .int (nI p2)) (C := RX5) (T := TX5) (N := 5) hx hb hts (by decide +kernel) hown hK.1 hP 0 rfl rfl 4 (by decide) (hts (.fieldLink RX5 28 "HomeRounds$Text" "place" "I") (by decide +kernel)) (fun _ h9 => h9) rfl dX5_parseClause_71 ?_
                refine lv_iconst (v := nI 1) hx hb dX5_parseClause_74 (by rfl) ?_
                refine lv_iadd hx hb dX5_parseClause_75 ?_
                refine zr_ti (y := nI (p2 + 1)) (nI_add _ _) ?_
                refine va_put (D := D) (ci := 4) (v := .int (nI (p2 + 1))) (ty := .int) (C := RX5) (T := TX5) (N := 5) hx hb hts (by decide +kernel) tyX5 tyX5_ok nmX5 hown hK.1 hP hD hS 0 rfl rfl 4 (by decide) (hts (.fieldLink RX5 28 "HomeRounds$Text" "place" "I") (by decide +kernel)) (fun _ h9 => h9) rfl (by decide +kernel) rfl rfl (Nat.le_of_ble_eq_true rfl) dX5_parseClause_76 (fun H locs hP hD hS => ?_)
                have hP : va_P D vwCl [(xx, .inr (4, [.ref x1, .ref x2, .ref x3, .int (nI tx), .int (nI (p2 + 1))])), (x1, .inl (E 2, 100, .inl sg)), (x2, .inr (1, [.int (nI 12), .ref y1, .int (nI cn)])), (y1, .inl (E 0, 48, .inl cc)), (x3, .inl (E 0, 3, .inl nmv))] H := hP
                have hD : va_D A [(xx, .inr (4, [.ref x1, .ref x2, .ref x3, .int (nI tx), .int (nI (p2 + 1))])), (x1, .inl (E 2, 100, .inl sg)), (x2, .inr (1, [.int (nI 12), .ref y1, .int (nI cn)])), (y1, .inl (E 0, 48, .inl cc)), (x3, .inl (E 0, 3, .inl nmv))] := hD
                refine lv_aload_n hx hb dX5_parseClause_79 rfl (lv_at hl 0 rfl) ?_
                refine zr_ci hP hS (va_runV (As := []) (rest := []) ⟨hx, hb, hml, hown, hts⟩ (c_X5_isDigitHere l D E xx x1 x2 x3 tx (p2 + 1) sg T (htx) (by omega)) (cwV 0 hts gX5_parseClause_X5_isDigitHere rfl rfl rfl (by decide +kernel) ⟨Nat.le_of_ble_eq_true rfl, Nat.le_of_ble_eq_true rfl⟩) (zr_V hK (hP.sub (ws' := [(xx, .inr (4, [.ref x1, .ref x2, .ref x3, .int (nI tx), .int (nI (p2 + 1))])), (x1, .inl (E 2, 100, .inl sg))]) [0, 1] rfl) (ci := 4) (q0 := 0) rfl rfl) rfl rfl hl.1 rfl (lv_room (Nat.le_of_ble_eq_true rfl)) dX5_parseClause_80 ⟨Nat.zero_le _, Nat.zero_le _⟩) (fun r_20 H locs hw_21 hP hS => ?_)
                rcases hw_21 with ⟨rfl, hw_21⟩ | ⟨rfl, hw_21⟩
                · skip
                  have hdig := hw_21
                  refine zr_ti (y := nI 1) rfl ?_
                  refine lv_if_ne (tgt := 91) hx hb dX5_parseClause_83 (by decide) (fun cn_22 => ?_) (fun cn_22 => ?_)
                  · skip
                    refine lv_aload_n hx hb dX5_parseClause_91 rfl (lv_at hl 0 rfl) ?_
                    refine va_get (D := D) (ci := 4) (v := .ref x3) (C := RX5) (T := TX5) (N := 5) hx hb hts (by decide +kernel) hown hK.1 hP 0 rfl rfl 2 (by decide) (hts (.fieldLink RX5 24 "HomeRounds$Text" "numbers" "[I") (by decide +kernel)) (fun _ h9 => h9) rfl dX5_parseClause_92 ?_
                    refine lv_iload hx hb dX5_parseClause_95 (lv_at hl 4 rfl) ?_
                    refine lv_aload_n hx hb dX5_parseClause_97 rfl (lv_at hl 0 rfl) ?_
                    refine lv_aload_n hx hb dX5_parseClause_98 rfl (lv_at hl 3 rfl) ?_
                    refine lv_iload hx hb dX5_parseClause_99 (lv_at hl 4 rfl) ?_
                    refine zr_ci hP hS (va_runV (As := [.int (nI i)]) (rest := [.ref xx, .int (nI i), .ref x3]) ⟨hx, hb, hml, hown, hts⟩ (c_J0_charAt_5068e l D E adK adV ad wa sa (zc_nu w9) i (hf3) (by omega)) (cwV 1 hts gX5_parseClause_J0_charAt_5068e rfl rfl rfl (by decide +kernel) ⟨Nat.le_of_ble_eq_true rfl, Nat.le_of_ble_eq_true rfl⟩) (zrE_VK (i := (zc_nu w9)) (hf3) hE hR hS hK (hP.sub (ws' := []) [] rfl)) rfl rfl hl.1 rfl (lv_room (Nat.le_of_ble_eq_true rfl)) dX5_parseClause_101 ⟨Nat.zero_le _, Nat.zero_le _⟩) (fun r_23 H locs hw_24 hP hS => ?_)
                    subst hw_24
                    refine lv_bipush (v := nI 50) hx hb dX5_parseClause_104 (by rfl) ?_
                    refine lv_icmp_ne (tgt := 113) hx hb dX5_parseClause_106 (by decide) (fun cn_25 => ?_) (fun cn_25 => ?_)
                    · skip
                      have cn_25 : ¬ (zc_ch (zc_nu w9) i = 50) := fun hz => cn_25 ((nI_eq (a := zc_ch (zc_nu w9) i) (b := 50) (by omega) (by omega)).mpr hz)
                      have hdr := (zx_fwD w9 hw8 i hil).trans (by rw [if_neg cn_25])
                      refine lv_iconst (v := nI 0) hx hb dX5_parseClause_113 (by rfl) ?_
                      have hPc := hP.sub (ws' := [(xx, .inr (4, [.ref x1, .ref x2, .ref x3, .int (nI tx), .int (nI (p2 + 1))])), (x1, .inl (E 2, 100, .inl sg))]) [0, 1] rfl
                      have hDc := hD.sub (ws' := [(xx, .inr (4, [.ref x1, .ref x2, .ref x3, .int (nI tx), .int (nI (p2 + 1))])), (x1, .inl (E 2, 100, .inl sg))]) [0, 1] (by decide +kernel) rfl
                      have hAc := zw_AA (wc := [(xx, .inr (4, [.ref x1, .ref x2, .ref x3, .int (nI tx), .int (nI (p2 + 1))])), (x1, .inl (E 2, 100, .inl sg))]) hD [0, 1] rfl
                      refine zw_ci hAc hS (va_runV (As := [.int (nI 0)]) (rest := [.int (nI i), .ref x3]) ⟨hx, hb, hml, hown, hts⟩ (c_X5_takeNumber l D E xx x1 x2 x3 tx (p2 + 1) sg T 0 (htx) (by omega) (hdig)) (cwV 1 hts gX5_parseClause_X5_takeNumber rfl rfl rfl (by decide +kernel) ⟨Nat.le_of_ble_eq_true rfl, Nat.le_of_ble_eq_true rfl⟩) (zw_V hK hPc hDc (ci := 4) (q0 := 0) rfl rfl) rfl rfl hl.1 rfl (lv_room (Nat.le_of_ble_eq_true rfl)) dX5_parseClause_114 ⟨Nat.zero_le _, Nat.zero_le _⟩) (fun r_26 u_28 H locs hw_27 hP1 hD1 hk1 hS => ?_)
                      obtain ⟨pln_29, rfl⟩ : ∃ z, z = u_28 := ⟨_, rfl⟩
                      try dsimp only at hw_27 hP1 hD1
                      obtain ⟨hP, hD⟩ := zw_join (wr := [(x2, .inr (1, [.int (nI 12), .ref y1, .int (nI cn)])), (y1, .inl (E 0, 48, .inl cc)), (x3, .inl (E 0, 3, .inl nmv))]) (w1 := [(xx, .inr (4, [.ref x1, .ref x2, .ref x3, .int (nI tx), .int (nI pln_29)])), (x1, .inl (E 2, 100, .inl sg))]) (ws' := [(xx, .inr (4, [.ref x1, .ref x2, .ref x3, .int (nI tx), .int (nI pln_29)])), (x1, .inl (E 2, 100, .inl sg)), (x2, .inr (1, [.int (nI 12), .ref y1, .int (nI cn)])), (y1, .inl (E 0, 48, .inl cc)), (x3, .inl (E 0, 3, .inl nmv))]) hP hD [0, 1] [2, 3, 4] [3, 4, 0, 1, 2] rfl rfl (by decide +kernel) (by decide +kernel) hAc hk1 hP1 hD1 (by decide +kernel) rfl
                      clear hP1 hD1 hk1 hPc hDc hAc
                      obtain ⟨hv9, hp9, hq9⟩ := hw_27
                      subst hv9
                      have hInx := zx_I_s hI hdr hat32 hdig
                      rw [← hp9] at hInx
                      refine va_iast hx hb hK.1 hP hD hS 4 0 rfl rfl (vp_in_nI (by omega) (by omega)) dX5_parseClause_117 (fun H locs hP hD hS => ?_)
                      have hP : va_P D vwCl [(xx, .inr (4, [.ref x1, .ref x2, .ref x3, .int (nI tx), .int (nI pln_29)])), (x1, .inl (E 2, 100, .inl sg)), (x2, .inr (1, [.int (nI 12), .ref y1, .int (nI cn)])), (y1, .inl (E 0, 48, .inl cc)), (x3, .inl (E 0, 3, .inl (upd nmv (nI i).toNatClampNeg (nI (zx_nv T tx 0 (p2 + 1))))))] H := hP
                      have hD : va_D A [(xx, .inr (4, [.ref x1, .ref x2, .ref x3, .int (nI tx), .int (nI pln_29)])), (x1, .inl (E 2, 100, .inl sg)), (x2, .inr (1, [.int (nI 12), .ref y1, .int (nI cn)])), (y1, .inl (E 0, 48, .inl cc)), (x3, .inl (E 0, 3, .inl (upd nmv (nI i).toNatClampNeg (nI (zx_nv T tx 0 (p2 + 1))))))] := hD
                      have hcz : (upd nmv (nI i).toNatClampNeg (nI (zx_nv T tx 0 (p2 + 1)))) = (upd nmv i (nI (zx_nv T tx 0 (p2 + 1)))) := by rw [nI_clamp (n := i) (by omega)]
                      rw [hcz] at hP hD
                      refine lv_iinc (v := nI (i + 1)) (lv' := [(4, .int (nI (i + 1))), (0, .ref xx), (1, .int (nI pl)), (2, .int (nI w9)), (3, .ref (adK (zc_nu w9)))]) hx hb dX5_parseClause_118 hl (k := 4) rfl (nI_add _ _) (by decide) rfl (fun ls hl => ?_)
                      refine lv_goto (tgt := 36) hx hb dX5_parseClause_121 (by decide) ?_
                      have hl : lv_has ls 5 [(0, .ref xx), (1, .int (nI pl)), (2, .int (nI w9)), (3, .ref (adK (zc_nu w9))), (4, .int (nI (i + 1)))] := lv_sub hl [1, 2, 3, 4, 0] rfl
                      exact ih36 (i + 1) pln_29 (upd nmv i (nI (zx_nv T tx 0 (p2 + 1)))) H locs ls (by omega) (hInx) (hq9) (by omega) hP hD hS hl
                    · skip
                      have cn_25 : zc_ch (zc_nu w9) i = 50 := (nI_eq (a := zc_ch (zc_nu w9) i) (b := 50) (by omega) (by omega)).mp cn_25
                      have hdr := (zx_fwD w9 hw8 i hil).trans (by rw [if_pos cn_25])
                      refine lv_iconst (v := nI 1) hx hb dX5_parseClause_109 (by rfl) ?_
                      refine lv_goto (tgt := 114) hx hb dX5_parseClause_110 (by decide) ?_
                      have hPc := hP.sub (ws' := [(xx, .inr (4, [.ref x1, .ref x2, .ref x3, .int (nI tx), .int (nI (p2 + 1))])), (x1, .inl (E 2, 100, .inl sg))]) [0, 1] rfl
                      have hDc := hD.sub (ws' := [(xx, .inr (4, [.ref x1, .ref x2, .ref x3, .int (nI tx), .int (nI (p2 + 1))])), (x1, .inl (E 2, 100, .inl sg))]) [0, 1] (by decide +kernel) rfl
                      have hAc := zw_AA (wc := [(xx, .inr (4, [.ref x1, .ref x2, .ref x3, .int (nI tx), .int (nI (p2 + 1))])), (x1, .inl (E 2, 100, .inl sg))]) hD [0, 1] rfl
                      refine zw_ci hAc hS (va_runV (As := [.int (nI 1)]) (rest := [.int (nI i), .ref x3]) ⟨hx, hb, hml, hown, hts⟩ (c_X5_takeNumber l D E xx x1 x2 x3 tx (p2 + 1) sg T 1 (htx) (by omega) (hdig)) (cwV 1 hts gX5_parseClause_X5_takeNumber rfl rfl rfl (by decide +kernel) ⟨Nat.le_of_ble_eq_true rfl, Nat.le_of_ble_eq_true rfl⟩) (zw_V hK hPc hDc (ci := 4) (q0 := 0) rfl rfl) rfl rfl hl.1 rfl (lv_room (Nat.le_of_ble_eq_true rfl)) dX5_parseClause_114 ⟨Nat.zero_le _, Nat.zero_le _⟩) (fun r_30 u_32 H locs hw_31 hP1 hD1 hk1 hS => ?_)
                      obtain ⟨pln_33, rfl⟩ : ∃ z, z = u_32 := ⟨_, rfl⟩
                      try dsimp only at hw_31 hP1 hD1
                      obtain ⟨hP, hD⟩ := zw_join (wr := [(x2, .inr (1, [.int (nI 12), .ref y1, .int (nI cn)])), (y1, .inl (E 0, 48, .inl cc)), (x3, .inl (E 0, 3, .inl nmv))]) (w1 := [(xx, .inr (4, [.ref x1, .ref x2, .ref x3, .int (nI tx), .int (nI pln_33)])), (x1, .inl (E 2, 100, .inl sg))]) (ws' := [(xx, .inr (4, [.ref x1, .ref x2, .ref x3, .int (nI tx), .int (nI pln_33)])), (x1, .inl (E 2, 100, .inl sg)), (x2, .inr (1, [.int (nI 12), .ref y1, .int (nI cn)])), (y1, .inl (E 0, 48, .inl cc)), (x3, .inl (E 0, 3, .inl nmv))]) hP hD [0, 1] [2, 3, 4] [3, 4, 0, 1, 2] rfl rfl (by decide +kernel) (by decide +kernel) hAc hk1 hP1 hD1 (by decide +kernel) rfl
                      clear hP1 hD1 hk1 hPc hDc hAc
                      obtain ⟨hv9, hp9, hq9⟩ := hw_31
                      subst hv9
                      have hInx := zx_I_s hI hdr hat32 hdig
                      rw [← hp9] at hInx
                      refine va_iast hx hb hK.1 hP hD hS 4 0 rfl rfl (vp_in_nI (by omega) (by omega)) dX5_parseClause_117 (fun H locs hP hD hS => ?_)
                      have hP : va_P D vwCl [(xx, .inr (4, [.ref x1, .ref x2, .ref x3, .int (nI tx), .int (nI pln_33)])), (x1, .inl (E 2, 100, .inl sg)), (x2, .inr (1, [.int (nI 12), .ref y1, .int (nI cn)])), (y1, .inl (E 0, 48, .inl cc)), (x3, .inl (E 0, 3, .inl (upd nmv (nI i).toNatClampNeg (nI (zx_nv T tx 1 (p2 + 1))))))] H := hP
                      have hD : va_D A [(xx, .inr (4, [.ref x1, .ref x2, .ref x3, .int (nI tx), .int (nI pln_33)])), (x1, .inl (E 2, 100, .inl sg)), (x2, .inr (1, [.int (nI 12), .ref y1, .int (nI cn)])), (y1, .inl (E 0, 48, .inl cc)), (x3, .inl (E 0, 3, .inl (upd nmv (nI i).toNatClampNeg (nI (zx_nv T tx 1 (p2 + 1))))))] := hD
                      have hcz : (upd nmv (nI i).toNatClampNeg (nI (zx_nv T tx 1 (p2 + 1)))) = (upd nmv i (nI (zx_nv T tx 1 (p2 + 1)))) := by rw [nI_clamp (n := i) (by omega)]
                      rw [hcz] at hP hD
                      refine lv_iinc (v := nI (i + 1)) (lv' := [(4, .int (nI (i + 1))), (0, .ref xx), (1, .int (nI pl)), (2, .int (nI w9)), (3, .ref (adK (zc_nu w9)))]) hx hb dX5_parseClause_118 hl (k := 4) rfl (nI_add _ _) (by decide) rfl (fun ls hl => ?_)
                      refine lv_goto (tgt := 36) hx hb dX5_parseClause_121 (by decide) ?_
                      have hl : lv_has ls 5 [(0, .ref xx), (1, .int (nI pl)), (2, .int (nI w9)), (3, .ref (adK (zc_nu w9))), (4, .int (nI (i + 1)))] := lv_sub hl [1, 2, 3, 4, 0] rfl
                      exact ih36 (i + 1) pln_33 (upd nmv i (nI (zx_nv T tx 1 (p2 + 1)))) H locs ls (by omega) (hInx) (hq9) (by omega) hP hD hS hl
                  · skip
                    exact absurd cn_22 (by decide)
                · skip
                  have hndig := hw_21
                  refine zr_ti (y := nI 0) rfl ?_
                  refine lv_if_ne (tgt := 91) hx hb dX5_parseClause_83 (by decide) (fun cn_34 => ?_) (fun cn_34 => ?_)
                  · skip
                    exact absurd cn_34 (by decide)
                  · skip
                    refine lv_aload_n hx hb dX5_parseClause_86 rfl (lv_at hl 0 rfl) ?_
                    refine va_get (D := D) (ci := 4) (v := .int (nI (p2 + 1))) (C := RX5) (T := TX5) (N := 5) hx hb hts (by decide +kernel) hown hK.1 hP 0 rfl rfl 4 (by decide) (hts (.fieldLink RX5 28 "HomeRounds$Text" "place" "I") (by decide +kernel)) (fun _ h9 => h9) rfl dX5_parseClause_87 ?_
                    subst hQ; subst hAe
                    exact W.iret (v := nI (p2 + 1)) hx hb hr (fun tz htz hWz => ⟨⟨nI (p2 + 1), (p2 + 1, cn, cc, nmv), rfl, ⟨by rw [hcF, zx_I_f2 hI hw8 hil hat32 hndig]; rfl, fun q => by rw [hcF, zx_I_f2 hI hw8 hil hat32 hndig] at q; cases q⟩, by rw [htz]; exact hP, hD⟩, hS.F htz⟩) hS.2.2 dX5_parseClause_90
              · skip
                have cn_19 : ¬ (T p2 = 32) := fun hz => cn_19 ((nI_eq (a := T p2) (b := 32) (by omega) (by omega)).mpr hz)
                have hnat : zx_at T tx p2 32 = false := zx_at_f (by omega)
                refine lv_aload_n hx hb dX5_parseClause_64 rfl (lv_at hl 0 rfl) ?_
                refine va_get (D := D) (ci := 4) (v := .int (nI p2)) (C := RX5) (T := TX5) (N := 5) hx hb hts (by decide +kernel) hown hK.1 hP 0 rfl rfl 4 (by decide) (hts (.fieldLink RX5 28 "HomeRounds$Text" "place" "I") (by decide +kernel)) (fun _ h9 => h9) rfl dX5_parseClause_65 ?_
                subst hQ; subst hAe
                exact W.iret (v := nI p2) hx hb hr (fun tz htz hWz => ⟨⟨nI p2, (p2, cn, cc, nmv), rfl, ⟨by rw [hcF, zx_I_f1 hI hw8 hil (by first | exact hnat | exact zx_at_f (by omega))]; rfl, fun q => by rw [hcF, zx_I_f1 hI hw8 hil (by first | exact hnat | exact zx_at_f (by omega))] at q; cases q⟩, by rw [htz]; exact hP, hD⟩, hS.F htz⟩) hS.2.2 dX5_parseClause_68
            · skip
              refine zr_ti (y := -1) (zx_sg_f hpt) ?_
              refine lv_bipush (v := nI 32) hx hb dX5_parseClause_59 (by rfl) ?_
              refine lv_icmp_eq (tgt := 69) hx hb dX5_parseClause_61 (by decide) (fun cn_35 => ?_) (fun cn_35 => ?_)
              · skip
                exact absurd cn_35 (by decide)
              · skip
                have hnat : zx_at T tx p2 32 = false := zx_at_f (by omega)
                refine lv_aload_n hx hb dX5_parseClause_64 rfl (lv_at hl 0 rfl) ?_
                refine va_get (D := D) (ci := 4) (v := .int (nI p2)) (C := RX5) (T := TX5) (N := 5) hx hb hts (by decide +kernel) hown hK.1 hP 0 rfl rfl 4 (by decide) (hts (.fieldLink RX5 28 "HomeRounds$Text" "place" "I") (by decide +kernel)) (fun _ h9 => h9) rfl dX5_parseClause_65 ?_
                subst hQ; subst hAe
                exact W.iret (v := nI p2) hx hb hr (fun tz htz hWz => ⟨⟨nI p2, (p2, cn, cc, nmv), rfl, ⟨by rw [hcF, zx_I_f1 hI hw8 hil (by first | exact hnat | exact zx_at_f (by omega))]; rfl, fun q => by rw [hcF, zx_I_f1 hI hw8 hil (by first | exact hnat | exact zx_at_f (by omega))] at q; cases q⟩, by rw [htz]; exact hP, hD⟩, hS.F htz⟩) hS.2.2 dX5_parseClause_68
    · skip
      have cn_5 : ¬ (0 ≤ w9) := fun hz => cn_5 ((nI_leI (a := 0) (b := w9) (by omega) (by omega)).mpr hz)
      exfalso; omega
  · skip
    rw [hwz, zx_wz_f hw8] at hl
    refine lv_iload_n hx hb dX5_parseClause_10 rfl (lv_at hl 0 rfl) ?_
    refine lv_if_ge (tgt := 16) hx hb dX5_parseClause_11 (by decide) (fun cn_36 => ?_) (fun cn_36 => ?_)
    · skip
      exact absurd cn_36 (by decide)
    · skip
      refine lv_iload_n hx hb dX5_parseClause_14 rfl (lv_at hl 1 rfl) ?_
      subst hQ; subst hAe
      exact W.iret (v := nI pl) hx hb hr (fun tz htz hWz => ⟨⟨nI pl, (zx_we T tx 100 pl, cn, cc, nm), rfl, ⟨by unfold zx_cF; rw [if_pos (by have := zx_cw_le (T := T) (L := tx) (p := pl); omega)]; rfl, fun q => by unfold zx_cF at q; rw [if_pos (by have := zx_cw_le (T := T) (L := tx) (p := pl); omega)] at q; cases q⟩, by rw [htz]; exact hP, hD⟩, hS.F htz⟩) hS.2.2 dX5_parseClause_15

set_option maxHeartbeats 4000000 in
set_option maxRecDepth 100000 in
theorem c_X5_parse (l : Launch) (D : va_G) (E : Nat → ClassId) (adK adV ad : Nat → Nat) (wa sa : Nat) (xx : Nat) (x1 : Nat) (x2 : Nat) (x3 : Nat) (tx : Nat) (pl : Nat) (sg : Nat → Int32) (T : Nat → Nat) (y1 : Nat) (cn : Nat) (cc : Nat → Int32) (nm : Nat → Int32) (htx : zx_T tx T sg) : Met l yX5_parse wsX5_parse ({ frames := 8, cells := 0, slots := 0, locals := 176 }) (zwE_P D E adK adV ad wa sa [.ref xx] [(xx, .inr (4, [.ref x1, .ref x2, .ref x3, .int (nI tx), .int (nI pl)])), (x1, .inl (E 2, 100, .inl sg)), (x2, .inr (1, [.int (nI 12), .ref y1, .int (nI cn)])), (y1, .inl (E 0, 48, .inl cc)), (x3, .inl (E 0, 3, .inl nm))]) (zw_Qi D [(xx, .inr (4, [.ref x1, .ref x2, .ref x3, .int (nI tx), .int (nI pl)])), (x1, .inl (E 2, 100, .inl sg)), (x2, .inr (1, [.int (nI 12), .ref y1, .int (nI cn)])), (y1, .inl (E 0, 48, .inl cc)), (x3, .inl (E 0, 3, .inl nm))] (fun zv (u : (Nat) × (Nat) × (Nat → Int32) × (Nat → Int32)) => zv = zx_fz (zx_pf T tx 12 0 0) ∧ (zx_pf T tx 12 0 0 = none → u.2.1 = zx_pc T tx 12 0 0 ∧ u.2.1 ≤ 12 ∧ zx_row T tx u.2.1 u.2.2.1)) (fun (u : (Nat) × (Nat) × (Nat → Int32) × (Nat → Int32)) => [(xx, .inr (4, [.ref x1, .ref x2, .ref x3, .int (nI tx), .int (nI u.1)])), (x1, .inl (E 2, 100, .inl sg)), (x2, .inr (1, [.int (nI 12), .ref y1, .int (nI u.2.1)])), (y1, .inl (E 0, 48, .inl u.2.2.1)), (x3, .inl (E 0, 3, .inl u.2.2.2))])) 0 0 (zw_A [(xx, .inr (4, [.ref x1, .ref x2, .ref x3, .int (nI tx), .int (nI pl)])), (x1, .inl (E 2, 100, .inl sg)), (x2, .inr (1, [.int (nI 12), .ref y1, .int (nI cn)])), (y1, .inl (E 0, 48, .inl cc)), (x3, .inl (E 0, 3, .inl nm))]) := by
  refine Met.ofW (cc := cX5_parse) (maxL := 3) (ret := (some .int)) (by decide) rfl ?_
  intro p e s m args below meth c s₁ Bz hml hv
  obtain ⟨rfl, hP, hK, hD0, hE, hR⟩ := hv
  have hx := Bz.exec
  have hb := Bz.bytes
  have hr := Bz.returns
  have hts := atoms_spec (ws := wsX5_parse) Bz.pre
  have hown : s.vm.findClass RX5 = some m.cls := findClass_of_methodNamed Bz.named
  have hlocks := Bz.notSynchronized
  have hP : va_P D vwCl [(xx, .inr (4, [.ref x1, .ref x2, .ref x3, .int (nI tx), .int (nI pl)])), (x1, .inl (E 2, 100, .inl sg)), (x2, .inr (1, [.int (nI 12), .ref y1, .int (nI cn)])), (y1, .inl (E 0, 48, .inl cc)), (x3, .inl (E 0, 3, .inl nm))] s.heap := hP
  obtain ⟨A, hAe⟩ : ∃ A : Nat → Prop, A = zw_A [(xx, .inr (4, [.ref x1, .ref x2, .ref x3, .int (nI tx), .int (nI pl)])), (x1, .inl (E 2, 100, .inl sg)), (x2, .inr (1, [.int (nI 12), .ref y1, .int (nI cn)])), (y1, .inl (E 0, 48, .inl cc)), (x3, .inl (E 0, 3, .inl nm))] := ⟨_, rfl⟩
  have hD : va_D A [(xx, .inr (4, [.ref x1, .ref x2, .ref x3, .int (nI tx), .int (nI pl)])), (x1, .inl (E 2, 100, .inl sg)), (x2, .inr (1, [.int (nI 12), .ref y1, .int (nI cn)])), (y1, .inl (E 0, 48, .inl cc)), (x3, .inl (E 0, 3, .inl nm))] := hAe ▸ zw_own hD0
  have hE : zc_E adK adV ad wa sa A s s.heap := by rw [hAe]; exact hE
  have hS : va_S A s.heap s.heap [] := va_S.rf
  have hl := lv_entry ([.ref xx]) (n := 3) (Nat.le_of_ble_eq_true rfl)
  rw [lg_entry_eq]
  generalize (lg_sl ([.ref xx]) ++ List.replicate (3 - (lg_sl ([.ref xx])).length) Slot.unset).toArray = ls at hl ⊢
  have hl : lv_has ls 3 [(0, .ref xx)] := hl
  refine zr_nQ (fun Q hQ => ?_)
  have htx2 := htx.2
  have htx1 := htx.1
  refine lv_aload_n hx hb dX5_parse_0 rfl (lv_at hl 0 rfl) ?_
  refine va_get (D := D) (ci := 4) (v := .ref x2) (C := RX5) (T := TX5) (N := 5) hx hb hts (by decide +kernel) hown hK.1 hP 0 rfl rfl 1 (by decide) (hts (.fieldLink RX5 20 "HomeRounds$Text" "clauses" "LHomeRounds$Rows;") (by decide +kernel)) (fun _ h9 => h9) rfl dX5_parse_1 ?_
  have hPc := hP.sub (ws' := [(x2, .inr (1, [.int (nI 12), .ref y1, .int (nI cn)])), (y1, .inl (E 0, 48, .inl cc))]) [2, 3] rfl
  have hDc := hD.sub (ws' := [(x2, .inr (1, [.int (nI 12), .ref y1, .int (nI cn)])), (y1, .inl (E 0, 48, .inl cc))]) [2, 3] (by decide +kernel) rfl
  have hAc := zw_AA (wc := [(x2, .inr (1, [.int (nI 12), .ref y1, .int (nI cn)])), (y1, .inl (E 0, 48, .inl cc))]) hD [2, 3] rfl
  refine zw_cv hAc hS (va_runV (As := []) (rest := []) ⟨hx, hb, hml, hown, hts⟩ (c_X2_empty l D E x2 y1 12 48 cn cc ) (cwV 0 hts gX5_parse_X2_empty rfl rfl rfl (by decide +kernel) ⟨Nat.le_of_ble_eq_true rfl, Nat.le_of_ble_eq_true rfl⟩) (zw_V hK hPc hDc (ci := 1) (q0 := 0) rfl rfl) rfl rfl hl.1 rfl (lv_room (Nat.le_of_ble_eq_true rfl)) dX5_parse_4 ⟨Nat.zero_le _, Nat.zero_le _⟩) (fun u_3 H locs hw_2 hP1 hD1 hk1 hS => ?_)
  obtain ⟨hP, hD⟩ := zw_join (wr := [(xx, .inr (4, [.ref x1, .ref x2, .ref x3, .int (nI tx), .int (nI pl)])), (x1, .inl (E 2, 100, .inl sg)), (x3, .inl (E 0, 3, .inl nm))]) (w1 := [(x2, .inr (1, [.int (nI 12), .ref y1, .int (nI 0)])), (y1, .inl (E 0, 48, .inl cc))]) (ws' := [(xx, .inr (4, [.ref x1, .ref x2, .ref x3, .int (nI tx), .int (nI pl)])), (x1, .inl (E 2, 100, .inl sg)), (x2, .inr (1, [.int (nI 12), .ref y1, .int (nI 0)])), (y1, .inl (E 0, 48, .inl cc)), (x3, .inl (E 0, 3, .inl nm))]) hP hD [2, 3] [0, 1, 4] [0, 1, 3, 4, 2] rfl rfl (by decide +kernel) (by decide +kernel) hAc hk1 hP1 hD1 (by decide +kernel) rfl
  clear hP1 hD1 hk1 hPc hDc hAc
  refine lv_aload_n hx hb dX5_parse_7 rfl (lv_at hl 0 rfl) ?_
  refine lv_iconst (v := nI 0) hx hb dX5_parse_8 (by rfl) ?_
  refine va_put (D := D) (ci := 4) (v := .int (nI 0)) (ty := .int) (C := RX5) (T := TX5) (N := 5) hx hb hts (by decide +kernel) tyX5 tyX5_ok nmX5 hown hK.1 hP hD hS 0 rfl rfl 4 (by decide) (hts (.fieldLink RX5 28 "HomeRounds$Text" "place" "I") (by decide +kernel)) (fun _ h9 => h9) rfl (by decide +kernel) rfl rfl (Nat.le_of_ble_eq_true rfl) dX5_parse_9 (fun H locs hP hD hS => ?_)
  have hP : va_P D vwCl [(xx, .inr (4, [.ref x1, .ref x2, .ref x3, .int (nI tx), .int (nI 0)])), (x1, .inl (E 2, 100, .inl sg)), (x2, .inr (1, [.int (nI 12), .ref y1, .int (nI 0)])), (y1, .inl (E 0, 48, .inl cc)), (x3, .inl (E 0, 3, .inl nm))] H := hP
  have hD : va_D A [(xx, .inr (4, [.ref x1, .ref x2, .ref x3, .int (nI tx), .int (nI 0)])), (x1, .inl (E 2, 100, .inl sg)), (x2, .inr (1, [.int (nI 12), .ref y1, .int (nI 0)])), (y1, .inl (E 0, 48, .inl cc)), (x3, .inl (E 0, 3, .inl nm))] := hD
  refine lv_iconst (v := nI 0) hx hb dX5_parse_12 (by rfl) ?_
  refine lv_istore_n (lv' := [(1, .int (nI 0)), (0, .ref xx)]) hx hb dX5_parse_13 rfl hl (by decide) rfl (fun ls hl => ?_)
  suffices KL14 : ∀ (kz : Nat) (i : Nat) (p8 : Nat) (ccv : Nat → Int32) (nmv : Nat → Int32) (H : Heap) (locs : List Loc) (ls : Array Slot), (12 - i) < kz → (zx_pf T tx 12 0 0 = zx_pf T tx (12 - i) p8 i) → (zx_pc T tx 12 0 0 = zx_pc T tx (12 - i) p8 i) → (p8 = zx_ps T tx i) → (p8 ≤ tx) → (zx_row T tx i ccv) → (i < 12) → va_P D vwCl [(xx, .inr (4, [.ref x1, .ref x2, .ref x3, .int (nI tx), .int (nI p8)])), (x1, .inl (E 2, 100, .inl sg)), (x2, .inr (1, [.int (nI 12), .ref y1, .int (nI i)])), (y1, .inl (E 0, 48, .inl ccv)), (x3, .inl (E 0, 3, .inl nmv))] H → va_D A [(xx, .inr (4, [.ref x1, .ref x2, .ref x3, .int (nI tx), .int (nI p8)])), (x1, .inl (E 2, 100, .inl sg)), (x2, .inr (1, [.int (nI 12), .ref y1, .int (nI i)])), (y1, .inl (E 0, 48, .inl ccv)), (x3, .inl (E 0, 3, .inl nmv))] → va_S A s.heap H locs → lv_has ls 3 [(0, .ref xx), (1, .int (nI i))] → W p l e (headSpec wsX5_parse ({ frames := 8, cells := 0, slots := 0, locals := 176 })).room s m ([.ref xx] : List Value).toArray below meth c H locs 0 0 Q (F0 m 14 ls []) from
    KL14 _ 0 0 cc nm _ _ ls (Nat.lt_succ_self _) (rfl) (rfl) (rfl) (by omega) (fun j hj => absurd hj (Nat.not_lt_zero _)) (by omega) hP hD hS (lv_sub hl [1, 0] rfl)
  clear hP hS hl hD
  intro kz
  induction kz with
  | zero => intro i p8 ccv nmv H locs ls hkz; exact absurd hkz (Nat.not_lt_zero _)
  | succ kz ih14 =>
    intro i p8 ccv nmv H locs ls hkz hI hJ hp hpx hrow hi hP hD hS hl
    refine lv_iload_n hx hb dX5_parse_14 rfl (lv_at hl 1 rfl) ?_
    refine lv_bipush (v := nI 12) hx hb dX5_parse_15 (by rfl) ?_
    refine lv_icmp_ge (tgt := 84) hx hb dX5_parse_17 (by decide) (fun cn_4 => ?_) (fun cn_4 => ?_)
    · skip
      have cn_4 : 12 ≤ i := (nI_leI (a := 12) (b := i) (by omega) (by omega)).mp cn_4
      exfalso; omega
    · skip
      have cn_4 : ¬ (12 ≤ i) := fun hz => cn_4 ((nI_leI (a := 12) (b := i) (by omega) (by omega)).mpr hz)
      refine lv_aload_n hx hb dX5_parse_20 rfl (lv_at hl 0 rfl) ?_
      have hPc := hP.sub (ws' := [(xx, .inr (4, [.ref x1, .ref x2, .ref x3, .int (nI tx), .int (nI p8)])), (x1, .inl (E 2, 100, .inl sg)), (x2, .inr (1, [.int (nI 12), .ref y1, .int (nI i)])), (y1, .inl (E 0, 48, .inl ccv)), (x3, .inl (E 0, 3, .inl nmv))]) [0, 1, 2, 3, 4] rfl
      have hDc := hD.sub (ws' := [(xx, .inr (4, [.ref x1, .ref x2, .ref x3, .int (nI tx), .int (nI p8)])), (x1, .inl (E 2, 100, .inl sg)), (x2, .inr (1, [.int (nI 12), .ref y1, .int (nI i)])), (y1, .inl (E 0, 48, .inl ccv)), (x3, .inl (E 0, 3, .inl nmv))]) [0, 1, 2, 3, 4] (by decide +kernel) rfl
      have hAc := zw_AA (wc := [(xx, .inr (4, [.ref x1, .ref x2, .ref x3, .int (nI tx), .int (nI p8)])), (x1, .inl (E 2, 100, .inl sg)), (x2, .inr (1, [.int (nI 12), .ref y1, .int (nI i)])), (y1, .inl (E 0, 48, .inl ccv)), (x3, .inl (E 0, 3, .inl nmv))]) hD [0, 1, 2, 3, 4] rfl
      refine zw_ci hAc hS (va_runV (As := []) (rest := []) ⟨hx, hb, hml, hown, hts⟩ (c_X5_parseClause l D E adK adV ad wa sa xx x1 x2 x3 tx p8 sg T y1 i ccv nmv (htx) (by omega) (by omega)) (cwV 0 hts gX5_parse_X5_parseClause rfl rfl rfl (by decide +kernel) ⟨Nat.le_of_ble_eq_true rfl, Nat.le_of_ble_eq_true rfl⟩) (zwE_V hE hR hS hAc hK hPc hDc (ci := 4) (q0 := 0) rfl rfl) rfl rfl hl.1 rfl (lv_room (Nat.le_of_ble_eq_true rfl)) dX5_parse_21 ⟨Nat.zero_le _, Nat.zero_le _⟩) (fun r_5 u_7 H locs hw_6 hP1 hD1 hk1 hS => ?_)
      obtain ⟨pln_8, cnn_9, ccn_10, nmn_11⟩ := u_7
      try dsimp only at hw_6 hP1 hD1
      obtain ⟨hP, hD⟩ := zw_join (wr := []) (w1 := [(xx, .inr (4, [.ref x1, .ref x2, .ref x3, .int (nI tx), .int (nI pln_8)])), (x1, .inl (E 2, 100, .inl sg)), (x2, .inr (1, [.int (nI 12), .ref y1, .int (nI cnn_9)])), (y1, .inl (E 0, 48, .inl ccn_10)), (x3, .inl (E 0, 3, .inl nmn_11))]) (ws' := [(xx, .inr (4, [.ref x1, .ref x2, .ref x3, .int (nI tx), .int (nI pln_8)])), (x1, .inl (E 2, 100, .inl sg)), (x2, .inr (1, [.int (nI 12), .ref y1, .int (nI cnn_9)])), (y1, .inl (E 0, 48, .inl ccn_10)), (x3, .inl (E 0, 3, .inl nmn_11))]) hP hD [0, 1, 2, 3, 4] [] [0, 1, 2, 3, 4] rfl rfl (by decide +kernel) (by decide +kernel) hAc hk1 hP1 hD1 (by decide +kernel) rfl
      clear hP1 hD1 hk1 hPc hDc hAc
      obtain ⟨hr9, hnn⟩ := hw_6
      refine lv_istore_n (lv' := [(2, .int r_5), (0, .ref xx), (1, .int (nI i))]) hx hb dX5_parse_24 rfl hl (by decide) rfl (fun ls hl => ?_)
      rcases hcf : zx_cF T tx p8 with _ | f9
      · skip
        rw [hcf] at hr9
        rw [hr9, show zx_fz none = -1 from rfl] at hl
        obtain ⟨hpn, hcn9, hput⟩ := hnn hcf
        have hple := hpn ▸ zx_cP_le hpx hcf
        rw [hpn, hcn9] at hP hD
        have hI1 : zx_pf T tx 12 0 0 = _ := hI.trans (zx_pf_n hi hcf)
        have hJ1 : zx_pc T tx 12 0 0 = _ := hJ.trans (zx_pc_n hi hcf)
        have hrow1 := zx_row_s hrow (hp ▸ hput)
        refine lv_iload_n hx hb dX5_parse_25 rfl (lv_at hl 0 rfl) ?_
        refine lv_if_lt (tgt := 31) hx hb dX5_parse_26 (by decide) (fun cn_12 => ?_) (fun cn_12 => ?_)
        · skip
          refine lv_aload_n hx hb dX5_parse_31 rfl (lv_at hl 1 rfl) ?_
          refine va_get (D := D) (ci := 4) (v := .int (nI (zx_cP T tx p8))) (C := RX5) (T := TX5) (N := 5) hx hb hts (by decide +kernel) hown hK.1 hP 0 rfl rfl 4 (by decide) (hts (.fieldLink RX5 28 "HomeRounds$Text" "place" "I") (by decide +kernel)) (fun _ h9 => h9) rfl dX5_parse_32 ?_
          refine lv_aload_n hx hb dX5_parse_35 rfl (lv_at hl 1 rfl) ?_
          refine va_get (D := D) (ci := 4) (v := .int (nI tx)) (C := RX5) (T := TX5) (N := 5) hx hb hts (by decide +kernel) hown hK.1 hP 0 rfl rfl 3 (by decide) (hts (.fieldLink RX5 32 "HomeRounds$Text" "length" "I") (by decide +kernel)) (fun _ h9 => h9) rfl dX5_parse_36 ?_
          refine lv_icmp_lt (tgt := 44) hx hb dX5_parse_39 (by decide) (fun cn_13 => ?_) (fun cn_13 => ?_)
          · skip
            have cn_13 : zx_cP T tx p8 < tx := (nI_ltI (a := zx_cP T tx p8) (b := tx) (by omega) (by omega)).mp cn_13
            have hnl : ¬ tx ≤ zx_cP T tx p8 := by omega
            refine lv_aload_n hx hb dX5_parse_44 rfl (lv_at hl 1 rfl) ?_
            refine zr_ci hP hS (va_runV (As := []) (rest := []) ⟨hx, hb, hml, hown, hts⟩ (c_X5_signHere l D E xx x1 x2 x3 tx (zx_cP T tx p8) sg T (htx) (by omega)) (cwV 0 hts gX5_parse_X5_signHere rfl rfl rfl (by decide +kernel) ⟨Nat.le_of_ble_eq_true rfl, Nat.le_of_ble_eq_true rfl⟩) (zr_V hK (hP.sub (ws' := [(xx, .inr (4, [.ref x1, .ref x2, .ref x3, .int (nI tx), .int (nI (zx_cP T tx p8))])), (x1, .inl (E 2, 100, .inl sg))]) [0, 1] rfl) (ci := 4) (q0 := 0) rfl rfl) rfl rfl hl.1 rfl (lv_room (Nat.le_of_ble_eq_true rfl)) dX5_parse_45 ⟨Nat.zero_le _, Nat.zero_le _⟩) (fun r_14 H locs hw_15 hP hS => ?_)
            subst hw_15
            refine zr_ti (y := nI (T (zx_cP T tx p8))) (zx_sg_t (by omega)) ?_
            obtain ⟨ht1, -⟩ := htx2 (zx_cP T tx p8) (by omega)
            refine lv_bipush (v := nI 59) hx hb dX5_parse_48 (by rfl) ?_
            refine lv_icmp_ne (tgt := 63) hx hb dX5_parse_50 (by decide) (fun cn_16 => ?_) (fun cn_16 => ?_)
            · skip
              have cn_16 : ¬ (T (zx_cP T tx p8) = 59) := fun hz => cn_16 ((nI_eq (a := T (zx_cP T tx p8)) (b := 59) (by omega) (by omega)).mpr hz)
              have hno : (zx_at T tx (zx_cP T tx p8) 59 && decide (i + 1 < 12)) = false := by rw [zx_at_f (by omega)]; rfl
              refine lv_aload_n hx hb dX5_parse_63 rfl (lv_at hl 1 rfl) ?_
              refine va_get (D := D) (ci := 4) (v := .int (nI (zx_cP T tx p8))) (C := RX5) (T := TX5) (N := 5) hx hb hts (by decide +kernel) hown hK.1 hP 0 rfl rfl 4 (by decide) (hts (.fieldLink RX5 28 "HomeRounds$Text" "place" "I") (by decide +kernel)) (fun _ h9 => h9) rfl dX5_parse_64 ?_
              subst hQ; subst hAe
              exact W.iret (v := nI (zx_cP T tx p8)) hx hb hr (fun tz htz hWz => ⟨⟨nI (zx_cP T tx p8), (zx_cP T tx p8, i + 1, ccn_10, nmn_11), rfl, ⟨by rw [hI1, if_neg hnl, hno]; rfl, fun q => by rw [hI1, if_neg hnl, hno] at q; cases q⟩, by rw [htz]; exact hP, hD⟩, hS.F htz⟩) hS.2.2 dX5_parse_67
            · skip
              have cn_16 : T (zx_cP T tx p8) = 59 := (nI_eq (a := T (zx_cP T tx p8)) (b := 59) (by omega) (by omega)).mp cn_16
              have h59 := zx_at_t (L := tx) (by omega) cn_16
              refine lv_aload_n hx hb dX5_parse_53 rfl (lv_at hl 1 rfl) ?_
              refine va_get (D := D) (ci := 4) (v := .ref x2) (C := RX5) (T := TX5) (N := 5) hx hb hts (by decide +kernel) hown hK.1 hP 0 rfl rfl 1 (by decide) (hts (.fieldLink RX5 20 "HomeRounds$Text" "clauses" "LHomeRounds$Rows;") (by decide +kernel)) (fun _ h9 => h9) rfl dX5_parse_54 ?_
              refine zr_ci hP hS (va_runV (As := []) (rest := []) ⟨hx, hb, hml, hown, hts⟩ (c_X2_isFull l D E x2 y1 12 48 (i + 1) ccn_10 (by omega) (by omega)) (cwV 0 hts gX5_parse_X2_isFull rfl rfl rfl (by decide +kernel) ⟨Nat.le_of_ble_eq_true rfl, Nat.le_of_ble_eq_true rfl⟩) (zr_V hK (hP.sub (ws' := [(x2, .inr (1, [.int (nI 12), .ref y1, .int (nI (i + 1))])), (y1, .inl (E 0, 48, .inl ccn_10))]) [2, 3] rfl) (ci := 1) (q0 := 0) rfl rfl) rfl rfl hl.1 rfl (lv_room (Nat.le_of_ble_eq_true rfl)) dX5_parse_57 ⟨Nat.zero_le _, Nat.zero_le _⟩) (fun r_17 H locs hw_18 hP hS => ?_)
              rcases hw_18 with ⟨rfl, hw_18⟩ | ⟨rfl, hw_18⟩
              · skip
                have hfull := hw_18
                refine zr_ti (y := nI 1) rfl ?_
                refine lv_if_eq (tgt := 68) hx hb dX5_parse_60 (by decide) (fun cn_19 => ?_) (fun cn_19 => ?_)
                · skip
                  exact absurd cn_19 (by decide)
                · skip
                  have hno : (zx_at T tx (zx_cP T tx p8) 59 && decide (i + 1 < 12)) = false := by rw [decide_eq_false (by omega), Bool.and_false]
                  refine lv_aload_n hx hb dX5_parse_63 rfl (lv_at hl 1 rfl) ?_
                  refine va_get (D := D) (ci := 4) (v := .int (nI (zx_cP T tx p8))) (C := RX5) (T := TX5) (N := 5) hx hb hts (by decide +kernel) hown hK.1 hP 0 rfl rfl 4 (by decide) (hts (.fieldLink RX5 28 "HomeRounds$Text" "place" "I") (by decide +kernel)) (fun _ h9 => h9) rfl dX5_parse_64 ?_
                  subst hQ; subst hAe
                  exact W.iret (v := nI (zx_cP T tx p8)) hx hb hr (fun tz htz hWz => ⟨⟨nI (zx_cP T tx p8), (zx_cP T tx p8, i + 1, ccn_10, nmn_11), rfl, ⟨by rw [hI1, if_neg hnl, hno]; rfl, fun q => by rw [hI1, if_neg hnl, hno] at q; cases q⟩, by rw [htz]; exact hP, hD⟩, hS.F htz⟩) hS.2.2 dX5_parse_67
              · skip
                have hnf := hw_18
                refine zr_ti (y := nI 0) rfl ?_
                refine lv_if_eq (tgt := 68) hx hb dX5_parse_60 (by decide) (fun cn_20 => ?_) (fun cn_20 => ?_)
                · skip
                  have hgo : (zx_at T tx (zx_cP T tx p8) 59 && decide (i + 1 < 12)) = true := by rw [h59, decide_eq_true (by omega)]; rfl
                  refine lv_aload_n hx hb dX5_parse_68 rfl (lv_at hl 1 rfl) ?_
                  refine lv_dup hx hb dX5_parse_69 rfl ?_
                  refine va_get (D := D) (ci := 4) (v := .int (nI (zx_cP T tx p8))) (C := RX5) (T := TX5) (N := 5) hx hb hts (by decide +kernel) hown hK.1 hP 0 rfl rfl 4 (by decide) (hts (.fieldLink RX5 28 "HomeRounds$Text" "place" "I") (by decide +kernel)) (fun _ h9 => h9) rfl dX5_parse_70 ?_
                  refine lv_iconst (v := nI 1) hx hb dX5_parse_73 (by rfl) ?_
                  refine lv_iadd hx hb dX5_parse_74 ?_
                  refine zr_ti (y := nI ((zx_cP T tx p8) + 1)) (nI_add _ _) ?_
                  refine va_put (D := D) (ci := 4) (v := .int (nI ((zx_cP T tx p8) + 1))) (ty := .int) (C := RX5) (T := TX5) (N := 5) hx hb hts (by decide +kernel) tyX5 tyX5_ok nmX5 hown hK.1 hP hD hS 0 rfl rfl 4 (by decide) (hts (.fieldLink RX5 28 "HomeRounds$Text" "place" "I") (by decide +kernel)) (fun _ h9 => h9) rfl (by decide +kernel) rfl rfl (Nat.le_of_ble_eq_true rfl) dX5_parse_75 (fun H locs hP hD hS => ?_)
                  have hP : va_P D vwCl [(xx, .inr (4, [.ref x1, .ref x2, .ref x3, .int (nI tx), .int (nI ((zx_cP T tx p8) + 1))])), (x1, .inl (E 2, 100, .inl sg)), (x2, .inr (1, [.int (nI 12), .ref y1, .int (nI (i + 1))])), (y1, .inl (E 0, 48, .inl ccn_10)), (x3, .inl (E 0, 3, .inl nmn_11))] H := hP
                  have hD : va_D A [(xx, .inr (4, [.ref x1, .ref x2, .ref x3, .int (nI tx), .int (nI ((zx_cP T tx p8) + 1))])), (x1, .inl (E 2, 100, .inl sg)), (x2, .inr (1, [.int (nI 12), .ref y1, .int (nI (i + 1))])), (y1, .inl (E 0, 48, .inl ccn_10)), (x3, .inl (E 0, 3, .inl nmn_11))] := hD
                  refine lv_iinc (v := nI (i + 1)) (lv' := [(1, .int (nI (i + 1))), (2, .int (-1)), (0, .ref xx)]) hx hb dX5_parse_78 hl (k := 2) rfl (nI_add _ _) (by decide) rfl (fun ls hl => ?_)
                  refine lv_goto (tgt := 14) hx hb dX5_parse_81 (by decide) ?_
                  have hl : lv_has ls 3 [(0, .ref xx), (1, .int (nI (i + 1)))] := lv_sub hl [2, 0] rfl
                  exact ih14 (i + 1) ((zx_cP T tx p8) + 1) ccn_10 nmn_11 H locs ls (by omega) (by rw [hI1, if_neg hnl, if_pos hgo]) (by rw [hJ1, if_neg hnl]) (by rw [zx_ps, ← hp]) (by omega) (hrow1) (by omega) hP hD hS hl
                · skip
                  exact absurd cn_20 (by decide)
          · skip
            have cn_13 : ¬ (zx_cP T tx p8 < tx) := fun hz => cn_13 ((nI_ltI (a := zx_cP T tx p8) (b := tx) (by omega) (by omega)).mpr hz)
            have hyl : tx ≤ zx_cP T tx p8 := by omega
            refine lv_iconst (v := (-1)) hx hb dX5_parse_42 (by rfl) ?_
            subst hQ; subst hAe
            exact W.iret (v := (-1)) hx hb hr (fun tz htz hWz => ⟨⟨(-1), (zx_cP T tx p8, i + 1, ccn_10, nmn_11), rfl, ⟨by rw [hI1, if_pos hyl]; rfl, fun _ => ⟨by rw [hJ1, if_pos hyl], by show i + 1 ≤ 12; omega, hrow1⟩⟩, by rw [htz]; exact hP, hD⟩, hS.F htz⟩) hS.2.2 dX5_parse_43
        · skip
          exact absurd cn_12 (by decide)
      · skip
        rw [hcf] at hr9
        rw [hr9, show zx_fz (some f9) = nI f9 from rfl] at hl
        have hfle := zx_cF_le hpx hcf
        have hI1 : zx_pf T tx 12 0 0 = _ := hI.trans (zx_pf_s hi hcf)
        refine lv_iload_n hx hb dX5_parse_25 rfl (lv_at hl 0 rfl) ?_
        refine lv_if_lt (tgt := 31) hx hb dX5_parse_26 (by decide) (fun cn_21 => ?_) (fun cn_21 => ?_)
        · skip
          have cn_21 : f9 < 0 := (nI_ltI (a := f9) (b := 0) (by omega) (by omega)).mp cn_21
          exfalso; omega
        · skip
          have cn_21 : ¬ (f9 < 0) := fun hz => cn_21 ((nI_ltI (a := f9) (b := 0) (by omega) (by omega)).mpr hz)
          refine lv_iload_n hx hb dX5_parse_29 rfl (lv_at hl 0 rfl) ?_
          subst hQ; subst hAe
          exact W.iret (v := nI f9) hx hb hr (fun tz htz hWz => ⟨⟨nI f9, (pln_8, cnn_9, ccn_10, nmn_11), rfl, ⟨by rw [hI1]; rfl, fun q => by rw [hI1] at q; cases q⟩, by rw [htz]; exact hP, hD⟩, hS.F htz⟩) hS.2.2 dX5_parse_30

