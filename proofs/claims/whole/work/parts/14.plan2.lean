set_option maxHeartbeats 4000000 in
set_option maxRecDepth 100000 in
theorem c_X1_exchangeTeams (l : Launch) (D : va_G) (E : Nat → ClassId) (h0 : Nat) (h1 : Nat) (h2 : Nat) (h3 : Nat) (h4 : Nat) (h5 : Nat) (h6 : Nat) (N : Nat) (hm : Nat → Int32) (aw : Nat → Int32) (rv : Nat → Int32) (sd : Nat → Int32) (gm : Nat → Int32) (ca : Nat → Int32) (G : Nat → Nat → Nat) (P : Nat → Nat → Nat) (i : Nat) (j : Nat) (hpl : zm_pl N G P hm aw rv sd gm) (hi0 : i < N) (hj0 : j < N) : Met l yX1_exchangeTeams wsX1_exchangeTeams ({ frames := 2, cells := 0, slots := 0, locals := 48 }) (zw_P D E [.ref h0, .int (nI i), .int (nI j)] [(h0, .inr (0, [.int (nI N), .ref h1, .ref h2, .ref h3, .ref h4, .ref h5, .ref h6])), (h1, .inl (E 0, 15, .inl hm)), (h2, .inl (E 0, 15, .inl aw)), (h3, .inl (E 0, 30, .inl rv)), (h4, .inl (E 0, 30, .inl sd)), (h5, .inl (E 0, 30, .inl gm)), (h6, .inl (E 0, 36, .inl ca))]) (zw_Qv D [(h0, .inr (0, [.int (nI N), .ref h1, .ref h2, .ref h3, .ref h4, .ref h5, .ref h6])), (h1, .inl (E 0, 15, .inl hm)), (h2, .inl (E 0, 15, .inl aw)), (h3, .inl (E 0, 30, .inl rv)), (h4, .inl (E 0, 30, .inl sd)), (h5, .inl (E 0, 30, .inl gm)), (h6, .inl (E 0, 36, .inl ca))] (fun (u : (Nat → Int32) × (Nat → Int32) × (Nat → Int32) × (Nat → Int32) × (Nat → Int32)) => zm_pl N (zm_exG G i j) (zm_exP P i j) u.1 u.2.1 u.2.2.1 u.2.2.2.1 u.2.2.2.2) (fun (u : (Nat → Int32) × (Nat → Int32) × (Nat → Int32) × (Nat → Int32) × (Nat → Int32)) => [(h0, .inr (0, [.int (nI N), .ref h1, .ref h2, .ref h3, .ref h4, .ref h5, .ref h6])), (h1, .inl (E 0, 15, .inl u.1)), (h2, .inl (E 0, 15, .inl u.2.1)), (h3, .inl (E 0, 30, .inl u.2.2.1)), (h4, .inl (E 0, 30, .inl u.2.2.2.1)), (h5, .inl (E 0, 30, .inl u.2.2.2.2)), (h6, .inl (E 0, 36, .inl ca))])) 0 0 (zw_A [(h0, .inr (0, [.int (nI N), .ref h1, .ref h2, .ref h3, .ref h4, .ref h5, .ref h6])), (h1, .inl (E 0, 15, .inl hm)), (h2, .inl (E 0, 15, .inl aw)), (h3, .inl (E 0, 30, .inl rv)), (h4, .inl (E 0, 30, .inl sd)), (h5, .inl (E 0, 30, .inl gm)), (h6, .inl (E 0, 36, .inl ca))]) := by
  refine Met.ofW (cc := cX1_exchangeTeams) (maxL := 5) (ret := none) (by decide) rfl ?_
  intro p e s m args below meth c s₁ Bz hml hv
  obtain ⟨rfl, hP, hK, hD0⟩ := hv
  have hx := Bz.exec
  have hb := Bz.bytes
  have hr := Bz.returns
  have hts := atoms_spec (ws := wsX1_exchangeTeams) Bz.pre
  have hown : s.vm.findClass RX1 = some m.cls := findClass_of_methodNamed Bz.named
  have hlocks := Bz.notSynchronized
  have hP : va_P D vwCl [(h0, .inr (0, [.int (nI N), .ref h1, .ref h2, .ref h3, .ref h4, .ref h5, .ref h6])), (h1, .inl (E 0, 15, .inl hm)), (h2, .inl (E 0, 15, .inl aw)), (h3, .inl (E 0, 30, .inl rv)), (h4, .inl (E 0, 30, .inl sd)), (h5, .inl (E 0, 30, .inl gm)), (h6, .inl (E 0, 36, .inl ca))] s.heap := hP
  obtain ⟨A, hAe⟩ : ∃ A : Nat → Prop, A = zw_A [(h0, .inr (0, [.int (nI N), .ref h1, .ref h2, .ref h3, .ref h4, .ref h5, .ref h6])), (h1, .inl (E 0, 15, .inl hm)), (h2, .inl (E 0, 15, .inl aw)), (h3, .inl (E 0, 30, .inl rv)), (h4, .inl (E 0, 30, .inl sd)), (h5, .inl (E 0, 30, .inl gm)), (h6, .inl (E 0, 36, .inl ca))] := ⟨_, rfl⟩
  have hD : va_D A [(h0, .inr (0, [.int (nI N), .ref h1, .ref h2, .ref h3, .ref h4, .ref h5, .ref h6])), (h1, .inl (E 0, 15, .inl hm)), (h2, .inl (E 0, 15, .inl aw)), (h3, .inl (E 0, 30, .inl rv)), (h4, .inl (E 0, 30, .inl sd)), (h5, .inl (E 0, 30, .inl gm)), (h6, .inl (E 0, 36, .inl ca))] := hAe ▸ zw_own hD0
  have hS : va_S A s.heap s.heap [] := va_S.rf
  have hl := lv_entry ([.ref h0, .int (nI i), .int (nI j)]) (n := 5) (Nat.le_of_ble_eq_true rfl)
  rw [lg_entry_eq]
  generalize (lg_sl ([.ref h0, .int (nI i), .int (nI j)]) ++ List.replicate (5 - (lg_sl ([.ref h0, .int (nI i), .int (nI j)])).length) Slot.unset).toArray = ls at hl ⊢
  have hl : lv_has ls 5 [(0, .ref h0), (1, .int (nI i)), (2, .int (nI j))] := hl
  refine zr_nQ (fun Q hQ => ?_)
  have hN := hpl.1.1
  have hok := hpl.1
  have hokx := zm_ex_ok hok hi0 hj0
  refine lv_iconst (v := nI 0) hx hb dX1_exchangeTeams_0 (by rfl) ?_
  refine lv_istore_n (lv' := [(3, .int (nI 0)), (0, .ref h0), (1, .int (nI i)), (2, .int (nI j))]) hx hb dX1_exchangeTeams_1 rfl hl (by decide) rfl (fun ls hl => ?_)
  suffices KL2 : ∀ (kz : Nat) (r : Nat) (hmv : Nat → Int32) (awv : Nat → Int32) (rvv : Nat → Int32) (sdv : Nat → Int32) (gmv : Nat → Int32) (H : Heap) (locs : List Loc) (ls : Array Slot), (N - r) < kz → (zm_done N (zm_exG G i j) r 0 hmv awv rvv sdv gmv) → (zm_left N G r 0 hmv awv) → (r ≤ N - 1) → va_P D vwCl [(h0, .inr (0, [.int (nI N), .ref h1, .ref h2, .ref h3, .ref h4, .ref h5, .ref h6])), (h1, .inl (E 0, 15, .inl hmv)), (h2, .inl (E 0, 15, .inl awv)), (h3, .inl (E 0, 30, .inl rvv)), (h4, .inl (E 0, 30, .inl sdv)), (h5, .inl (E 0, 30, .inl gmv)), (h6, .inl (E 0, 36, .inl ca))] H → va_D A [(h0, .inr (0, [.int (nI N), .ref h1, .ref h2, .ref h3, .ref h4, .ref h5, .ref h6])), (h1, .inl (E 0, 15, .inl hmv)), (h2, .inl (E 0, 15, .inl awv)), (h3, .inl (E 0, 30, .inl rvv)), (h4, .inl (E 0, 30, .inl sdv)), (h5, .inl (E 0, 30, .inl gmv)), (h6, .inl (E 0, 36, .inl ca))] → va_S A s.heap H locs → lv_has ls 5 [(0, .ref h0), (1, .int (nI i)), (2, .int (nI j)), (3, .int (nI r))] → W p l e (headSpec wsX1_exchangeTeams ({ frames := 2, cells := 0, slots := 0, locals := 48 })).room s m ([.ref h0, .int (nI i), .int (nI j)] : List Value).toArray below meth c H locs 0 0 Q (F0 m 2 ls []) from
    KL2 _ 0 hm aw rv sd gm _ _ ls (Nat.lt_succ_self _) (fun _ _ _ _ hd => by omega) (fun q x hq hx _ => ⟨hpl.2.1 q x hq hx, hpl.2.2.1 q x hq hx⟩) (by omega) hP hD hS (lv_sub hl [1, 2, 3, 0] rfl)
  clear hP hS hl hD
  intro kz
  induction kz with
  | zero => intro r hmv awv rvv sdv gmv H locs ls hkz; exact absurd hkz (Nat.not_lt_zero _)
  | succ kz ih2 =>
    intro r hmv awv rvv sdv gmv H locs ls hkz hI hJ hrl hP hD hS hl
    refine lv_iload_n hx hb dX1_exchangeTeams_2 rfl (lv_at hl 3 rfl) ?_
    refine lv_aload_n hx hb dX1_exchangeTeams_3 rfl (lv_at hl 0 rfl) ?_
    refine va_get (D := D) (ci := 0) (v := .int (nI N)) (C := RX1) (T := TX1) (N := 7) hx hb hts (by decide +kernel) hown hK.1 hP 0 rfl rfl 0 (by decide) (hts (.fieldLink RX1 30 "HomeRounds$Plan" "n" "I") (by decide +kernel)) (fun _ h9 => h9) rfl dX1_exchangeTeams_4 ?_
    refine lv_iconst (v := nI 1) hx hb dX1_exchangeTeams_7 (by rfl) ?_
    refine lv_isub hx hb dX1_exchangeTeams_8 ?_
    refine zr_ti (y := nI (N - 1)) (pk_sub (by omega)) ?_
    refine lv_icmp_ge (tgt := 69) hx hb dX1_exchangeTeams_9 (by decide) (fun cn_1 => ?_) (fun cn_1 => ?_)
    · skip
      have cn_1 : N - 1 ≤ r := (nI_leI (a := N - 1) (b := r) (by omega) (by omega)).mp cn_1
      have hre : N - 1 ≤ r := by omega
      subst hQ; subst hAe
      exact W.vret hx hb hr (fun tz htz hWz => ⟨⟨(hmv, awv, rvv, sdv, gmv), rfl, zm_done_e hokx hre hI, by rw [htz]; exact hP, hD⟩, hS.F htz⟩) hS.2.2 dX1_exchangeTeams_69
    · skip
      have cn_1 : ¬ (N - 1 ≤ r) := fun hz => cn_1 ((nI_leI (a := N - 1) (b := r) (by omega) (by omega)).mpr hz)
      have hrr : r < N - 1 := by omega
      refine lv_iconst (v := nI 0) hx hb dX1_exchangeTeams_12 (by rfl) ?_
      refine lv_istore (lv' := [(4, .int (nI 0)), (0, .ref h0), (1, .int (nI i)), (2, .int (nI j)), (3, .int (nI r))]) hx hb dX1_exchangeTeams_13 hl (by decide) rfl (fun ls hl => ?_)
      suffices KL15 : ∀ (kz : Nat) (k : Nat) (hmw : Nat → Int32) (aww : Nat → Int32) (rvw : Nat → Int32) (sdw : Nat → Int32) (gmw : Nat → Int32) (H : Heap) (locs : List Loc) (ls : Array Slot), (N - k) < kz → (zm_done N (zm_exG G i j) r k hmw aww rvw sdw gmw) → (zm_left N G r k hmw aww) → (k ≤ N / 2) → va_P D vwCl [(h0, .inr (0, [.int (nI N), .ref h1, .ref h2, .ref h3, .ref h4, .ref h5, .ref h6])), (h1, .inl (E 0, 15, .inl hmw)), (h2, .inl (E 0, 15, .inl aww)), (h3, .inl (E 0, 30, .inl rvw)), (h4, .inl (E 0, 30, .inl sdw)), (h5, .inl (E 0, 30, .inl gmw)), (h6, .inl (E 0, 36, .inl ca))] H → va_D A [(h0, .inr (0, [.int (nI N), .ref h1, .ref h2, .ref h3, .ref h4, .ref h5, .ref h6])), (h1, .inl (E 0, 15, .inl hmw)), (h2, .inl (E 0, 15, .inl aww)), (h3, .inl (E 0, 30, .inl rvw)), (h4, .inl (E 0, 30, .inl sdw)), (h5, .inl (E 0, 30, .inl gmw)), (h6, .inl (E 0, 36, .inl ca))] → va_S A s.heap H locs → lv_has ls 5 [(0, .ref h0), (1, .int (nI i)), (2, .int (nI j)), (3, .int (nI r)), (4, .int (nI k))] → W p l e (headSpec wsX1_exchangeTeams ({ frames := 2, cells := 0, slots := 0, locals := 48 })).room s m ([.ref h0, .int (nI i), .int (nI j)] : List Value).toArray below meth c H locs 0 0 Q (F0 m 15 ls []) from
        KL15 _ 0 hmv awv rvv sdv gmv _ _ ls (Nat.lt_succ_self _) (hI) (hJ) (by omega) hP hD hS (lv_sub hl [1, 2, 3, 4, 0] rfl)
      clear hP hS hl hD
      intro kz
      induction kz with
      | zero => intro k hmw aww rvw sdw gmw H locs ls hkz; exact absurd hkz (Nat.not_lt_zero _)
      | succ kz ih15 =>
        intro k hmw aww rvw sdw gmw H locs ls hkz hI2 hJ2 hk2 hP hD hS hl
        refine lv_iload hx hb dX1_exchangeTeams_15 (lv_at hl 4 rfl) ?_
        refine lv_aload_n hx hb dX1_exchangeTeams_17 rfl (lv_at hl 0 rfl) ?_
        refine va_get (D := D) (ci := 0) (v := .int (nI N)) (C := RX1) (T := TX1) (N := 7) hx hb hts (by decide +kernel) hown hK.1 hP 0 rfl rfl 0 (by decide) (hts (.fieldLink RX1 30 "HomeRounds$Plan" "n" "I") (by decide +kernel)) (fun _ h9 => h9) rfl dX1_exchangeTeams_18 ?_
        refine lv_iconst (v := nI 2) hx hb dX1_exchangeTeams_21 (by rfl) ?_
        refine lv_idiv hx hb dX1_exchangeTeams_22 (by decide) ?_
        refine zr_ti (y := nI (N / 2)) (pk_div (by omega) (by omega) (by omega)) ?_
        refine lv_icmp_ge (tgt := 63) hx hb dX1_exchangeTeams_23 (by decide) (fun cn_2 => ?_) (fun cn_2 => ?_)
        · skip
          have cn_2 : N / 2 ≤ k := (nI_leI (a := N / 2) (b := k) (by omega) (by omega)).mp cn_2
          have hke : k = N / 2 := by omega
          refine lv_iinc (v := nI (r + 1)) (lv' := [(3, .int (nI (r + 1))), (0, .ref h0), (1, .int (nI i)), (2, .int (nI j)), (4, .int (nI k))]) hx hb dX1_exchangeTeams_63 hl (k := 3) rfl (nI_add _ _) (by decide) rfl (fun ls hl => ?_)
          refine lv_goto (tgt := 2) hx hb dX1_exchangeTeams_66 (by decide) ?_
          have hl : lv_has ls 5 [(0, .ref h0), (1, .int (nI i)), (2, .int (nI j)), (3, .int (nI (r + 1)))] := lv_sub hl [1, 2, 3, 0] rfl
          exact ih2 (r + 1) hmw aww rvw sdw gmw H locs ls (by omega) (zm_done_r (by omega) hI2) (zm_left_r hJ2) (by omega) hP hD hS hl
        · skip
          have cn_2 : ¬ (N / 2 ≤ k) := fun hz => cn_2 ((nI_leI (a := N / 2) (b := k) (by omega) (by omega)).mpr hz)
          have hkk : k < N / 2 := by omega
          have hg1 := zm_G_lt hokx hrr (k := 2 * k) (by omega)
          have hg2 := zm_G_lt hokx hrr (k := 2 * k + 1) (by omega)
          have hg3 := zm_G_ne hokx hrr (k := 2 * k) (j := 2 * k + 1) (by omega) (by omega) (by omega)
          have hg4 := zm_G_lt hok hrr (k := 2 * k) (by omega)
          have hg5 := zm_G_lt hok hrr (k := 2 * k + 1) (by omega)
          obtain ⟨hh1, hh2⟩ := hJ2 r k hrr hkk (Or.inr ⟨rfl, Nat.le_refl _⟩)
          refine lv_aload_n hx hb dX1_exchangeTeams_26 rfl (lv_at hl 0 rfl) ?_
          refine lv_iload_n hx hb dX1_exchangeTeams_27 rfl (lv_at hl 3 rfl) ?_
          refine lv_iload hx hb dX1_exchangeTeams_28 (lv_at hl 4 rfl) ?_
          refine lv_aload_n hx hb dX1_exchangeTeams_30 rfl (lv_at hl 0 rfl) ?_
          refine lv_iload_n hx hb dX1_exchangeTeams_31 rfl (lv_at hl 3 rfl) ?_
          refine lv_iload hx hb dX1_exchangeTeams_32 (lv_at hl 4 rfl) ?_
          refine zr_ci hP hS (va_runV (As := [.int (nI r), .int (nI k)]) (rest := [.int (nI k), .int (nI r), .ref h0]) ⟨hx, hb, hml, hown, hts⟩ (c_X1_homeOf l D E h0 h1 h2 h3 h4 h5 h6 N hmw aww rvw sdw gmw ca r k (hN) (by omega) (by omega)) (cwV 2 hts gX1_exchangeTeams_X1_homeOf rfl rfl rfl (by decide +kernel) ⟨Nat.le_of_ble_eq_true rfl, Nat.le_of_ble_eq_true rfl⟩) (zr_V hK (hP.sub (ws' := [(h0, .inr (0, [.int (nI N), .ref h1, .ref h2, .ref h3, .ref h4, .ref h5, .ref h6])), (h1, .inl (E 0, 15, .inl hmw)), (h2, .inl (E 0, 15, .inl aww)), (h3, .inl (E 0, 30, .inl rvw)), (h4, .inl (E 0, 30, .inl sdw)), (h5, .inl (E 0, 30, .inl gmw)), (h6, .inl (E 0, 36, .inl ca))]) [0, 1, 2, 3, 4, 5, 6] rfl) (ci := 0) (q0 := 0) rfl rfl) rfl rfl hl.1 rfl (lv_room (Nat.le_of_ble_eq_true rfl)) dX1_exchangeTeams_34 ⟨Nat.zero_le _, Nat.zero_le _⟩) (fun r_3 H locs hw_4 hP hS => ?_)
          subst hw_4
          refine zr_ti (y := nI (G r (2 * k))) (hh1) ?_
          refine lv_iload_n hx hb dX1_exchangeTeams_37 rfl (lv_at hl 1 rfl) ?_
          refine lv_iload_n hx hb dX1_exchangeTeams_38 rfl (lv_at hl 2 rfl) ?_
          refine zr_ci hP hS (va_runS (As := [.int (nI (G r (2 * k))), .int (nI i), .int (nI j)]) (rest := [.int (nI k), .int (nI r), .ref h0]) ⟨hx, hb, hml, hown, hts⟩ (c_X1_exchanged l D E (G r (2 * k)) i j (by omega) (by omega) (by omega)) (va_cwS 3 hts gX1_exchangeTeams_X1_exchanged rfl rfl rfl (by decide +kernel) ⟨Nat.le_of_ble_eq_true rfl, Nat.le_of_ble_eq_true rfl⟩) (zr_S hK (hP.sub (ws' := []) [] rfl)) rfl rfl hl.1 rfl (lv_room (Nat.le_of_ble_eq_true rfl)) dX1_exchangeTeams_39 ⟨Nat.zero_le _, Nat.zero_le _⟩) (fun r_5 H locs hw_6 hP hS => ?_)
          subst hw_6
          refine zr_ti (y := nI (zm_exG G i j r (2 * k))) (rfl) ?_
          refine lv_aload_n hx hb dX1_exchangeTeams_42 rfl (lv_at hl 0 rfl) ?_
          refine lv_iload_n hx hb dX1_exchangeTeams_43 rfl (lv_at hl 3 rfl) ?_
          refine lv_iload hx hb dX1_exchangeTeams_44 (lv_at hl 4 rfl) ?_
          refine zr_ci hP hS (va_runV (As := [.int (nI r), .int (nI k)]) (rest := [.int (nI (zm_exG G i j r (2 * k))), .int (nI k), .int (nI r), .ref h0]) ⟨hx, hb, hml, hown, hts⟩ (c_X1_awayOf l D E h0 h1 h2 h3 h4 h5 h6 N hmw aww rvw sdw gmw ca r k (hN) (by omega) (by omega)) (cwV 2 hts gX1_exchangeTeams_X1_awayOf rfl rfl rfl (by decide +kernel) ⟨Nat.le_of_ble_eq_true rfl, Nat.le_of_ble_eq_true rfl⟩) (zr_V hK (hP.sub (ws' := [(h0, .inr (0, [.int (nI N), .ref h1, .ref h2, .ref h3, .ref h4, .ref h5, .ref h6])), (h1, .inl (E 0, 15, .inl hmw)), (h2, .inl (E 0, 15, .inl aww)), (h3, .inl (E 0, 30, .inl rvw)), (h4, .inl (E 0, 30, .inl sdw)), (h5, .inl (E 0, 30, .inl gmw)), (h6, .inl (E 0, 36, .inl ca))]) [0, 1, 2, 3, 4, 5, 6] rfl) (ci := 0) (q0 := 0) rfl rfl) rfl rfl hl.1 rfl (lv_room (Nat.le_of_ble_eq_true rfl)) dX1_exchangeTeams_46 ⟨Nat.zero_le _, Nat.zero_le _⟩) (fun r_7 H locs hw_8 hP hS => ?_)
          subst hw_8
          refine zr_ti (y := nI (G r (2 * k + 1))) (hh2) ?_
          refine lv_iload_n hx hb dX1_exchangeTeams_49 rfl (lv_at hl 1 rfl) ?_
          refine lv_iload_n hx hb dX1_exchangeTeams_50 rfl (lv_at hl 2 rfl) ?_
          refine zr_ci hP hS (va_runS (As := [.int (nI (G r (2 * k + 1))), .int (nI i), .int (nI j)]) (rest := [.int (nI (zm_exG G i j r (2 * k))), .int (nI k), .int (nI r), .ref h0]) ⟨hx, hb, hml, hown, hts⟩ (c_X1_exchanged l D E (G r (2 * k + 1)) i j (by omega) (by omega) (by omega)) (va_cwS 3 hts gX1_exchangeTeams_X1_exchanged rfl rfl rfl (by decide +kernel) ⟨Nat.le_of_ble_eq_true rfl, Nat.le_of_ble_eq_true rfl⟩) (zr_S hK (hP.sub (ws' := []) [] rfl)) rfl rfl hl.1 rfl (lv_room (Nat.le_of_ble_eq_true rfl)) dX1_exchangeTeams_51 ⟨Nat.zero_le _, Nat.zero_le _⟩) (fun r_9 H locs hw_10 hP hS => ?_)
          subst hw_10
          refine zr_ti (y := nI (zm_exG G i j r (2 * k + 1))) (rfl) ?_
          have hPc := hP.sub (ws' := [(h0, .inr (0, [.int (nI N), .ref h1, .ref h2, .ref h3, .ref h4, .ref h5, .ref h6])), (h1, .inl (E 0, 15, .inl hmw)), (h2, .inl (E 0, 15, .inl aww)), (h3, .inl (E 0, 30, .inl rvw)), (h4, .inl (E 0, 30, .inl sdw)), (h5, .inl (E 0, 30, .inl gmw)), (h6, .inl (E 0, 36, .inl ca))]) [0, 1, 2, 3, 4, 5, 6] rfl
          have hDc := hD.sub (ws' := [(h0, .inr (0, [.int (nI N), .ref h1, .ref h2, .ref h3, .ref h4, .ref h5, .ref h6])), (h1, .inl (E 0, 15, .inl hmw)), (h2, .inl (E 0, 15, .inl aww)), (h3, .inl (E 0, 30, .inl rvw)), (h4, .inl (E 0, 30, .inl sdw)), (h5, .inl (E 0, 30, .inl gmw)), (h6, .inl (E 0, 36, .inl ca))]) [0, 1, 2, 3, 4, 5, 6] (by decide +kernel) rfl
          have hAc := zw_AA (wc := [(h0, .inr (0, [.int (nI N), .ref h1, .ref h2, .ref h3, .ref h4, .ref h5, .ref h6])), (h1, .inl (E 0, 15, .inl hmw)), (h2, .inl (E 0, 15, .inl aww)), (h3, .inl (E 0, 30, .inl rvw)), (h4, .inl (E 0, 30, .inl sdw)), (h5, .inl (E 0, 30, .inl gmw)), (h6, .inl (E 0, 36, .inl ca))]) hD [0, 1, 2, 3, 4, 5, 6] rfl
          refine zw_cv hAc hS (va_runV (As := [.int (nI r), .int (nI k), .int (nI (zm_exG G i j r (2 * k))), .int (nI (zm_exG G i j r (2 * k + 1)))]) (rest := []) ⟨hx, hb, hml, hown, hts⟩ (c_X1_put l D E h0 h1 h2 h3 h4 h5 h6 N hmw aww rvw sdw gmw ca r k (zm_exG G i j r (2 * k)) (zm_exG G i j r (2 * k + 1)) (hN) (by omega) (by omega) (hg1) (hg2) (hg3)) (cwV 4 hts gX1_exchangeTeams_X1_put rfl rfl rfl (by decide +kernel) ⟨Nat.le_of_ble_eq_true rfl, Nat.le_of_ble_eq_true rfl⟩) (zw_V hK hPc hDc (ci := 0) (q0 := 0) rfl rfl) rfl rfl hl.1 rfl (lv_room (Nat.le_of_ble_eq_true rfl)) dX1_exchangeTeams_54 ⟨Nat.zero_le _, Nat.zero_le _⟩) (fun u_13 H locs hw_12 hP1 hD1 hk1 hS => ?_)
          obtain ⟨hP, hD⟩ := zw_join (wr := []) (w1 := [(h0, .inr (0, [.int (nI N), .ref h1, .ref h2, .ref h3, .ref h4, .ref h5, .ref h6])), (h1, .inl (E 0, 15, .inl (upd hmw (r * 3 + k) (nI (zm_exG G i j r (2 * k)))))), (h2, .inl (E 0, 15, .inl (upd aww (r * 3 + k) (nI (zm_exG G i j r (2 * k + 1)))))), (h3, .inl (E 0, 30, .inl (upd (upd rvw (r * 6 + (zm_exG G i j r (2 * k))) (nI (zm_exG G i j r (2 * k + 1)))) (r * 6 + (zm_exG G i j r (2 * k + 1))) (nI (zm_exG G i j r (2 * k)))))), (h4, .inl (E 0, 30, .inl (upd (upd sdw (r * 6 + (zm_exG G i j r (2 * k))) (nI 1)) (r * 6 + (zm_exG G i j r (2 * k + 1))) (nI 0)))), (h5, .inl (E 0, 30, .inl (upd (upd gmw (r * 6 + (zm_exG G i j r (2 * k))) (nI k)) (r * 6 + (zm_exG G i j r (2 * k + 1))) (nI k)))), (h6, .inl (E 0, 36, .inl ca))]) (ws' := [(h0, .inr (0, [.int (nI N), .ref h1, .ref h2, .ref h3, .ref h4, .ref h5, .ref h6])), (h1, .inl (E 0, 15, .inl (upd hmw (r * 3 + k) (nI (zm_exG G i j r (2 * k)))))), (h2, .inl (E 0, 15, .inl (upd aww (r * 3 + k) (nI (zm_exG G i j r (2 * k + 1)))))), (h3, .inl (E 0, 30, .inl (upd (upd rvw (r * 6 + (zm_exG G i j r (2 * k))) (nI (zm_exG G i j r (2 * k + 1)))) (r * 6 + (zm_exG G i j r (2 * k + 1))) (nI (zm_exG G i j r (2 * k)))))), (h4, .inl (E 0, 30, .inl (upd (upd sdw (r * 6 + (zm_exG G i j r (2 * k))) (nI 1)) (r * 6 + (zm_exG G i j r (2 * k + 1))) (nI 0)))), (h5, .inl (E 0, 30, .inl (upd (upd gmw (r * 6 + (zm_exG G i j r (2 * k))) (nI k)) (r * 6 + (zm_exG G i j r (2 * k + 1))) (nI k)))), (h6, .inl (E 0, 36, .inl ca))]) hP hD [0, 1, 2, 3, 4, 5, 6] [] [0, 1, 2, 3, 4, 5, 6] rfl rfl (by decide +kernel) (by decide +kernel) hAc hk1 hP1 hD1 (by decide +kernel) rfl
          clear hP1 hD1 hk1 hPc hDc hAc
          refine lv_iinc (v := nI (k + 1)) (lv' := [(4, .int (nI (k + 1))), (0, .ref h0), (1, .int (nI i)), (2, .int (nI j)), (3, .int (nI r))]) hx hb dX1_exchangeTeams_57 hl (k := 4) rfl (nI_add _ _) (by decide) rfl (fun ls hl => ?_)
          refine lv_goto (tgt := 15) hx hb dX1_exchangeTeams_60 (by decide) ?_
          have hl : lv_has ls 5 [(0, .ref h0), (1, .int (nI i)), (2, .int (nI j)), (3, .int (nI r)), (4, .int (nI (k + 1)))] := lv_sub hl [1, 2, 3, 4, 0] rfl
          exact ih15 (k + 1) (upd hmw (r * 3 + k) (nI (zm_exG G i j r (2 * k)))) (upd aww (r * 3 + k) (nI (zm_exG G i j r (2 * k + 1)))) (upd (upd rvw (r * 6 + (zm_exG G i j r (2 * k))) (nI (zm_exG G i j r (2 * k + 1)))) (r * 6 + (zm_exG G i j r (2 * k + 1))) (nI (zm_exG G i j r (2 * k)))) (upd (upd sdw (r * 6 + (zm_exG G i j r (2 * k))) (nI 1)) (r * 6 + (zm_exG G i j r (2 * k + 1))) (nI 0)) (upd (upd gmw (r * 6 + (zm_exG G i j r (2 * k))) (nI k)) (r * 6 + (zm_exG G i j r (2 * k + 1))) (nI k)) H locs ls (by omega) (zm_done_s hokx hrr hkk hI2) (zm_left_s hN hkk hJ2) (by omega) hP hD hS hl

set_option maxHeartbeats 4000000 in
set_option maxRecDepth 100000 in
theorem c_J7_fill_53178 (l : Launch) (D : va_G) (E : Nat → ClassId) (f0 : Nat) (fn : Nat) (ff : Nat → Int32) (v : Int32) (hfn : fn < 1000) : Met l yJ7_fill_53178 wsJ7_fill_53178 ({ frames := 0, cells := 0, slots := 0, locals := 0 }) (zw_P D E [.ref f0, .int v] [(f0, .inl (E 0, fn, .inl ff))]) (zw_Qv D [(f0, .inl (E 0, fn, .inl ff))] (fun (u : (Nat → Int32)) => ∀ j, j < fn → u j = v) (fun (u : (Nat → Int32)) => [(f0, .inl (E 0, fn, .inl u))])) 0 0 (zw_A [(f0, .inl (E 0, fn, .inl ff))]) := by
  refine Met.ofW (cc := cJ7_fill_53178) (maxL := 4) (ret := none) (by decide) rfl ?_
  intro p e s m args below meth c s₁ Bz hml hv
  obtain ⟨rfl, hP, hK, hD0⟩ := hv
  have hx := Bz.exec
  have hb := Bz.bytes
  have hr := Bz.returns
  have hts := atoms_spec (ws := wsJ7_fill_53178) Bz.pre
  have hown : s.vm.findClass RJ7 = some m.cls := findClass_of_methodNamed Bz.named
  have hlocks := Bz.notSynchronized
  have hP : va_P D vwCl [(f0, .inl (E 0, fn, .inl ff))] s.heap := hP
  obtain ⟨A, hAe⟩ : ∃ A : Nat → Prop, A = zw_A [(f0, .inl (E 0, fn, .inl ff))] := ⟨_, rfl⟩
  have hD : va_D A [(f0, .inl (E 0, fn, .inl ff))] := hAe ▸ zw_own hD0
  have hS : va_S A s.heap s.heap [] := va_S.rf
  have hl := lv_entry ([.ref f0, .int v]) (n := 4) (Nat.le_of_ble_eq_true rfl)
  rw [lg_entry_eq]
  generalize (lg_sl ([.ref f0, .int v]) ++ List.replicate (4 - (lg_sl ([.ref f0, .int v])).length) Slot.unset).toArray = ls at hl ⊢
  have hl : lv_has ls 4 [(0, .ref f0), (1, .int v)] := hl
  refine zr_nQ (fun Q hQ => ?_)
  refine lv_iconst (v := nI 0) hx hb dJ7_fill_53178_0 (by rfl) ?_
  refine lv_istore_n (lv' := [(2, .int (nI 0)), (0, .ref f0), (1, .int v)]) hx hb dJ7_fill_53178_1 rfl hl (by decide) rfl (fun ls hl => ?_)
  refine lv_aload_n hx hb dJ7_fill_53178_2 rfl (lv_at hl 1 rfl) ?_
  refine va_alen hx hb hK.1 hP 0 0 rfl rfl (v := nI fn) rfl dJ7_fill_53178_3 ?_
  refine lv_istore_n (lv' := [(3, .int (nI fn)), (2, .int (nI 0)), (0, .ref f0), (1, .int v)]) hx hb dJ7_fill_53178_4 rfl hl (by decide) rfl (fun ls hl => ?_)
  suffices KL5 : ∀ (kz : Nat) (i : Nat) (ffv : Nat → Int32) (H : Heap) (locs : List Loc) (ls : Array Slot), (fn - i) < kz → (∀ j, j < i → ffv j = v) → (i ≤ fn) → va_P D vwCl [(f0, .inl (E 0, fn, .inl ffv))] H → va_D A [(f0, .inl (E 0, fn, .inl ffv))] → va_S A s.heap H locs → lv_has ls 4 [(0, .ref f0), (1, .int v), (2, .int (nI i)), (3, .int (nI fn))] → W p l e (headSpec wsJ7_fill_53178 ({ frames := 0, cells := 0, slots := 0, locals := 0 })).room s m ([.ref f0, .int v] : List Value).toArray below meth c H locs 0 0 Q (F0 m 5 ls []) from
    KL5 _ 0 ff _ _ ls (Nat.lt_succ_self _) (fun j hj => absurd hj (Nat.not_lt_zero _)) (by omega) hP hD hS (lv_sub hl [2, 3, 1, 0] rfl)
  clear hP hS hl hD
  intro kz
  induction kz with
  | zero => intro i ffv H locs ls hkz; exact absurd hkz (Nat.not_lt_zero _)
  | succ kz ih5 =>
    intro i ffv H locs ls hkz hI hi hP hD hS hl
    refine lv_iload_n hx hb dJ7_fill_53178_5 rfl (lv_at hl 2 rfl) ?_
    refine lv_iload_n hx hb dJ7_fill_53178_6 rfl (lv_at hl 3 rfl) ?_
    refine lv_icmp_ge (tgt := 20) hx hb dJ7_fill_53178_7 (by decide) (fun cn_1 => ?_) (fun cn_1 => ?_)
    · skip
      have cn_1 : fn ≤ i := (nI_leI (a := fn) (b := i) (by omega) (by omega)).mp cn_1
      subst hQ; subst hAe
      exact W.vret hx hb hr (fun tz htz hWz => ⟨⟨ffv, rfl, fun j hj => hI j (by omega), by rw [htz]; exact hP, hD⟩, hS.F htz⟩) hS.2.2 dJ7_fill_53178_20
    · skip
      have cn_1 : ¬ (fn ≤ i) := fun hz => cn_1 ((nI_leI (a := fn) (b := i) (by omega) (by omega)).mpr hz)
      refine lv_aload_n hx hb dJ7_fill_53178_10 rfl (lv_at hl 0 rfl) ?_
      refine lv_iload_n hx hb dJ7_fill_53178_11 rfl (lv_at hl 2 rfl) ?_
      refine lv_iload_n hx hb dJ7_fill_53178_12 rfl (lv_at hl 1 rfl) ?_
      refine va_iast hx hb hK.1 hP hD hS 0 0 rfl rfl (vp_in_nI (by omega) (by omega)) dJ7_fill_53178_13 (fun H locs hP hD hS => ?_)
      have hP : va_P D vwCl [(f0, .inl (E 0, fn, .inl (upd ffv (nI i).toNatClampNeg v)))] H := hP
      have hD : va_D A [(f0, .inl (E 0, fn, .inl (upd ffv (nI i).toNatClampNeg v)))] := hD
      have hcz : (upd ffv (nI i).toNatClampNeg v) = (upd ffv i v) := by rw [nI_clamp (n := i) (by omega)]
      rw [hcz] at hP hD
      refine lv_iinc (v := nI (i + 1)) (lv' := [(2, .int (nI (i + 1))), (0, .ref f0), (1, .int v), (3, .int (nI fn))]) hx hb dJ7_fill_53178_14 hl (k := 2) rfl (nI_add _ _) (by decide) rfl (fun ls hl => ?_)
      refine lv_goto (tgt := 5) hx hb dJ7_fill_53178_17 (by decide) ?_
      have hl : lv_has ls 4 [(0, .ref f0), (1, .int v), (2, .int (nI (i + 1))), (3, .int (nI fn))] := lv_sub hl [1, 2, 0, 3] rfl
      exact ih5 (i + 1) (upd ffv i v) H locs ls (by omega) (fun j hj => by unfold upd; split; exact rfl; exact hI j (by omega)) (by omega) hP hD hS hl

set_option maxHeartbeats 4000000 in
set_option maxRecDepth 100000 in
theorem c_J7_fill_d0a16 (l : Launch) (D : va_G) (E : Nat → ClassId) (f0 : Nat) (fn : Nat) (ff : Nat → Int64) (v : Int64) (hfn : fn < 1000) : Met l yJ7_fill_d0a16 wsJ7_fill_d0a16 ({ frames := 0, cells := 0, slots := 0, locals := 0 }) (zw_P D E [.ref f0, .long v] [(f0, .inl (E 3, fn, .inr (.inl ff)))]) (zw_Qv D [(f0, .inl (E 3, fn, .inr (.inl ff)))] (fun (u : (Nat → Int64)) => ∀ j, j < fn → u j = v) (fun (u : (Nat → Int64)) => [(f0, .inl (E 3, fn, .inr (.inl u)))])) 0 0 (zw_A [(f0, .inl (E 3, fn, .inr (.inl ff)))]) := by
  refine Met.ofW (cc := cJ7_fill_d0a16) (maxL := 5) (ret := none) (by decide) rfl ?_
  intro p e s m args below meth c s₁ Bz hml hv
  obtain ⟨rfl, hP, hK, hD0⟩ := hv
  have hx := Bz.exec
  have hb := Bz.bytes
  have hr := Bz.returns
  have hts := atoms_spec (ws := wsJ7_fill_d0a16) Bz.pre
  have hown : s.vm.findClass RJ7 = some m.cls := findClass_of_methodNamed Bz.named
  have hlocks := Bz.notSynchronized
  have hP : va_P D vwCl [(f0, .inl (E 3, fn, .inr (.inl ff)))] s.heap := hP
  obtain ⟨A, hAe⟩ : ∃ A : Nat → Prop, A = zw_A [(f0, .inl (E 3, fn, .inr (.inl ff)))] := ⟨_, rfl⟩
  have hD : va_D A [(f0, .inl (E 3, fn, .inr (.inl ff)))] := hAe ▸ zw_own hD0
  have hS : va_S A s.heap s.heap [] := va_S.rf
  have hl := lv_entry ([.ref f0, .long v]) (n := 5) (Nat.le_of_ble_eq_true rfl)
  rw [lg_entry_eq]
  generalize (lg_sl ([.ref f0, .long v]) ++ List.replicate (5 - (lg_sl ([.ref f0, .long v])).length) Slot.unset).toArray = ls at hl ⊢
  have hl : lv_has ls 5 [(0, .ref f0), (1, .long v)] := hl
  refine zr_nQ (fun Q hQ => ?_)
  refine lv_iconst (v := nI 0) hx hb dJ7_fill_d0a16_0 (by rfl) ?_
  refine lv_istore_n (lv' := [(3, .int (nI 0)), (0, .ref f0), (1, .long v)]) hx hb dJ7_fill_d0a16_1 rfl hl (by decide) rfl (fun ls hl => ?_)
  refine lv_aload_n hx hb dJ7_fill_d0a16_2 rfl (lv_at hl 1 rfl) ?_
  refine va_alen hx hb hK.1 hP 0 3 rfl rfl (v := nI fn) rfl dJ7_fill_d0a16_3 ?_
  refine lv_istore (lv' := [(4, .int (nI fn)), (3, .int (nI 0)), (0, .ref f0), (1, .long v)]) hx hb dJ7_fill_d0a16_4 hl (by decide) rfl (fun ls hl => ?_)
  suffices KL6 : ∀ (kz : Nat) (i : Nat) (ffv : Nat → Int64) (H : Heap) (locs : List Loc) (ls : Array Slot), (fn - i) < kz → (∀ j, j < i → ffv j = v) → (i ≤ fn) → va_P D vwCl [(f0, .inl (E 3, fn, .inr (.inl ffv)))] H → va_D A [(f0, .inl (E 3, fn, .inr (.inl ffv)))] → va_S A s.heap H locs → lv_has ls 5 [(0, .ref f0), (1, .long v), (3, .int (nI i)), (4, .int (nI fn))] → W p l e (headSpec wsJ7_fill_d0a16 ({ frames := 0, cells := 0, slots := 0, locals := 0 })).room s m ([.ref f0, .long v] : List Value).toArray below meth c H locs 0 0 Q (F0 m 6 ls []) from
    KL6 _ 0 ff _ _ ls (Nat.lt_succ_self _) (fun j hj => absurd hj (Nat.not_lt_zero _)) (by omega) hP hD hS (lv_sub hl [2, 3, 1, 0] rfl)
  clear hP hS hl hD
  intro kz
  induction kz with
  | zero => intro i ffv H locs ls hkz; exact absurd hkz (Nat.not_lt_zero _)
  | succ kz ih6 =>
    intro i ffv H locs ls hkz hI hi hP hD hS hl
    refine lv_iload_n hx hb dJ7_fill_d0a16_6 rfl (lv_at hl 2 rfl) ?_
    refine lv_iload hx hb dJ7_fill_d0a16_7 (lv_at hl 3 rfl) ?_
    refine lv_icmp_ge (tgt := 22) hx hb dJ7_fill_d0a16_9 (by decide) (fun cn_1 => ?_) (fun cn_1 => ?_)
    · skip
      have cn_1 : fn ≤ i := (nI_leI (a := fn) (b := i) (by omega) (by omega)).mp cn_1
      subst hQ; subst hAe
      exact W.vret hx hb hr (fun tz htz hWz => ⟨⟨ffv, rfl, fun j hj => hI j (by omega), by rw [htz]; exact hP, hD⟩, hS.F htz⟩) hS.2.2 dJ7_fill_d0a16_22
    · skip
      have cn_1 : ¬ (fn ≤ i) := fun hz => cn_1 ((nI_leI (a := fn) (b := i) (by omega) (by omega)).mpr hz)
      refine lv_aload_n hx hb dJ7_fill_d0a16_12 rfl (lv_at hl 0 rfl) ?_
      refine lv_iload_n hx hb dJ7_fill_d0a16_13 rfl (lv_at hl 2 rfl) ?_
      refine lv_lload_n hx hb dJ7_fill_d0a16_14 rfl (lv_at hl 1 rfl) ?_
      refine va_last hx hb hK.1 hP hD hS 0 3 rfl rfl (vp_in_nI (by omega) (by omega)) dJ7_fill_d0a16_15 (fun H locs hP hD hS => ?_)
      have hP : va_P D vwCl [(f0, .inl (E 3, fn, .inr (.inl (vp_updL ffv (nI i).toNatClampNeg v))))] H := hP
      have hD : va_D A [(f0, .inl (E 3, fn, .inr (.inl (vp_updL ffv (nI i).toNatClampNeg v))))] := hD
      have hcz : (vp_updL ffv (nI i).toNatClampNeg v) = (vp_updL ffv i v) := by rw [nI_clamp (n := i) (by omega)]
      rw [hcz] at hP hD
      refine lv_iinc (v := nI (i + 1)) (lv' := [(3, .int (nI (i + 1))), (0, .ref f0), (1, .long v), (4, .int (nI fn))]) hx hb dJ7_fill_d0a16_16 hl (k := 2) rfl (nI_add _ _) (by decide) rfl (fun ls hl => ?_)
      refine lv_goto (tgt := 6) hx hb dJ7_fill_d0a16_19 (by decide) ?_
      have hl : lv_has ls 5 [(0, .ref f0), (1, .long v), (3, .int (nI (i + 1))), (4, .int (nI fn))] := lv_sub hl [1, 2, 0, 3] rfl
      exact ih6 (i + 1) (vp_updL ffv i v) H locs ls (by omega) (fun j hj => by unfold vp_updL; split; exact rfl; exact hI j (by omega)) (by omega) hP hD hS hl

set_option maxHeartbeats 4000000 in
set_option maxRecDepth 100000 in
theorem c_X1_tallyCarries (l : Launch) (D : va_G) (E : Nat → ClassId) (h0 : Nat) (h1 : Nat) (h2 : Nat) (h3 : Nat) (h4 : Nat) (h5 : Nat) (h6 : Nat) (N : Nat) (hm : Nat → Int32) (aw : Nat → Int32) (rv : Nat → Int32) (sd : Nat → Int32) (gm : Nat → Int32) (ca : Nat → Int32) (G : Nat → Nat → Nat) (P : Nat → Nat → Nat) (hpl : zm_pl N G P hm aw rv sd gm) : Met l yX1_tallyCarries wsX1_tallyCarries ({ frames := 2, cells := 0, slots := 0, locals := 44 }) (zw_P D E [.ref h0] [(h0, .inr (0, [.int (nI N), .ref h1, .ref h2, .ref h3, .ref h4, .ref h5, .ref h6])), (h1, .inl (E 0, 15, .inl hm)), (h2, .inl (E 0, 15, .inl aw)), (h3, .inl (E 0, 30, .inl rv)), (h4, .inl (E 0, 30, .inl sd)), (h5, .inl (E 0, 30, .inl gm)), (h6, .inl (E 0, 36, .inl ca))]) (zw_Qv D [(h0, .inr (0, [.int (nI N), .ref h1, .ref h2, .ref h3, .ref h4, .ref h5, .ref h6])), (h1, .inl (E 0, 15, .inl hm)), (h2, .inl (E 0, 15, .inl aw)), (h3, .inl (E 0, 30, .inl rv)), (h4, .inl (E 0, 30, .inl sd)), (h5, .inl (E 0, 30, .inl gm)), (h6, .inl (E 0, 36, .inl ca))] (fun (u : (Nat → Int32)) => ∀ x y, x < N → y < N → u (x * 6 + y) = nI (zm_kb N G P x y)) (fun (u : (Nat → Int32)) => [(h0, .inr (0, [.int (nI N), .ref h1, .ref h2, .ref h3, .ref h4, .ref h5, .ref h6])), (h1, .inl (E 0, 15, .inl hm)), (h2, .inl (E 0, 15, .inl aw)), (h3, .inl (E 0, 30, .inl rv)), (h4, .inl (E 0, 30, .inl sd)), (h5, .inl (E 0, 30, .inl gm)), (h6, .inl (E 0, 36, .inl u))])) 0 0 (zw_A [(h0, .inr (0, [.int (nI N), .ref h1, .ref h2, .ref h3, .ref h4, .ref h5, .ref h6])), (h1, .inl (E 0, 15, .inl hm)), (h2, .inl (E 0, 15, .inl aw)), (h3, .inl (E 0, 30, .inl rv)), (h4, .inl (E 0, 30, .inl sd)), (h5, .inl (E 0, 30, .inl gm)), (h6, .inl (E 0, 36, .inl ca))]) := by
  refine Met.ofW (cc := cX1_tallyCarries) (maxL := 4) (ret := none) (by decide) rfl ?_
  intro p e s m args below meth c s₁ Bz hml hv
  obtain ⟨rfl, hP, hK, hD0⟩ := hv
  have hx := Bz.exec
  have hb := Bz.bytes
  have hr := Bz.returns
  have hts := atoms_spec (ws := wsX1_tallyCarries) Bz.pre
  have hown : s.vm.findClass RX1 = some m.cls := findClass_of_methodNamed Bz.named
  have hlocks := Bz.notSynchronized
  have hP : va_P D vwCl [(h0, .inr (0, [.int (nI N), .ref h1, .ref h2, .ref h3, .ref h4, .ref h5, .ref h6])), (h1, .inl (E 0, 15, .inl hm)), (h2, .inl (E 0, 15, .inl aw)), (h3, .inl (E 0, 30, .inl rv)), (h4, .inl (E 0, 30, .inl sd)), (h5, .inl (E 0, 30, .inl gm)), (h6, .inl (E 0, 36, .inl ca))] s.heap := hP
  obtain ⟨A, hAe⟩ : ∃ A : Nat → Prop, A = zw_A [(h0, .inr (0, [.int (nI N), .ref h1, .ref h2, .ref h3, .ref h4, .ref h5, .ref h6])), (h1, .inl (E 0, 15, .inl hm)), (h2, .inl (E 0, 15, .inl aw)), (h3, .inl (E 0, 30, .inl rv)), (h4, .inl (E 0, 30, .inl sd)), (h5, .inl (E 0, 30, .inl gm)), (h6, .inl (E 0, 36, .inl ca))] := ⟨_, rfl⟩
  have hD : va_D A [(h0, .inr (0, [.int (nI N), .ref h1, .ref h2, .ref h3, .ref h4, .ref h5, .ref h6])), (h1, .inl (E 0, 15, .inl hm)), (h2, .inl (E 0, 15, .inl aw)), (h3, .inl (E 0, 30, .inl rv)), (h4, .inl (E 0, 30, .inl sd)), (h5, .inl (E 0, 30, .inl gm)), (h6, .inl (E 0, 36, .inl ca))] := hAe ▸ zw_own hD0
  have hS : va_S A s.heap s.heap [] := va_S.rf
  have hl := lv_entry ([.ref h0]) (n := 4) (Nat.le_of_ble_eq_true rfl)
  rw [lg_entry_eq]
  generalize (lg_sl ([.ref h0]) ++ List.replicate (4 - (lg_sl ([.ref h0])).length) Slot.unset).toArray = ls at hl ⊢
  have hl : lv_has ls 4 [(0, .ref h0)] := hl
  refine zr_nQ (fun Q hQ => ?_)
  have hN := hpl.1.1
  have hok := hpl.1
  refine lv_aload_n hx hb dX1_tallyCarries_0 rfl (lv_at hl 0 rfl) ?_
  refine va_get (D := D) (ci := 0) (v := .ref h6) (C := RX1) (T := TX1) (N := 7) hx hb hts (by decide +kernel) hown hK.1 hP 0 rfl rfl 6 (by decide) (hts (.fieldLink RX1 27 "HomeRounds$Plan" "carries" "[I") (by decide +kernel)) (fun _ h9 => h9) rfl dX1_tallyCarries_1 ?_
  refine lv_iconst (v := nI 0) hx hb dX1_tallyCarries_4 (by rfl) ?_
  have hPc := hP.sub (ws' := [(h6, .inl (E 0, 36, .inl ca))]) [6] rfl
  have hDc := hD.sub (ws' := [(h6, .inl (E 0, 36, .inl ca))]) [6] (by decide +kernel) rfl
  have hAc := zw_AA (wc := [(h6, .inl (E 0, 36, .inl ca))]) hD [6] rfl
  refine zw_cv hAc hS (va_runS (As := [.ref h6, .int (nI 0)]) (rest := []) ⟨hx, hb, hml, hown, hts⟩ (c_J7_fill_53178 l D E h6 36 ca (nI 0) (by omega)) (va_cwS 2 hts gX1_tallyCarries_J7_fill_53178 rfl rfl rfl (by decide +kernel) ⟨Nat.le_of_ble_eq_true rfl, Nat.le_of_ble_eq_true rfl⟩) (zw_S hK hPc hDc) rfl rfl hl.1 rfl (lv_room (Nat.le_of_ble_eq_true rfl)) dX1_tallyCarries_5 ⟨Nat.zero_le _, Nat.zero_le _⟩) (fun u_3 H locs hw_2 hP1 hD1 hk1 hS => ?_)
  obtain ⟨ff_4, rfl⟩ : ∃ z, z = u_3 := ⟨_, rfl⟩
  try dsimp only at hw_2 hP1 hD1
  obtain ⟨hP, hD⟩ := zw_join (wr := [(h0, .inr (0, [.int (nI N), .ref h1, .ref h2, .ref h3, .ref h4, .ref h5, .ref h6])), (h1, .inl (E 0, 15, .inl hm)), (h2, .inl (E 0, 15, .inl aw)), (h3, .inl (E 0, 30, .inl rv)), (h4, .inl (E 0, 30, .inl sd)), (h5, .inl (E 0, 30, .inl gm))]) (w1 := [(h6, .inl (E 0, 36, .inl ff_4))]) (ws' := [(h0, .inr (0, [.int (nI N), .ref h1, .ref h2, .ref h3, .ref h4, .ref h5, .ref h6])), (h1, .inl (E 0, 15, .inl hm)), (h2, .inl (E 0, 15, .inl aw)), (h3, .inl (E 0, 30, .inl rv)), (h4, .inl (E 0, 30, .inl sd)), (h5, .inl (E 0, 30, .inl gm)), (h6, .inl (E 0, 36, .inl ff_4))]) hP hD [6] [0, 1, 2, 3, 4, 5] [0, 1, 2, 3, 4, 5, 6] rfl rfl (by decide +kernel) (by decide +kernel) hAc hk1 hP1 hD1 (by decide +kernel) rfl
  clear hP1 hD1 hk1 hPc hDc hAc
  have hfill := hw_2
  refine lv_iconst (v := nI 0) hx hb dX1_tallyCarries_8 (by rfl) ?_
  refine lv_istore_n (lv' := [(1, .int (nI 0)), (0, .ref h0)]) hx hb dX1_tallyCarries_9 rfl hl (by decide) rfl (fun ls hl => ?_)
  suffices KL10 : ∀ (kz : Nat) (r : Nat) (cav : Nat → Int32) (H : Heap) (locs : List Loc) (ls : Array Slot), (N - r) < kz → (zm_tal N G P r 0 cav) → (r ≤ N - 2) → va_P D vwCl [(h0, .inr (0, [.int (nI N), .ref h1, .ref h2, .ref h3, .ref h4, .ref h5, .ref h6])), (h1, .inl (E 0, 15, .inl hm)), (h2, .inl (E 0, 15, .inl aw)), (h3, .inl (E 0, 30, .inl rv)), (h4, .inl (E 0, 30, .inl sd)), (h5, .inl (E 0, 30, .inl gm)), (h6, .inl (E 0, 36, .inl cav))] H → va_D A [(h0, .inr (0, [.int (nI N), .ref h1, .ref h2, .ref h3, .ref h4, .ref h5, .ref h6])), (h1, .inl (E 0, 15, .inl hm)), (h2, .inl (E 0, 15, .inl aw)), (h3, .inl (E 0, 30, .inl rv)), (h4, .inl (E 0, 30, .inl sd)), (h5, .inl (E 0, 30, .inl gm)), (h6, .inl (E 0, 36, .inl cav))] → va_S A s.heap H locs → lv_has ls 4 [(0, .ref h0), (1, .int (nI r))] → W p l e (headSpec wsX1_tallyCarries ({ frames := 2, cells := 0, slots := 0, locals := 44 })).room s m ([.ref h0] : List Value).toArray below meth c H locs 0 0 Q (F0 m 10 ls []) from
    KL10 _ 0 ff_4 _ _ ls (Nat.lt_succ_self _) (zm_tal_0 (by omega) hfill) (by omega) hP hD hS (lv_sub hl [1, 0] rfl)
  clear hP hS hl hD
  intro kz
  induction kz with
  | zero => intro r cav H locs ls hkz; exact absurd hkz (Nat.not_lt_zero _)
  | succ kz ih10 =>
    intro r cav H locs ls hkz hI hi hP hD hS hl
    refine lv_iload_n hx hb dX1_tallyCarries_10 rfl (lv_at hl 1 rfl) ?_
    refine lv_iconst (v := nI 1) hx hb dX1_tallyCarries_11 (by rfl) ?_
    refine lv_iadd hx hb dX1_tallyCarries_12 ?_
    refine zr_ti (y := nI (r + 1)) (nI_add _ _) ?_
    refine lv_aload_n hx hb dX1_tallyCarries_13 rfl (lv_at hl 0 rfl) ?_
    refine va_get (D := D) (ci := 0) (v := .int (nI N)) (C := RX1) (T := TX1) (N := 7) hx hb hts (by decide +kernel) hown hK.1 hP 0 rfl rfl 0 (by decide) (hts (.fieldLink RX1 30 "HomeRounds$Plan" "n" "I") (by decide +kernel)) (fun _ h9 => h9) rfl dX1_tallyCarries_14 ?_
    refine lv_iconst (v := nI 1) hx hb dX1_tallyCarries_17 (by rfl) ?_
    refine lv_isub hx hb dX1_tallyCarries_18 ?_
    refine zr_ti (y := nI (N - 1)) (pk_sub (by omega)) ?_
    refine lv_icmp_ge (tgt := 81) hx hb dX1_tallyCarries_19 (by decide) (fun cn_5 => ?_) (fun cn_5 => ?_)
    · skip
      have cn_5 : N - 1 ≤ r + 1 := (nI_leI (a := N - 1) (b := r + 1) (by omega) (by omega)).mp cn_5
      have hre : r = N - 2 := by omega
      subst hQ; subst hAe
      exact W.vret hx hb hr (fun tz htz hWz => ⟨⟨cav, rfl, fun x y hx hy => by rw [hI x y hx hy, if_neg (by omega), hre]; rfl, by rw [htz]; exact hP, hD⟩, hS.F htz⟩) hS.2.2 dX1_tallyCarries_81
    · skip
      have cn_5 : ¬ (N - 1 ≤ r + 1) := fun hz => cn_5 ((nI_leI (a := N - 1) (b := r + 1) (by omega) (by omega)).mpr hz)
      refine lv_iconst (v := nI 0) hx hb dX1_tallyCarries_22 (by rfl) ?_
      refine lv_istore_n (lv' := [(2, .int (nI 0)), (0, .ref h0), (1, .int (nI r))]) hx hb dX1_tallyCarries_23 rfl hl (by decide) rfl (fun ls hl => ?_)
      suffices KL24 : ∀ (kz : Nat) (i : Nat) (caw : Nat → Int32) (H : Heap) (locs : List Loc) (ls : Array Slot), (N - i) < kz → (zm_tal N G P r i caw) → (i ≤ N) → va_P D vwCl [(h0, .inr (0, [.int (nI N), .ref h1, .ref h2, .ref h3, .ref h4, .ref h5, .ref h6])), (h1, .inl (E 0, 15, .inl hm)), (h2, .inl (E 0, 15, .inl aw)), (h3, .inl (E 0, 30, .inl rv)), (h4, .inl (E 0, 30, .inl sd)), (h5, .inl (E 0, 30, .inl gm)), (h6, .inl (E 0, 36, .inl caw))] H → va_D A [(h0, .inr (0, [.int (nI N), .ref h1, .ref h2, .ref h3, .ref h4, .ref h5, .ref h6])), (h1, .inl (E 0, 15, .inl hm)), (h2, .inl (E 0, 15, .inl aw)), (h3, .inl (E 0, 30, .inl rv)), (h4, .inl (E 0, 30, .inl sd)), (h5, .inl (E 0, 30, .inl gm)), (h6, .inl (E 0, 36, .inl caw))] → va_S A s.heap H locs → lv_has ls 4 [(0, .ref h0), (1, .int (nI r)), (2, .int (nI i))] → W p l e (headSpec wsX1_tallyCarries ({ frames := 2, cells := 0, slots := 0, locals := 44 })).room s m ([.ref h0] : List Value).toArray below meth c H locs 0 0 Q (F0 m 24 ls []) from
        KL24 _ 0 cav _ _ ls (Nat.lt_succ_self _) (hI) (by omega) hP hD hS (lv_sub hl [1, 2, 0] rfl)
      clear hP hS hl hD
      intro kz
      induction kz with
      | zero => intro i caw H locs ls hkz; exact absurd hkz (Nat.not_lt_zero _)
      | succ kz ih24 =>
        intro i caw H locs ls hkz hI2 hi2 hP hD hS hl
        refine lv_iload_n hx hb dX1_tallyCarries_24 rfl (lv_at hl 2 rfl) ?_
        refine lv_aload_n hx hb dX1_tallyCarries_25 rfl (lv_at hl 0 rfl) ?_
        refine va_get (D := D) (ci := 0) (v := .int (nI N)) (C := RX1) (T := TX1) (N := 7) hx hb hts (by decide +kernel) hown hK.1 hP 0 rfl rfl 0 (by decide) (hts (.fieldLink RX1 30 "HomeRounds$Plan" "n" "I") (by decide +kernel)) (fun _ h9 => h9) rfl dX1_tallyCarries_26 ?_
        refine lv_icmp_ge (tgt := 75) hx hb dX1_tallyCarries_29 (by decide) (fun cn_6 => ?_) (fun cn_6 => ?_)
        · skip
          have cn_6 : N ≤ i := (nI_leI (a := N) (b := i) (by omega) (by omega)).mp cn_6
          refine lv_iinc (v := nI (r + 1)) (lv' := [(1, .int (nI (r + 1))), (0, .ref h0), (2, .int (nI i))]) hx hb dX1_tallyCarries_75 hl (k := 1) rfl (nI_add _ _) (by decide) rfl (fun ls hl => ?_)
          refine lv_goto (tgt := 10) hx hb dX1_tallyCarries_78 (by decide) ?_
          have hl : lv_has ls 4 [(0, .ref h0), (1, .int (nI (r + 1)))] := lv_sub hl [1, 0] rfl
          exact ih10 (r + 1) caw H locs ls (by omega) (zm_tal_r (by omega) hI2) (by omega) hP hD hS hl
        · skip
          have cn_6 : ¬ (N ≤ i) := fun hz => cn_6 ((nI_leI (a := N) (b := i) (by omega) (by omega)).mpr hz)
          have hiN : i < N := by omega
          have hj1 := zm_rv_lt hok (t := i) (r := r) (by omega) hiN
          have hj2 := zm_rv_lt hok (t := zm_rv G P i r) (r := r + 1) (by omega) hj1
          refine lv_aload_n hx hb dX1_tallyCarries_32 rfl (lv_at hl 0 rfl) ?_
          refine lv_aload_n hx hb dX1_tallyCarries_33 rfl (lv_at hl 0 rfl) ?_
          refine lv_iload_n hx hb dX1_tallyCarries_34 rfl (lv_at hl 2 rfl) ?_
          refine lv_iload_n hx hb dX1_tallyCarries_35 rfl (lv_at hl 1 rfl) ?_
          refine zr_ci hP hS (va_runV (As := [.int (nI i), .int (nI r)]) (rest := [.ref h0]) ⟨hx, hb, hml, hown, hts⟩ (c_X1_rivalOf l D E h0 h1 h2 h3 h4 h5 h6 N hm aw rv sd gm caw G P i r (hpl) (by omega) (by omega)) (cwV 2 hts gX1_tallyCarries_X1_rivalOf rfl rfl rfl (by decide +kernel) ⟨Nat.le_of_ble_eq_true rfl, Nat.le_of_ble_eq_true rfl⟩) (zr_V hK (hP.sub (ws' := [(h0, .inr (0, [.int (nI N), .ref h1, .ref h2, .ref h3, .ref h4, .ref h5, .ref h6])), (h1, .inl (E 0, 15, .inl hm)), (h2, .inl (E 0, 15, .inl aw)), (h3, .inl (E 0, 30, .inl rv)), (h4, .inl (E 0, 30, .inl sd)), (h5, .inl (E 0, 30, .inl gm)), (h6, .inl (E 0, 36, .inl caw))]) [0, 1, 2, 3, 4, 5, 6] rfl) (ci := 0) (q0 := 0) rfl rfl) rfl rfl hl.1 rfl (lv_room (Nat.le_of_ble_eq_true rfl)) dX1_tallyCarries_36 ⟨Nat.zero_le _, Nat.zero_le _⟩) (fun r_7 H locs hw_8 hP hS => ?_)
          subst hw_8
          refine lv_iload_n hx hb dX1_tallyCarries_39 rfl (lv_at hl 1 rfl) ?_
          refine lv_iconst (v := nI 1) hx hb dX1_tallyCarries_40 (by rfl) ?_
          refine lv_iadd hx hb dX1_tallyCarries_41 ?_
          refine zr_ti (y := nI (r + 1)) (nI_add _ _) ?_
          refine zr_ci hP hS (va_runV (As := [.int (nI (zm_rv G P i r)), .int (nI (r + 1))]) (rest := []) ⟨hx, hb, hml, hown, hts⟩ (c_X1_rivalOf l D E h0 h1 h2 h3 h4 h5 h6 N hm aw rv sd gm caw G P (zm_rv G P i r) (r + 1) (hpl) (by omega) (by omega)) (cwV 2 hts gX1_tallyCarries_X1_rivalOf rfl rfl rfl (by decide +kernel) ⟨Nat.le_of_ble_eq_true rfl, Nat.le_of_ble_eq_true rfl⟩) (zr_V hK (hP.sub (ws' := [(h0, .inr (0, [.int (nI N), .ref h1, .ref h2, .ref h3, .ref h4, .ref h5, .ref h6])), (h1, .inl (E 0, 15, .inl hm)), (h2, .inl (E 0, 15, .inl aw)), (h3, .inl (E 0, 30, .inl rv)), (h4, .inl (E 0, 30, .inl sd)), (h5, .inl (E 0, 30, .inl gm)), (h6, .inl (E 0, 36, .inl caw))]) [0, 1, 2, 3, 4, 5, 6] rfl) (ci := 0) (q0 := 0) rfl rfl) rfl rfl hl.1 rfl (lv_room (Nat.le_of_ble_eq_true rfl)) dX1_tallyCarries_42 ⟨Nat.zero_le _, Nat.zero_le _⟩) (fun r_9 H locs hw_10 hP hS => ?_)
          subst hw_10
          refine lv_istore_n (lv' := [(3, .int (nI (zm_rv G P (zm_rv G P i r) (r + 1)))), (0, .ref h0), (1, .int (nI r)), (2, .int (nI i))]) hx hb dX1_tallyCarries_45 rfl hl (by decide) rfl (fun ls hl => ?_)
          refine lv_aload_n hx hb dX1_tallyCarries_46 rfl (lv_at hl 1 rfl) ?_
          refine lv_iload_n hx hb dX1_tallyCarries_47 rfl (lv_at hl 0 rfl) ?_
          refine zr_ci hP hS (va_runV (As := [.int (nI (zm_rv G P (zm_rv G P i r) (r + 1)))]) (rest := []) ⟨hx, hb, hml, hown, hts⟩ (c_X1_hasTeam l D E h0 h1 h2 h3 h4 h5 h6 N hm aw rv sd gm caw (nI (zm_rv G P (zm_rv G P i r) (r + 1))) (hN)) (cwV 1 hts gX1_tallyCarries_X1_hasTeam rfl rfl rfl (by decide +kernel) ⟨Nat.le_of_ble_eq_true rfl, Nat.le_of_ble_eq_true rfl⟩) (zr_V hK (hP.sub (ws' := [(h0, .inr (0, [.int (nI N), .ref h1, .ref h2, .ref h3, .ref h4, .ref h5, .ref h6])), (h1, .inl (E 0, 15, .inl hm)), (h2, .inl (E 0, 15, .inl aw)), (h3, .inl (E 0, 30, .inl rv)), (h4, .inl (E 0, 30, .inl sd)), (h5, .inl (E 0, 30, .inl gm)), (h6, .inl (E 0, 36, .inl caw))]) [0, 1, 2, 3, 4, 5, 6] rfl) (ci := 0) (q0 := 0) rfl rfl) rfl rfl hl.1 rfl (lv_room (Nat.le_of_ble_eq_true rfl)) dX1_tallyCarries_48 ⟨Nat.zero_le _, Nat.zero_le _⟩) (fun r_11 H locs hw_12 hP hS => ?_)
          have hrz : r_11 = 1 := by rcases hw_12 with ⟨h9, -⟩ | ⟨-, h9⟩; exact h9; exact absurd rfl (h9 _ hj2)
          subst hrz; clear hw_12
          refine zr_ti (y := nI 1) rfl ?_
          refine lv_if_eq (tgt := 69) hx hb dX1_tallyCarries_51 (by decide) (fun cn_13 => ?_) (fun cn_13 => ?_)
          · skip
            exact absurd cn_13 (by decide)
          · skip
            refine lv_aload_n hx hb dX1_tallyCarries_54 rfl (lv_at hl 1 rfl) ?_
            refine va_get (D := D) (ci := 0) (v := .ref h6) (C := RX1) (T := TX1) (N := 7) hx hb hts (by decide +kernel) hown hK.1 hP 0 rfl rfl 6 (by decide) (hts (.fieldLink RX1 27 "HomeRounds$Plan" "carries" "[I") (by decide +kernel)) (fun _ h9 => h9) rfl dX1_tallyCarries_55 ?_
            refine lv_iload_n hx hb dX1_tallyCarries_58 rfl (lv_at hl 3 rfl) ?_
            refine lv_bipush (v := nI 6) hx hb dX1_tallyCarries_59 (by rfl) ?_
            refine lv_imul hx hb dX1_tallyCarries_61 ?_
            refine zr_ti (y := nI (i * 6)) (pk_mul _ _) ?_
            refine lv_iload_n hx hb dX1_tallyCarries_62 rfl (lv_at hl 0 rfl) ?_
            refine lv_iadd hx hb dX1_tallyCarries_63 ?_
            refine zr_ti (y := nI ((i * 6) + (zm_rv G P (zm_rv G P i r) (r + 1)))) (nI_add _ _) ?_
            refine lv_dup2_11 hx hb dX1_tallyCarries_64 rfl rfl ?_
            refine va_iald hx hb hK.1 hP 6 0 rfl rfl (vp_in_nI (by omega) (by omega)) dX1_tallyCarries_65 ?_
            refine zr_ti (y := nI (zm_sum (zm_cf G P i (zm_rv G P (zm_rv G P i r) (r + 1))) r)) ((congrArg caw (nI_clamp (by omega))).trans (zm_tal_g hI2 hiN hj2)) ?_
            refine lv_iconst (v := nI 1) hx hb dX1_tallyCarries_66 (by rfl) ?_
            refine lv_iadd hx hb dX1_tallyCarries_67 ?_
            refine zr_ti (y := nI ((zm_sum (zm_cf G P i (zm_rv G P (zm_rv G P i r) (r + 1))) r) + 1)) (nI_add _ _) ?_
            refine va_iast hx hb hK.1 hP hD hS 6 0 rfl rfl (vp_in_nI (by omega) (by omega)) dX1_tallyCarries_68 (fun H locs hP hD hS => ?_)
            have hP : va_P D vwCl [(h0, .inr (0, [.int (nI N), .ref h1, .ref h2, .ref h3, .ref h4, .ref h5, .ref h6])), (h1, .inl (E 0, 15, .inl hm)), (h2, .inl (E 0, 15, .inl aw)), (h3, .inl (E 0, 30, .inl rv)), (h4, .inl (E 0, 30, .inl sd)), (h5, .inl (E 0, 30, .inl gm)), (h6, .inl (E 0, 36, .inl (upd caw (nI ((i * 6) + (zm_rv G P (zm_rv G P i r) (r + 1)))).toNatClampNeg (nI ((zm_sum (zm_cf G P i (zm_rv G P (zm_rv G P i r) (r + 1))) r) + 1)))))] H := hP
            have hD : va_D A [(h0, .inr (0, [.int (nI N), .ref h1, .ref h2, .ref h3, .ref h4, .ref h5, .ref h6])), (h1, .inl (E 0, 15, .inl hm)), (h2, .inl (E 0, 15, .inl aw)), (h3, .inl (E 0, 30, .inl rv)), (h4, .inl (E 0, 30, .inl sd)), (h5, .inl (E 0, 30, .inl gm)), (h6, .inl (E 0, 36, .inl (upd caw (nI ((i * 6) + (zm_rv G P (zm_rv G P i r) (r + 1)))).toNatClampNeg (nI ((zm_sum (zm_cf G P i (zm_rv G P (zm_rv G P i r) (r + 1))) r) + 1)))))] := hD
            have hcz : (upd caw (nI ((i * 6) + (zm_rv G P (zm_rv G P i r) (r + 1)))).toNatClampNeg (nI ((zm_sum (zm_cf G P i (zm_rv G P (zm_rv G P i r) (r + 1))) r) + 1))) = (upd caw ((i * 6) + (zm_rv G P (zm_rv G P i r) (r + 1))) (nI ((zm_sum (zm_cf G P i (zm_rv G P (zm_rv G P i r) (r + 1))) r) + 1))) := by rw [nI_clamp (n := (i * 6) + (zm_rv G P (zm_rv G P i r) (r + 1))) (by omega)]
            rw [hcz] at hP hD
            refine lv_iinc (v := nI (i + 1)) (lv' := [(2, .int (nI (i + 1))), (3, .int (nI (zm_rv G P (zm_rv G P i r) (r + 1)))), (0, .ref h0), (1, .int (nI r))]) hx hb dX1_tallyCarries_69 hl (k := 3) rfl (nI_add _ _) (by decide) rfl (fun ls hl => ?_)
            refine lv_goto (tgt := 24) hx hb dX1_tallyCarries_72 (by decide) ?_
            have hl : lv_has ls 4 [(0, .ref h0), (1, .int (nI r)), (2, .int (nI (i + 1)))] := lv_sub hl [2, 3, 0] rfl
            exact ih24 (i + 1) (upd caw ((i * 6) + (zm_rv G P (zm_rv G P i r) (r + 1))) (nI ((zm_sum (zm_cf G P i (zm_rv G P (zm_rv G P i r) (r + 1))) r) + 1))) H locs ls (by omega) (zm_tal_s (by omega) hI2 hiN hj2) (by omega) hP hD hS hl

set_option maxHeartbeats 4000000 in
set_option maxRecDepth 100000 in
theorem c_X1_carriedOf (l : Launch) (D : va_G) (E : Nat → ClassId) (h0 : Nat) (h1 : Nat) (h2 : Nat) (h3 : Nat) (h4 : Nat) (h5 : Nat) (h6 : Nat) (N : Nat) (hm : Nat → Int32) (aw : Nat → Int32) (rv : Nat → Int32) (sd : Nat → Int32) (gm : Nat → Int32) (ca : Nat → Int32) (G : Nat → Nat → Nat) (P : Nat → Nat → Nat) (t : Nat) (j : Nat) (hpl : zm_pl N G P hm aw rv sd gm) (ht : t < N) (hj : j < N) (htj : t ≠ j) : Met l yX1_carriedOf wsX1_carriedOf ({ frames := 3, cells := 0, slots := 0, locals := 67 }) (zw_P D E [.ref h0, .int (nI t), .int (nI j)] [(h0, .inr (0, [.int (nI N), .ref h1, .ref h2, .ref h3, .ref h4, .ref h5, .ref h6])), (h1, .inl (E 0, 15, .inl hm)), (h2, .inl (E 0, 15, .inl aw)), (h3, .inl (E 0, 30, .inl rv)), (h4, .inl (E 0, 30, .inl sd)), (h5, .inl (E 0, 30, .inl gm)), (h6, .inl (E 0, 36, .inl ca))]) (zw_Qi D [(h0, .inr (0, [.int (nI N), .ref h1, .ref h2, .ref h3, .ref h4, .ref h5, .ref h6])), (h1, .inl (E 0, 15, .inl hm)), (h2, .inl (E 0, 15, .inl aw)), (h3, .inl (E 0, 30, .inl rv)), (h4, .inl (E 0, 30, .inl sd)), (h5, .inl (E 0, 30, .inl gm)), (h6, .inl (E 0, 36, .inl ca))] (fun zv (u : (Nat → Int32)) => zv = nI (zm_kb N G P t j) ∧ True) (fun (u : (Nat → Int32)) => [(h0, .inr (0, [.int (nI N), .ref h1, .ref h2, .ref h3, .ref h4, .ref h5, .ref h6])), (h1, .inl (E 0, 15, .inl hm)), (h2, .inl (E 0, 15, .inl aw)), (h3, .inl (E 0, 30, .inl rv)), (h4, .inl (E 0, 30, .inl sd)), (h5, .inl (E 0, 30, .inl gm)), (h6, .inl (E 0, 36, .inl u))])) 0 0 (zw_A [(h0, .inr (0, [.int (nI N), .ref h1, .ref h2, .ref h3, .ref h4, .ref h5, .ref h6])), (h1, .inl (E 0, 15, .inl hm)), (h2, .inl (E 0, 15, .inl aw)), (h3, .inl (E 0, 30, .inl rv)), (h4, .inl (E 0, 30, .inl sd)), (h5, .inl (E 0, 30, .inl gm)), (h6, .inl (E 0, 36, .inl ca))]) := by
  refine Met.ofW (cc := cX1_carriedOf) (maxL := 3) (ret := (some .int)) (by decide) rfl ?_
  intro p e s m args below meth c s₁ Bz hml hv
  obtain ⟨rfl, hP, hK, hD0⟩ := hv
  have hx := Bz.exec
  have hb := Bz.bytes
  have hr := Bz.returns
  have hts := atoms_spec (ws := wsX1_carriedOf) Bz.pre
  have hown : s.vm.findClass RX1 = some m.cls := findClass_of_methodNamed Bz.named
  have hlocks := Bz.notSynchronized
  have hP : va_P D vwCl [(h0, .inr (0, [.int (nI N), .ref h1, .ref h2, .ref h3, .ref h4, .ref h5, .ref h6])), (h1, .inl (E 0, 15, .inl hm)), (h2, .inl (E 0, 15, .inl aw)), (h3, .inl (E 0, 30, .inl rv)), (h4, .inl (E 0, 30, .inl sd)), (h5, .inl (E 0, 30, .inl gm)), (h6, .inl (E 0, 36, .inl ca))] s.heap := hP
  obtain ⟨A, hAe⟩ : ∃ A : Nat → Prop, A = zw_A [(h0, .inr (0, [.int (nI N), .ref h1, .ref h2, .ref h3, .ref h4, .ref h5, .ref h6])), (h1, .inl (E 0, 15, .inl hm)), (h2, .inl (E 0, 15, .inl aw)), (h3, .inl (E 0, 30, .inl rv)), (h4, .inl (E 0, 30, .inl sd)), (h5, .inl (E 0, 30, .inl gm)), (h6, .inl (E 0, 36, .inl ca))] := ⟨_, rfl⟩
  have hD : va_D A [(h0, .inr (0, [.int (nI N), .ref h1, .ref h2, .ref h3, .ref h4, .ref h5, .ref h6])), (h1, .inl (E 0, 15, .inl hm)), (h2, .inl (E 0, 15, .inl aw)), (h3, .inl (E 0, 30, .inl rv)), (h4, .inl (E 0, 30, .inl sd)), (h5, .inl (E 0, 30, .inl gm)), (h6, .inl (E 0, 36, .inl ca))] := hAe ▸ zw_own hD0
  have hS : va_S A s.heap s.heap [] := va_S.rf
  have hl := lv_entry ([.ref h0, .int (nI t), .int (nI j)]) (n := 3) (Nat.le_of_ble_eq_true rfl)
  rw [lg_entry_eq]
  generalize (lg_sl ([.ref h0, .int (nI t), .int (nI j)]) ++ List.replicate (3 - (lg_sl ([.ref h0, .int (nI t), .int (nI j)])).length) Slot.unset).toArray = ls at hl ⊢
  have hl : lv_has ls 3 [(0, .ref h0), (1, .int (nI t)), (2, .int (nI j))] := hl
  refine zr_nQ (fun Q hQ => ?_)
  have hN := hpl.1.1
  refine lv_aload_n hx hb dX1_carriedOf_0 rfl (lv_at hl 0 rfl) ?_
  have hPc := hP.sub (ws' := [(h0, .inr (0, [.int (nI N), .ref h1, .ref h2, .ref h3, .ref h4, .ref h5, .ref h6])), (h1, .inl (E 0, 15, .inl hm)), (h2, .inl (E 0, 15, .inl aw)), (h3, .inl (E 0, 30, .inl rv)), (h4, .inl (E 0, 30, .inl sd)), (h5, .inl (E 0, 30, .inl gm)), (h6, .inl (E 0, 36, .inl ca))]) [0, 1, 2, 3, 4, 5, 6] rfl
  have hDc := hD.sub (ws' := [(h0, .inr (0, [.int (nI N), .ref h1, .ref h2, .ref h3, .ref h4, .ref h5, .ref h6])), (h1, .inl (E 0, 15, .inl hm)), (h2, .inl (E 0, 15, .inl aw)), (h3, .inl (E 0, 30, .inl rv)), (h4, .inl (E 0, 30, .inl sd)), (h5, .inl (E 0, 30, .inl gm)), (h6, .inl (E 0, 36, .inl ca))]) [0, 1, 2, 3, 4, 5, 6] (by decide +kernel) rfl
  have hAc := zw_AA (wc := [(h0, .inr (0, [.int (nI N), .ref h1, .ref h2, .ref h3, .ref h4, .ref h5, .ref h6])), (h1, .inl (E 0, 15, .inl hm)), (h2, .inl (E 0, 15, .inl aw)), (h3, .inl (E 0, 30, .inl rv)), (h4, .inl (E 0, 30, .inl sd)), (h5, .inl (E 0, 30, .inl gm)), (h6, .inl (E 0, 36, .inl ca))]) hD [0, 1, 2, 3, 4, 5, 6] rfl
  refine zw_cv hAc hS (va_runV (As := []) (rest := []) ⟨hx, hb, hml, hown, hts⟩ (c_X1_tallyCarries l D E h0 h1 h2 h3 h4 h5 h6 N hm aw rv sd gm ca G P (hpl)) (cwV 0 hts gX1_carriedOf_X1_tallyCarries rfl rfl rfl (by decide +kernel) ⟨Nat.le_of_ble_eq_true rfl, Nat.le_of_ble_eq_true rfl⟩) (zw_V hK hPc hDc (ci := 0) (q0 := 0) rfl rfl) rfl rfl hl.1 rfl (lv_room (Nat.le_of_ble_eq_true rfl)) dX1_carriedOf_1 ⟨Nat.zero_le _, Nat.zero_le _⟩) (fun u_3 H locs hw_2 hP1 hD1 hk1 hS => ?_)
  obtain ⟨ca_4, rfl⟩ : ∃ z, z = u_3 := ⟨_, rfl⟩
  try dsimp only at hw_2 hP1 hD1
  obtain ⟨hP, hD⟩ := zw_join (wr := []) (w1 := [(h0, .inr (0, [.int (nI N), .ref h1, .ref h2, .ref h3, .ref h4, .ref h5, .ref h6])), (h1, .inl (E 0, 15, .inl hm)), (h2, .inl (E 0, 15, .inl aw)), (h3, .inl (E 0, 30, .inl rv)), (h4, .inl (E 0, 30, .inl sd)), (h5, .inl (E 0, 30, .inl gm)), (h6, .inl (E 0, 36, .inl ca_4))]) (ws' := [(h0, .inr (0, [.int (nI N), .ref h1, .ref h2, .ref h3, .ref h4, .ref h5, .ref h6])), (h1, .inl (E 0, 15, .inl hm)), (h2, .inl (E 0, 15, .inl aw)), (h3, .inl (E 0, 30, .inl rv)), (h4, .inl (E 0, 30, .inl sd)), (h5, .inl (E 0, 30, .inl gm)), (h6, .inl (E 0, 36, .inl ca_4))]) hP hD [0, 1, 2, 3, 4, 5, 6] [] [0, 1, 2, 3, 4, 5, 6] rfl rfl (by decide +kernel) (by decide +kernel) hAc hk1 hP1 hD1 (by decide +kernel) rfl
  clear hP1 hD1 hk1 hPc hDc hAc
  have hcb := hw_2
  refine lv_aload_n hx hb dX1_carriedOf_4 rfl (lv_at hl 0 rfl) ?_
  refine lv_iload_n hx hb dX1_carriedOf_5 rfl (lv_at hl 1 rfl) ?_
  refine lv_iload_n hx hb dX1_carriedOf_6 rfl (lv_at hl 2 rfl) ?_
  refine zr_ci hP hS (va_runV (As := [.int (nI t), .int (nI j)]) (rest := []) ⟨hx, hb, hml, hown, hts⟩ (c_X1_hasPair l D E h0 h1 h2 h3 h4 h5 h6 N hm aw rv sd gm ca_4 (nI t) (nI j) (hN)) (cwV 2 hts gX1_carriedOf_X1_hasPair rfl rfl rfl (by decide +kernel) ⟨Nat.le_of_ble_eq_true rfl, Nat.le_of_ble_eq_true rfl⟩) (zr_V hK (hP.sub (ws' := [(h0, .inr (0, [.int (nI N), .ref h1, .ref h2, .ref h3, .ref h4, .ref h5, .ref h6])), (h1, .inl (E 0, 15, .inl hm)), (h2, .inl (E 0, 15, .inl aw)), (h3, .inl (E 0, 30, .inl rv)), (h4, .inl (E 0, 30, .inl sd)), (h5, .inl (E 0, 30, .inl gm)), (h6, .inl (E 0, 36, .inl ca_4))]) [0, 1, 2, 3, 4, 5, 6] rfl) (ci := 0) (q0 := 0) rfl rfl) rfl rfl hl.1 rfl (lv_room (Nat.le_of_ble_eq_true rfl)) dX1_carriedOf_7 ⟨Nat.zero_le _, Nat.zero_le _⟩) (fun r_5 H locs hw_6 hP hS => ?_)
  have hrz : r_5 = 1 := by rcases hw_6 with ⟨h9, -⟩ | ⟨-, h9⟩; exact h9; exact h9.elim (fun q => absurd rfl (q t ht)) (fun q => q.elim (fun q => absurd rfl (q j hj)) (fun q => absurd ((nI_eq (by omega) (by omega)).mp q) htj))
  subst hrz; clear hw_6
  refine zr_ti (y := nI 1) rfl ?_
  refine lv_if_eq (tgt := 27) hx hb dX1_carriedOf_10 (by decide) (fun cn_7 => ?_) (fun cn_7 => ?_)
  · skip
    exact absurd cn_7 (by decide)
  · skip
    refine lv_aload_n hx hb dX1_carriedOf_13 rfl (lv_at hl 0 rfl) ?_
    refine va_get (D := D) (ci := 0) (v := .ref h6) (C := RX1) (T := TX1) (N := 7) hx hb hts (by decide +kernel) hown hK.1 hP 0 rfl rfl 6 (by decide) (hts (.fieldLink RX1 27 "HomeRounds$Plan" "carries" "[I") (by decide +kernel)) (fun _ h9 => h9) rfl dX1_carriedOf_14 ?_
    refine lv_iload_n hx hb dX1_carriedOf_17 rfl (lv_at hl 1 rfl) ?_
    refine lv_bipush (v := nI 6) hx hb dX1_carriedOf_18 (by rfl) ?_
    refine lv_imul hx hb dX1_carriedOf_20 ?_
    refine zr_ti (y := nI (t * 6)) (pk_mul _ _) ?_
    refine lv_iload_n hx hb dX1_carriedOf_21 rfl (lv_at hl 2 rfl) ?_
    refine lv_iadd hx hb dX1_carriedOf_22 ?_
    refine zr_ti (y := nI ((t * 6) + j)) (nI_add _ _) ?_
    refine va_iald hx hb hK.1 hP 6 0 rfl rfl (vp_in_nI (by omega) (by omega)) dX1_carriedOf_23 ?_
    refine zr_ti (y := nI (zm_kb N G P t j)) ((congrArg ca_4 (nI_clamp (by omega))).trans (hcb t j ht hj)) ?_
    refine lv_goto (tgt := 28) hx hb dX1_carriedOf_24 (by decide) ?_
    subst hQ; subst hAe
    exact W.iret (v := nI (zm_kb N G P t j)) hx hb hr (fun tz htz hWz => ⟨⟨nI (zm_kb N G P t j), ca_4, rfl, ⟨rfl, trivial⟩, by rw [htz]; exact hP, hD⟩, hS.F htz⟩) hS.2.2 dX1_carriedOf_28

set_option maxHeartbeats 4000000 in
set_option maxRecDepth 100000 in
theorem c_X1_carry (l : Launch) (D : va_G) (E : Nat → ClassId) (h0 : Nat) (h1 : Nat) (h2 : Nat) (h3 : Nat) (h4 : Nat) (h5 : Nat) (h6 : Nat) (N : Nat) (hm : Nat → Int32) (aw : Nat → Int32) (rv : Nat → Int32) (sd : Nat → Int32) (gm : Nat → Int32) (ca : Nat → Int32) (G : Nat → Nat → Nat) (P : Nat → Nat → Nat) (hpl : zm_pl N G P hm aw rv sd gm) : Met l yX1_carry wsX1_carry ({ frames := 3, cells := 0, slots := 0, locals := 67 }) (zw_P D E [.ref h0] [(h0, .inr (0, [.int (nI N), .ref h1, .ref h2, .ref h3, .ref h4, .ref h5, .ref h6])), (h1, .inl (E 0, 15, .inl hm)), (h2, .inl (E 0, 15, .inl aw)), (h3, .inl (E 0, 30, .inl rv)), (h4, .inl (E 0, 30, .inl sd)), (h5, .inl (E 0, 30, .inl gm)), (h6, .inl (E 0, 36, .inl ca))]) (zw_Qi D [(h0, .inr (0, [.int (nI N), .ref h1, .ref h2, .ref h3, .ref h4, .ref h5, .ref h6])), (h1, .inl (E 0, 15, .inl hm)), (h2, .inl (E 0, 15, .inl aw)), (h3, .inl (E 0, 30, .inl rv)), (h4, .inl (E 0, 30, .inl sd)), (h5, .inl (E 0, 30, .inl gm)), (h6, .inl (E 0, 36, .inl ca))] (fun zv (u : (Nat → Int32)) => zv = nI (zm_car N G P) ∧ True) (fun (u : (Nat → Int32)) => [(h0, .inr (0, [.int (nI N), .ref h1, .ref h2, .ref h3, .ref h4, .ref h5, .ref h6])), (h1, .inl (E 0, 15, .inl hm)), (h2, .inl (E 0, 15, .inl aw)), (h3, .inl (E 0, 30, .inl rv)), (h4, .inl (E 0, 30, .inl sd)), (h5, .inl (E 0, 30, .inl gm)), (h6, .inl (E 0, 36, .inl u))])) 0 0 (zw_A [(h0, .inr (0, [.int (nI N), .ref h1, .ref h2, .ref h3, .ref h4, .ref h5, .ref h6])), (h1, .inl (E 0, 15, .inl hm)), (h2, .inl (E 0, 15, .inl aw)), (h3, .inl (E 0, 30, .inl rv)), (h4, .inl (E 0, 30, .inl sd)), (h5, .inl (E 0, 30, .inl gm)), (h6, .inl (E 0, 36, .inl ca))]) := by
  refine Met.ofW (cc := cX1_carry) (maxL := 5) (ret := (some .int)) (by decide) rfl ?_
  intro p e s m args below meth c s₁ Bz hml hv
  obtain ⟨rfl, hP, hK, hD0⟩ := hv
  have hx := Bz.exec
  have hb := Bz.bytes
  have hr := Bz.returns
  have hts := atoms_spec (ws := wsX1_carry) Bz.pre
  have hown : s.vm.findClass RX1 = some m.cls := findClass_of_methodNamed Bz.named
  have hlocks := Bz.notSynchronized
  have hP : va_P D vwCl [(h0, .inr (0, [.int (nI N), .ref h1, .ref h2, .ref h3, .ref h4, .ref h5, .ref h6])), (h1, .inl (E 0, 15, .inl hm)), (h2, .inl (E 0, 15, .inl aw)), (h3, .inl (E 0, 30, .inl rv)), (h4, .inl (E 0, 30, .inl sd)), (h5, .inl (E 0, 30, .inl gm)), (h6, .inl (E 0, 36, .inl ca))] s.heap := hP
  obtain ⟨A, hAe⟩ : ∃ A : Nat → Prop, A = zw_A [(h0, .inr (0, [.int (nI N), .ref h1, .ref h2, .ref h3, .ref h4, .ref h5, .ref h6])), (h1, .inl (E 0, 15, .inl hm)), (h2, .inl (E 0, 15, .inl aw)), (h3, .inl (E 0, 30, .inl rv)), (h4, .inl (E 0, 30, .inl sd)), (h5, .inl (E 0, 30, .inl gm)), (h6, .inl (E 0, 36, .inl ca))] := ⟨_, rfl⟩
  have hD : va_D A [(h0, .inr (0, [.int (nI N), .ref h1, .ref h2, .ref h3, .ref h4, .ref h5, .ref h6])), (h1, .inl (E 0, 15, .inl hm)), (h2, .inl (E 0, 15, .inl aw)), (h3, .inl (E 0, 30, .inl rv)), (h4, .inl (E 0, 30, .inl sd)), (h5, .inl (E 0, 30, .inl gm)), (h6, .inl (E 0, 36, .inl ca))] := hAe ▸ zw_own hD0
  have hS : va_S A s.heap s.heap [] := va_S.rf
  have hl := lv_entry ([.ref h0]) (n := 5) (Nat.le_of_ble_eq_true rfl)
  rw [lg_entry_eq]
  generalize (lg_sl ([.ref h0]) ++ List.replicate (5 - (lg_sl ([.ref h0])).length) Slot.unset).toArray = ls at hl ⊢
  have hl : lv_has ls 5 [(0, .ref h0)] := hl
  refine zr_nQ (fun Q hQ => ?_)
  have hN := hpl.1.1
  refine lv_aload_n hx hb dX1_carry_0 rfl (lv_at hl 0 rfl) ?_
  have hPc := hP.sub (ws' := [(h0, .inr (0, [.int (nI N), .ref h1, .ref h2, .ref h3, .ref h4, .ref h5, .ref h6])), (h1, .inl (E 0, 15, .inl hm)), (h2, .inl (E 0, 15, .inl aw)), (h3, .inl (E 0, 30, .inl rv)), (h4, .inl (E 0, 30, .inl sd)), (h5, .inl (E 0, 30, .inl gm)), (h6, .inl (E 0, 36, .inl ca))]) [0, 1, 2, 3, 4, 5, 6] rfl
  have hDc := hD.sub (ws' := [(h0, .inr (0, [.int (nI N), .ref h1, .ref h2, .ref h3, .ref h4, .ref h5, .ref h6])), (h1, .inl (E 0, 15, .inl hm)), (h2, .inl (E 0, 15, .inl aw)), (h3, .inl (E 0, 30, .inl rv)), (h4, .inl (E 0, 30, .inl sd)), (h5, .inl (E 0, 30, .inl gm)), (h6, .inl (E 0, 36, .inl ca))]) [0, 1, 2, 3, 4, 5, 6] (by decide +kernel) rfl
  have hAc := zw_AA (wc := [(h0, .inr (0, [.int (nI N), .ref h1, .ref h2, .ref h3, .ref h4, .ref h5, .ref h6])), (h1, .inl (E 0, 15, .inl hm)), (h2, .inl (E 0, 15, .inl aw)), (h3, .inl (E 0, 30, .inl rv)), (h4, .inl (E 0, 30, .inl sd)), (h5, .inl (E 0, 30, .inl gm)), (h6, .inl (E 0, 36, .inl ca))]) hD [0, 1, 2, 3, 4, 5, 6] rfl
  refine zw_cv hAc hS (va_runV (As := []) (rest := []) ⟨hx, hb, hml, hown, hts⟩ (c_X1_tallyCarries l D E h0 h1 h2 h3 h4 h5 h6 N hm aw rv sd gm ca G P (hpl)) (cwV 0 hts gX1_carry_X1_tallyCarries rfl rfl rfl (by decide +kernel) ⟨Nat.le_of_ble_eq_true rfl, Nat.le_of_ble_eq_true rfl⟩) (zw_V hK hPc hDc (ci := 0) (q0 := 0) rfl rfl) rfl rfl hl.1 rfl (lv_room (Nat.le_of_ble_eq_true rfl)) dX1_carry_1 ⟨Nat.zero_le _, Nat.zero_le _⟩) (fun u_3 H locs hw_2 hP1 hD1 hk1 hS => ?_)
  obtain ⟨ca_4, rfl⟩ : ∃ z, z = u_3 := ⟨_, rfl⟩
  try dsimp only at hw_2 hP1 hD1
  obtain ⟨hP, hD⟩ := zw_join (wr := []) (w1 := [(h0, .inr (0, [.int (nI N), .ref h1, .ref h2, .ref h3, .ref h4, .ref h5, .ref h6])), (h1, .inl (E 0, 15, .inl hm)), (h2, .inl (E 0, 15, .inl aw)), (h3, .inl (E 0, 30, .inl rv)), (h4, .inl (E 0, 30, .inl sd)), (h5, .inl (E 0, 30, .inl gm)), (h6, .inl (E 0, 36, .inl ca_4))]) (ws' := [(h0, .inr (0, [.int (nI N), .ref h1, .ref h2, .ref h3, .ref h4, .ref h5, .ref h6])), (h1, .inl (E 0, 15, .inl hm)), (h2, .inl (E 0, 15, .inl aw)), (h3, .inl (E 0, 30, .inl rv)), (h4, .inl (E 0, 30, .inl sd)), (h5, .inl (E 0, 30, .inl gm)), (h6, .inl (E 0, 36, .inl ca_4))]) hP hD [0, 1, 2, 3, 4, 5, 6] [] [0, 1, 2, 3, 4, 5, 6] rfl rfl (by decide +kernel) (by decide +kernel) hAc hk1 hP1 hD1 (by decide +kernel) rfl
  clear hP1 hD1 hk1 hPc hDc hAc
  have hcb := hw_2
  refine lv_iconst (v := nI 0) hx hb dX1_carry_4 (by rfl) ?_
  refine lv_istore_n (lv' := [(1, .int (nI 0)), (0, .ref h0)]) hx hb dX1_carry_5 rfl hl (by decide) rfl (fun ls hl => ?_)
  refine lv_iconst (v := nI 0) hx hb dX1_carry_6 (by rfl) ?_
  refine lv_istore_n (lv' := [(2, .int (nI 0)), (1, .int (nI 0)), (0, .ref h0)]) hx hb dX1_carry_7 rfl hl (by decide) rfl (fun ls hl => ?_)
  suffices KL8 : ∀ (kz : Nat) (i : Nat) (q : Nat) (H : Heap) (locs : List Loc) (ls : Array Slot), (N - i) < kz → (q = zm_sum (zm_cr N G P) i) → (i ≤ N) → va_P D vwCl [(h0, .inr (0, [.int (nI N), .ref h1, .ref h2, .ref h3, .ref h4, .ref h5, .ref h6])), (h1, .inl (E 0, 15, .inl hm)), (h2, .inl (E 0, 15, .inl aw)), (h3, .inl (E 0, 30, .inl rv)), (h4, .inl (E 0, 30, .inl sd)), (h5, .inl (E 0, 30, .inl gm)), (h6, .inl (E 0, 36, .inl ca_4))] H → va_D A [(h0, .inr (0, [.int (nI N), .ref h1, .ref h2, .ref h3, .ref h4, .ref h5, .ref h6])), (h1, .inl (E 0, 15, .inl hm)), (h2, .inl (E 0, 15, .inl aw)), (h3, .inl (E 0, 30, .inl rv)), (h4, .inl (E 0, 30, .inl sd)), (h5, .inl (E 0, 30, .inl gm)), (h6, .inl (E 0, 36, .inl ca_4))] → va_S A s.heap H locs → lv_has ls 5 [(0, .ref h0), (1, .int (nI q)), (2, .int (nI i))] → W p l e (headSpec wsX1_carry ({ frames := 3, cells := 0, slots := 0, locals := 67 })).room s m ([.ref h0] : List Value).toArray below meth c H locs 0 0 Q (F0 m 8 ls []) from
    KL8 _ 0 0 _ _ ls (Nat.lt_succ_self _) (rfl) (by omega) hP hD hS (lv_sub hl [2, 1, 0] rfl)
  clear hP hS hl hD
  intro kz
  induction kz with
  | zero => intro i q H locs ls hkz; exact absurd hkz (Nat.not_lt_zero _)
  | succ kz ih8 =>
    intro i q H locs ls hkz hq hi hP hD hS hl
    refine lv_iload_n hx hb dX1_carry_8 rfl (lv_at hl 2 rfl) ?_
    refine lv_aload_n hx hb dX1_carry_9 rfl (lv_at hl 0 rfl) ?_
    refine va_get (D := D) (ci := 0) (v := .int (nI N)) (C := RX1) (T := TX1) (N := 7) hx hb hts (by decide +kernel) hown hK.1 hP 0 rfl rfl 0 (by decide) (hts (.fieldLink RX1 30 "HomeRounds$Plan" "n" "I") (by decide +kernel)) (fun _ h9 => h9) rfl dX1_carry_10 ?_
    refine lv_icmp_ge (tgt := 68) hx hb dX1_carry_13 (by decide) (fun cn_5 => ?_) (fun cn_5 => ?_)
    · skip
      have cn_5 : N ≤ i := (nI_leI (a := N) (b := i) (by omega) (by omega)).mp cn_5
      have hie : i = N := by omega
      refine lv_iload_n hx hb dX1_carry_68 rfl (lv_at hl 1 rfl) ?_
      subst hQ; subst hAe
      exact W.iret (v := nI q) hx hb hr (fun tz htz hWz => ⟨⟨nI q, ca_4, rfl, ⟨by rw [hq, hie]; rfl, trivial⟩, by rw [htz]; exact hP, hD⟩, hS.F htz⟩) hS.2.2 dX1_carry_69
    · skip
      have cn_5 : ¬ (N ≤ i) := fun hz => cn_5 ((nI_leI (a := N) (b := i) (by omega) (by omega)).mpr hz)
      have hiN : i < N := by omega
      refine lv_iconst (v := nI 0) hx hb dX1_carry_16 (by rfl) ?_
      refine lv_istore_n (lv' := [(3, .int (nI 0)), (0, .ref h0), (1, .int (nI q)), (2, .int (nI i))]) hx hb dX1_carry_17 rfl hl (by decide) rfl (fun ls hl => ?_)
      suffices KL18 : ∀ (kz : Nat) (k : Nat) (z : Nat) (H : Heap) (locs : List Loc) (ls : Array Slot), (N - k) < kz → (z = zm_sum (zm_cr N G P) i + zm_sum (zm_c2 N G P i) k) → (k ≤ N) → va_P D vwCl [(h0, .inr (0, [.int (nI N), .ref h1, .ref h2, .ref h3, .ref h4, .ref h5, .ref h6])), (h1, .inl (E 0, 15, .inl hm)), (h2, .inl (E 0, 15, .inl aw)), (h3, .inl (E 0, 30, .inl rv)), (h4, .inl (E 0, 30, .inl sd)), (h5, .inl (E 0, 30, .inl gm)), (h6, .inl (E 0, 36, .inl ca_4))] H → va_D A [(h0, .inr (0, [.int (nI N), .ref h1, .ref h2, .ref h3, .ref h4, .ref h5, .ref h6])), (h1, .inl (E 0, 15, .inl hm)), (h2, .inl (E 0, 15, .inl aw)), (h3, .inl (E 0, 30, .inl rv)), (h4, .inl (E 0, 30, .inl sd)), (h5, .inl (E 0, 30, .inl gm)), (h6, .inl (E 0, 36, .inl ca_4))] → va_S A s.heap H locs → lv_has ls 5 [(0, .ref h0), (1, .int (nI z)), (2, .int (nI i)), (3, .int (nI k))] → W p l e (headSpec wsX1_carry ({ frames := 3, cells := 0, slots := 0, locals := 67 })).room s m ([.ref h0] : List Value).toArray below meth c H locs 0 0 Q (F0 m 18 ls []) from
        KL18 _ 0 q _ _ ls (Nat.lt_succ_self _) (by rw [hq]; rfl) (by omega) hP hD hS (lv_sub hl [1, 2, 3, 0] rfl)
      clear hP hS hl hD
      intro kz
      induction kz with
      | zero => intro k z H locs ls hkz; exact absurd hkz (Nat.not_lt_zero _)
      | succ kz ih18 =>
        intro k z H locs ls hkz hq2 hk2 hP hD hS hl
        refine lv_iload_n hx hb dX1_carry_18 rfl (lv_at hl 3 rfl) ?_
        refine lv_aload_n hx hb dX1_carry_19 rfl (lv_at hl 0 rfl) ?_
        refine va_get (D := D) (ci := 0) (v := .int (nI N)) (C := RX1) (T := TX1) (N := 7) hx hb hts (by decide +kernel) hown hK.1 hP 0 rfl rfl 0 (by decide) (hts (.fieldLink RX1 30 "HomeRounds$Plan" "n" "I") (by decide +kernel)) (fun _ h9 => h9) rfl dX1_carry_20 ?_
        refine lv_icmp_ge (tgt := 62) hx hb dX1_carry_23 (by decide) (fun cn_6 => ?_) (fun cn_6 => ?_)
        · skip
          have cn_6 : N ≤ k := (nI_leI (a := N) (b := k) (by omega) (by omega)).mp cn_6
          have hke : k = N := by omega
          refine lv_iinc (v := nI (i + 1)) (lv' := [(2, .int (nI (i + 1))), (0, .ref h0), (1, .int (nI z)), (3, .int (nI k))]) hx hb dX1_carry_62 hl (k := 2) rfl (nI_add _ _) (by decide) rfl (fun ls hl => ?_)
          refine lv_goto (tgt := 8) hx hb dX1_carry_65 (by decide) ?_
          have hl : lv_has ls 5 [(0, .ref h0), (1, .int (nI z)), (2, .int (nI (i + 1)))] := lv_sub hl [1, 2, 0] rfl
          exact ih8 (i + 1) z H locs ls (by omega) (by rw [hq2, hke]; rfl) (by omega) hP hD hS hl
        · skip
          have cn_6 : ¬ (N ≤ k) := fun hz => cn_6 ((nI_leI (a := N) (b := k) (by omega) (by omega)).mpr hz)
          have hkN : k < N := by omega
          refine lv_iload_n hx hb dX1_carry_26 rfl (lv_at hl 2 rfl) ?_
          refine lv_iload_n hx hb dX1_carry_27 rfl (lv_at hl 3 rfl) ?_
          refine lv_icmp_ne (tgt := 35) hx hb dX1_carry_28 (by decide) (fun cn_7 => ?_) (fun cn_7 => ?_)
          · skip
            have cn_7 : ¬ (i = k) := fun hz => cn_7 ((nI_eq (a := i) (b := k) (by omega) (by omega)).mpr hz)
            have hbr := cn_7
            refine lv_aload_n hx hb dX1_carry_35 rfl (lv_at hl 0 rfl) ?_
            refine va_get (D := D) (ci := 0) (v := .ref h6) (C := RX1) (T := TX1) (N := 7) hx hb hts (by decide +kernel) hown hK.1 hP 0 rfl rfl 6 (by decide) (hts (.fieldLink RX1 27 "HomeRounds$Plan" "carries" "[I") (by decide +kernel)) (fun _ h9 => h9) rfl dX1_carry_36 ?_
            refine lv_iload_n hx hb dX1_carry_39 rfl (lv_at hl 2 rfl) ?_
            refine lv_bipush (v := nI 6) hx hb dX1_carry_40 (by rfl) ?_
            refine lv_imul hx hb dX1_carry_42 ?_
            refine zr_ti (y := nI (i * 6)) (pk_mul _ _) ?_
            refine lv_iload_n hx hb dX1_carry_43 rfl (lv_at hl 3 rfl) ?_
            refine lv_iadd hx hb dX1_carry_44 ?_
            refine zr_ti (y := nI ((i * 6) + k)) (nI_add _ _) ?_
            refine va_iald hx hb hK.1 hP 6 0 rfl rfl (vp_in_nI (by omega) (by omega)) dX1_carry_45 ?_
            refine zr_ti (y := nI (zm_kb N G P i k)) ((congrArg ca_4 (nI_clamp (by omega))).trans (hcb i k hiN hkN)) ?_
            refine lv_istore (lv' := [(4, .int (nI (zm_kb N G P i k))), (0, .ref h0), (1, .int (nI z)), (2, .int (nI i)), (3, .int (nI k))]) hx hb dX1_carry_46 hl (by decide) rfl (fun ls hl => ?_)
            refine lv_iload_n hx hb dX1_carry_48 rfl (lv_at hl 2 rfl) ?_
            refine lv_iload hx hb dX1_carry_49 (lv_at hl 0 rfl) ?_
            refine lv_iload hx hb dX1_carry_51 (lv_at hl 0 rfl) ?_
            refine lv_imul hx hb dX1_carry_53 ?_
            refine zr_ti (y := nI ((zm_kb N G P i k) * (zm_kb N G P i k))) (pk_mul _ _) ?_
            refine lv_iadd hx hb dX1_carry_54 ?_
            refine zr_ti (y := nI (z + ((zm_kb N G P i k) * (zm_kb N G P i k)))) (nI_add _ _) ?_
            refine lv_istore_n (lv' := [(1, .int (nI (z + ((zm_kb N G P i k) * (zm_kb N G P i k))))), (4, .int (nI (zm_kb N G P i k))), (0, .ref h0), (2, .int (nI i)), (3, .int (nI k))]) hx hb dX1_carry_55 rfl hl (by decide) rfl (fun ls hl => ?_)
            refine lv_iinc (v := nI (k + 1)) (lv' := [(3, .int (nI (k + 1))), (1, .int (nI (z + ((zm_kb N G P i k) * (zm_kb N G P i k))))), (4, .int (nI (zm_kb N G P i k))), (0, .ref h0), (2, .int (nI i))]) hx hb dX1_carry_56 hl (k := 4) rfl (nI_add _ _) (by decide) rfl (fun ls hl => ?_)
            refine lv_goto (tgt := 18) hx hb dX1_carry_59 (by decide) ?_
            have hl : lv_has ls 5 [(0, .ref h0), (1, .int (nI (z + ((zm_kb N G P i k) * (zm_kb N G P i k))))), (2, .int (nI i)), (3, .int (nI (k + 1)))] := lv_sub hl [3, 1, 4, 0] rfl
            exact ih18 (k + 1) (z + ((zm_kb N G P i k) * (zm_kb N G P i k))) H locs ls (by omega) (by rw [hq2, Nat.add_assoc]; congr 1; show _ = _ + zm_c2 N G P i k; unfold zm_c2; first | rw [if_pos hbr] | rw [if_neg hbr]) (by omega) hP hD hS hl
          · skip
            have cn_7 : i = k := (nI_eq (a := i) (b := k) (by omega) (by omega)).mp cn_7
            have hbr := cn_7
            refine lv_iconst (v := nI 0) hx hb dX1_carry_31 (by rfl) ?_
            refine lv_goto (tgt := 46) hx hb dX1_carry_32 (by decide) ?_
            refine lv_istore (lv' := [(4, .int (nI 0)), (0, .ref h0), (1, .int (nI z)), (2, .int (nI i)), (3, .int (nI k))]) hx hb dX1_carry_46 hl (by decide) rfl (fun ls hl => ?_)
            refine lv_iload_n hx hb dX1_carry_48 rfl (lv_at hl 2 rfl) ?_
            refine lv_iload hx hb dX1_carry_49 (lv_at hl 0 rfl) ?_
            refine lv_iload hx hb dX1_carry_51 (lv_at hl 0 rfl) ?_
            refine lv_imul hx hb dX1_carry_53 ?_
            refine zr_ti (y := nI (0 * 0)) (pk_mul _ _) ?_
            refine lv_iadd hx hb dX1_carry_54 ?_
            refine zr_ti (y := nI (z + (0 * 0))) (nI_add _ _) ?_
            refine lv_istore_n (lv' := [(1, .int (nI (z + (0 * 0)))), (4, .int (nI 0)), (0, .ref h0), (2, .int (nI i)), (3, .int (nI k))]) hx hb dX1_carry_55 rfl hl (by decide) rfl (fun ls hl => ?_)
            refine lv_iinc (v := nI (k + 1)) (lv' := [(3, .int (nI (k + 1))), (1, .int (nI (z + (0 * 0)))), (4, .int (nI 0)), (0, .ref h0), (2, .int (nI i))]) hx hb dX1_carry_56 hl (k := 4) rfl (nI_add _ _) (by decide) rfl (fun ls hl => ?_)
            refine lv_goto (tgt := 18) hx hb dX1_carry_59 (by decide) ?_
            have hl : lv_has ls 5 [(0, .ref h0), (1, .int (nI (z + (0 * 0)))), (2, .int (nI i)), (3, .int (nI (k + 1)))] := lv_sub hl [3, 1, 4, 0] rfl
            exact ih18 (k + 1) (z + (0 * 0)) H locs ls (by omega) (by rw [hq2, Nat.add_assoc]; congr 1; show _ = _ + zm_c2 N G P i k; unfold zm_c2; first | rw [if_pos hbr] | rw [if_neg hbr]) (by omega) hP hD hS hl

set_option maxHeartbeats 4000000 in
set_option maxRecDepth 100000 in
theorem c_X1_loopOf (l : Launch) (D : va_G) (E : Nat → ClassId) (h0 : Nat) (h1 : Nat) (h2 : Nat) (h3 : Nat) (h4 : Nat) (h5 : Nat) (h6 : Nat) (N : Nat) (hm : Nat → Int32) (aw : Nat → Int32) (rv : Nat → Int32) (sd : Nat → Int32) (gm : Nat → Int32) (ca : Nat → Int32) (G : Nat → Nat → Nat) (P : Nat → Nat → Nat) (r : Nat) (q : Nat) (t : Nat) (hpl : zm_pl N G P hm aw rv sd gm) (hr0 : r < N - 1) (hq0 : q < N - 1) (ht : t < N) : Met l yX1_loopOf wsX1_loopOf ({ frames := 2, cells := 0, slots := 0, locals := 44 }) (zr_P D E [.ref h0, .int (nI r), .int (nI q), .int (nI t)] [(h0, .inr (0, [.int (nI N), .ref h1, .ref h2, .ref h3, .ref h4, .ref h5, .ref h6])), (h1, .inl (E 0, 15, .inl hm)), (h2, .inl (E 0, 15, .inl aw)), (h3, .inl (E 0, 30, .inl rv)), (h4, .inl (E 0, 30, .inl sd)), (h5, .inl (E 0, 30, .inl gm)), (h6, .inl (E 0, 36, .inl ca))]) (zr_Qi (fun zv => zv = nI (zm_loop N G P r q t))) 0 0 (fun _ => False) := by
  refine Met.ofW (cc := cX1_loopOf) (maxL := 6) (ret := (some .int)) (by decide) rfl ?_
  intro p e s m args below meth c s₁ Bz hml hv
  obtain ⟨rfl, hP, hK⟩ := hv
  have hx := Bz.exec
  have hb := Bz.bytes
  have hr := Bz.returns
  have hts := atoms_spec (ws := wsX1_loopOf) Bz.pre
  have hown : s.vm.findClass RX1 = some m.cls := findClass_of_methodNamed Bz.named
  have hlocks := Bz.notSynchronized
  have hP : va_P D vwCl [(h0, .inr (0, [.int (nI N), .ref h1, .ref h2, .ref h3, .ref h4, .ref h5, .ref h6])), (h1, .inl (E 0, 15, .inl hm)), (h2, .inl (E 0, 15, .inl aw)), (h3, .inl (E 0, 30, .inl rv)), (h4, .inl (E 0, 30, .inl sd)), (h5, .inl (E 0, 30, .inl gm)), (h6, .inl (E 0, 36, .inl ca))] s.heap := hP
  have hS : va_S (fun _ : Nat => False) s.heap s.heap [] := va_S.rf
  have hl := lv_entry ([.ref h0, .int (nI r), .int (nI q), .int (nI t)]) (n := 6) (Nat.le_of_ble_eq_true rfl)
  rw [lg_entry_eq]
  generalize (lg_sl ([.ref h0, .int (nI r), .int (nI q), .int (nI t)]) ++ List.replicate (6 - (lg_sl ([.ref h0, .int (nI r), .int (nI q), .int (nI t)])).length) Slot.unset).toArray = ls at hl ⊢
  have hl : lv_has ls 6 [(0, .ref h0), (1, .int (nI r)), (2, .int (nI q)), (3, .int (nI t))] := hl
  refine zr_nQ (fun Q hQ => ?_)
  have hN := hpl.1.1
  have hok := hpl.1
  refine lv_iconst (v := nI 0) hx hb dX1_loopOf_0 (by rfl) ?_
  refine lv_istore (lv' := [(4, .int (nI 0)), (0, .ref h0), (1, .int (nI r)), (2, .int (nI q)), (3, .int (nI t))]) hx hb dX1_loopOf_1 hl (by decide) rfl (fun ls hl => ?_)
  refine lv_iload_n hx hb dX1_loopOf_3 rfl (lv_at hl 4 rfl) ?_
  refine lv_istore (lv' := [(5, .int (nI t)), (4, .int (nI 0)), (0, .ref h0), (1, .int (nI r)), (2, .int (nI q)), (3, .int (nI t))]) hx hb dX1_loopOf_4 hl (by decide) rfl (fun ls hl => ?_)
  suffices KL6 : ∀ (kz : Nat) (m9 : Nat) (H : Heap) (locs : List Loc) (ls : Array Slot), (N - m9) < kz → (zm_loop N G P r q t = zm_lpk (zm_it G P r q t) t (N / 2 - 1 - m9) (m9 + 1)) → (m9 < N / 2) → va_P D vwCl [(h0, .inr (0, [.int (nI N), .ref h1, .ref h2, .ref h3, .ref h4, .ref h5, .ref h6])), (h1, .inl (E 0, 15, .inl hm)), (h2, .inl (E 0, 15, .inl aw)), (h3, .inl (E 0, 30, .inl rv)), (h4, .inl (E 0, 30, .inl sd)), (h5, .inl (E 0, 30, .inl gm)), (h6, .inl (E 0, 36, .inl ca))] H → va_S (fun _ : Nat => False) s.heap H locs → lv_has ls 6 [(0, .ref h0), (1, .int (nI r)), (2, .int (nI q)), (3, .int (nI t)), (4, .int (nI (2 * m9))), (5, .int (nI (zm_it G P r q t m9)))] → W p l e (headSpec wsX1_loopOf ({ frames := 2, cells := 0, slots := 0, locals := 44 })).room s m ([.ref h0, .int (nI r), .int (nI q), .int (nI t)] : List Value).toArray below meth c H locs 0 0 Q (F0 m 6 ls []) from
    KL6 _ 0 _ _ ls (Nat.lt_succ_self _) (rfl) (by omega) hP hS (lv_sub hl [2, 3, 4, 5, 1, 0] rfl)
  clear hP hS hl
  intro kz
  induction kz with
  | zero => intro m9 H locs ls hkz; exact absurd hkz (Nat.not_lt_zero _)
  | succ kz ih6 =>
    intro m9 H locs ls hkz hq hm9 hP hS hl
    have hl1 := zm_it_lt hok (t := t) hr0 hq0 ht m9
    have hl2 := zm_rv_lt (t := zm_it G P r q t m9) (r := r) hok hr0 hl1
    have hl3 := zm_it_lt hok (t := t) hr0 hq0 ht (m9 + 1)
    refine lv_aload_n hx hb dX1_loopOf_6 rfl (lv_at hl 0 rfl) ?_
    refine lv_aload_n hx hb dX1_loopOf_7 rfl (lv_at hl 0 rfl) ?_
    refine lv_iload hx hb dX1_loopOf_8 (lv_at hl 5 rfl) ?_
    refine lv_iload_n hx hb dX1_loopOf_10 rfl (lv_at hl 1 rfl) ?_
    refine zr_ci hP hS (va_runV (As := [.int (nI (zm_it G P r q t m9)), .int (nI r)]) (rest := [.ref h0]) ⟨hx, hb, hml, hown, hts⟩ (c_X1_rivalOf l D E h0 h1 h2 h3 h4 h5 h6 N hm aw rv sd gm ca G P (zm_it G P r q t m9) r (hpl) (by omega) (by omega)) (cwV 2 hts gX1_loopOf_X1_rivalOf rfl rfl rfl (by decide +kernel) ⟨Nat.le_of_ble_eq_true rfl, Nat.le_of_ble_eq_true rfl⟩) (zr_V hK (hP.sub (ws' := [(h0, .inr (0, [.int (nI N), .ref h1, .ref h2, .ref h3, .ref h4, .ref h5, .ref h6])), (h1, .inl (E 0, 15, .inl hm)), (h2, .inl (E 0, 15, .inl aw)), (h3, .inl (E 0, 30, .inl rv)), (h4, .inl (E 0, 30, .inl sd)), (h5, .inl (E 0, 30, .inl gm)), (h6, .inl (E 0, 36, .inl ca))]) [0, 1, 2, 3, 4, 5, 6] rfl) (ci := 0) (q0 := 0) rfl rfl) rfl rfl hl.1 rfl (lv_room (Nat.le_of_ble_eq_true rfl)) dX1_loopOf_11 ⟨Nat.zero_le _, Nat.zero_le _⟩) (fun r_1 H locs hw_2 hP hS => ?_)
    subst hw_2
    refine lv_iload_n hx hb dX1_loopOf_14 rfl (lv_at hl 2 rfl) ?_
    refine zr_ci hP hS (va_runV (As := [.int (nI (zm_rv G P (zm_it G P r q t m9) r)), .int (nI q)]) (rest := []) ⟨hx, hb, hml, hown, hts⟩ (c_X1_rivalOf l D E h0 h1 h2 h3 h4 h5 h6 N hm aw rv sd gm ca G P (zm_rv G P (zm_it G P r q t m9) r) q (hpl) (by omega) (by omega)) (cwV 2 hts gX1_loopOf_X1_rivalOf rfl rfl rfl (by decide +kernel) ⟨Nat.le_of_ble_eq_true rfl, Nat.le_of_ble_eq_true rfl⟩) (zr_V hK (hP.sub (ws' := [(h0, .inr (0, [.int (nI N), .ref h1, .ref h2, .ref h3, .ref h4, .ref h5, .ref h6])), (h1, .inl (E 0, 15, .inl hm)), (h2, .inl (E 0, 15, .inl aw)), (h3, .inl (E 0, 30, .inl rv)), (h4, .inl (E 0, 30, .inl sd)), (h5, .inl (E 0, 30, .inl gm)), (h6, .inl (E 0, 36, .inl ca))]) [0, 1, 2, 3, 4, 5, 6] rfl) (ci := 0) (q0 := 0) rfl rfl) rfl rfl hl.1 rfl (lv_room (Nat.le_of_ble_eq_true rfl)) dX1_loopOf_15 ⟨Nat.zero_le _, Nat.zero_le _⟩) (fun r_3 H locs hw_4 hP hS => ?_)
    subst hw_4
    refine zr_ti (y := nI (zm_it G P r q t (m9 + 1))) (rfl) ?_
    refine lv_istore (lv' := [(5, .int (nI (zm_it G P r q t (m9 + 1)))), (0, .ref h0), (1, .int (nI r)), (2, .int (nI q)), (3, .int (nI t)), (4, .int (nI (2 * m9)))]) hx hb dX1_loopOf_18 hl (by decide) rfl (fun ls hl => ?_)
    refine lv_iinc (v := nI (2 * (m9 + 1))) (lv' := [(4, .int (nI (2 * (m9 + 1)))), (5, .int (nI (zm_it G P r q t (m9 + 1)))), (0, .ref h0), (1, .int (nI r)), (2, .int (nI q)), (3, .int (nI t))]) hx hb dX1_loopOf_20 hl (k := 5) rfl (nI_add _ _) (by decide) rfl (fun ls hl => ?_)
    refine lv_iload hx hb dX1_loopOf_23 (lv_at hl 1 rfl) ?_
    refine lv_iload_n hx hb dX1_loopOf_25 rfl (lv_at hl 5 rfl) ?_
    refine lv_icmp_eq (tgt := 38) hx hb dX1_loopOf_26 (by decide) (fun cn_5 => ?_) (fun cn_5 => ?_)
    · skip
      have cn_5 : zm_it G P r q t (m9 + 1) = t := (nI_eq (a := zm_it G P r q t (m9 + 1)) (b := t) (by omega) (by omega)).mp cn_5
      have hbr := cn_5
      refine lv_iload hx hb dX1_loopOf_38 (lv_at hl 0 rfl) ?_
      subst hQ
      exact W.iret (v := nI (2 * (m9 + 1))) hx hb hr (fun tz htz hWz => ⟨⟨nI (2 * (m9 + 1)), (), rfl, by first | (rw [hq, zm_lpk_hit hbr]) | (rw [hq, show N / 2 - 1 - m9 = 0 from by omega]; rfl), trivial⟩, hS.F htz⟩) hS.2.2 dX1_loopOf_40
    · skip
      have cn_5 : ¬ (zm_it G P r q t (m9 + 1) = t) := fun hz => cn_5 ((nI_eq (a := zm_it G P r q t (m9 + 1)) (b := t) (by omega) (by omega)).mpr hz)
      have hbr := cn_5
      refine lv_iload hx hb dX1_loopOf_29 (lv_at hl 0 rfl) ?_
      refine lv_aload_n hx hb dX1_loopOf_31 rfl (lv_at hl 2 rfl) ?_
      refine va_get (D := D) (ci := 0) (v := .int (nI N)) (C := RX1) (T := TX1) (N := 7) hx hb hts (by decide +kernel) hown hK.1 hP 0 rfl rfl 0 (by decide) (hts (.fieldLink RX1 30 "HomeRounds$Plan" "n" "I") (by decide +kernel)) (fun _ h9 => h9) rfl dX1_loopOf_32 ?_
      refine lv_icmp_lt (tgt := 6) hx hb dX1_loopOf_35 (by decide) (fun cn_6 => ?_) (fun cn_6 => ?_)
      · skip
        have cn_6 : 2 * (m9 + 1) < N := (nI_ltI (a := 2 * (m9 + 1)) (b := N) (by omega) (by omega)).mp cn_6
        have hb2 := cn_6
        have hl : lv_has ls 6 [(0, .ref h0), (1, .int (nI r)), (2, .int (nI q)), (3, .int (nI t)), (4, .int (nI (2 * (m9 + 1)))), (5, .int (nI (zm_it G P r q t (m9 + 1))))] := lv_sub hl [2, 3, 4, 5, 0, 1] rfl
        exact ih6 (m9 + 1) H locs ls (by omega) (by rw [hq, show N / 2 - 1 - m9 = (N / 2 - 1 - (m9 + 1)) + 1 from by omega, zm_lpk, if_neg hbr]) (by omega) hP hS hl
      · skip
        have cn_6 : ¬ (2 * (m9 + 1) < N) := fun hz => cn_6 ((nI_ltI (a := 2 * (m9 + 1)) (b := N) (by omega) (by omega)).mpr hz)
        have hb2 := cn_6
        refine lv_iload hx hb dX1_loopOf_38 (lv_at hl 0 rfl) ?_
        subst hQ
        exact W.iret (v := nI (2 * (m9 + 1))) hx hb hr (fun tz htz hWz => ⟨⟨nI (2 * (m9 + 1)), (), rfl, by first | (rw [hq, zm_lpk_hit hbr]) | (rw [hq, show N / 2 - 1 - m9 = 0 from by omega]; rfl), trivial⟩, hS.F htz⟩) hS.2.2 dX1_loopOf_40

set_option maxHeartbeats 4000000 in
set_option maxRecDepth 100000 in
theorem c_X1_become (l : Launch) (D : va_G) (E : Nat → ClassId) (h0 : Nat) (h1 : Nat) (h2 : Nat) (h3 : Nat) (h4 : Nat) (h5 : Nat) (h6 : Nat) (N : Nat) (hm : Nat → Int32) (aw : Nat → Int32) (rv : Nat → Int32) (sd : Nat → Int32) (gm : Nat → Int32) (ca : Nat → Int32) (G : Nat → Nat → Nat) (P : Nat → Nat → Nat) (o0 : Nat) (o1 : Nat) (o2 : Nat) (o3 : Nat) (o4 : Nat) (o5 : Nat) (o6 : Nat) (N0 : Nat) (om : Nat → Int32) (oa : Nat → Int32) (ov : Nat → Int32) (os : Nat → Int32) (og : Nat → Int32) (oc : Nat → Int32) (hpo : zm_pl N G P om oa ov os og) : Met l yX1_become wsX1_become ({ frames := 1, cells := 0, slots := 0, locals := 60 }) (zw_P D E [.ref h0, .ref o0] [(h0, .inr (0, [.int (nI N0), .ref h1, .ref h2, .ref h3, .ref h4, .ref h5, .ref h6])), (h1, .inl (E 0, 15, .inl hm)), (h2, .inl (E 0, 15, .inl aw)), (h3, .inl (E 0, 30, .inl rv)), (h4, .inl (E 0, 30, .inl sd)), (h5, .inl (E 0, 30, .inl gm)), (h6, .inl (E 0, 36, .inl ca)), (o0, .inr (0, [.int (nI N), .ref o1, .ref o2, .ref o3, .ref o4, .ref o5, .ref o6])), (o1, .inl (E 0, 15, .inl om)), (o2, .inl (E 0, 15, .inl oa)), (o3, .inl (E 0, 30, .inl ov)), (o4, .inl (E 0, 30, .inl os)), (o5, .inl (E 0, 30, .inl og)), (o6, .inl (E 0, 36, .inl oc))]) (zw_Qv D [(h0, .inr (0, [.int (nI N0), .ref h1, .ref h2, .ref h3, .ref h4, .ref h5, .ref h6])), (h1, .inl (E 0, 15, .inl hm)), (h2, .inl (E 0, 15, .inl aw)), (h3, .inl (E 0, 30, .inl rv)), (h4, .inl (E 0, 30, .inl sd)), (h5, .inl (E 0, 30, .inl gm)), (h6, .inl (E 0, 36, .inl ca)), (o0, .inr (0, [.int (nI N), .ref o1, .ref o2, .ref o3, .ref o4, .ref o5, .ref o6])), (o1, .inl (E 0, 15, .inl om)), (o2, .inl (E 0, 15, .inl oa)), (o3, .inl (E 0, 30, .inl ov)), (o4, .inl (E 0, 30, .inl os)), (o5, .inl (E 0, 30, .inl og)), (o6, .inl (E 0, 36, .inl oc))] (fun (u : (Nat → Int32) × (Nat → Int32) × (Nat → Int32) × (Nat → Int32) × (Nat → Int32)) => zm_pl N G P u.1 u.2.1 u.2.2.1 u.2.2.2.1 u.2.2.2.2) (fun (u : (Nat → Int32) × (Nat → Int32) × (Nat → Int32) × (Nat → Int32) × (Nat → Int32)) => [(h0, .inr (0, [.int (nI N), .ref h1, .ref h2, .ref h3, .ref h4, .ref h5, .ref h6])), (h1, .inl (E 0, 15, .inl u.1)), (h2, .inl (E 0, 15, .inl u.2.1)), (h3, .inl (E 0, 30, .inl u.2.2.1)), (h4, .inl (E 0, 30, .inl u.2.2.2.1)), (h5, .inl (E 0, 30, .inl u.2.2.2.2)), (h6, .inl (E 0, 36, .inl ca)), (o0, .inr (0, [.int (nI N), .ref o1, .ref o2, .ref o3, .ref o4, .ref o5, .ref o6])), (o1, .inl (E 0, 15, .inl om)), (o2, .inl (E 0, 15, .inl oa)), (o3, .inl (E 0, 30, .inl ov)), (o4, .inl (E 0, 30, .inl os)), (o5, .inl (E 0, 30, .inl og)), (o6, .inl (E 0, 36, .inl oc))])) 0 0 (zw_A [(h0, .inr (0, [.int (nI N0), .ref h1, .ref h2, .ref h3, .ref h4, .ref h5, .ref h6])), (h1, .inl (E 0, 15, .inl hm)), (h2, .inl (E 0, 15, .inl aw)), (h3, .inl (E 0, 30, .inl rv)), (h4, .inl (E 0, 30, .inl sd)), (h5, .inl (E 0, 30, .inl gm)), (h6, .inl (E 0, 36, .inl ca)), (o0, .inr (0, [.int (nI N), .ref o1, .ref o2, .ref o3, .ref o4, .ref o5, .ref o6])), (o1, .inl (E 0, 15, .inl om)), (o2, .inl (E 0, 15, .inl oa)), (o3, .inl (E 0, 30, .inl ov)), (o4, .inl (E 0, 30, .inl os)), (o5, .inl (E 0, 30, .inl og)), (o6, .inl (E 0, 36, .inl oc))]) := by
  refine Met.ofW (cc := cX1_become) (maxL := 2) (ret := none) (by decide) rfl ?_
  intro p e s m args below meth c s₁ Bz hml hv
  obtain ⟨rfl, hP, hK, hD0⟩ := hv
  have hx := Bz.exec
  have hb := Bz.bytes
  have hr := Bz.returns
  have hts := atoms_spec (ws := wsX1_become) Bz.pre
  have hown : s.vm.findClass RX1 = some m.cls := findClass_of_methodNamed Bz.named
  have hlocks := Bz.notSynchronized
  have hP : va_P D vwCl [(h0, .inr (0, [.int (nI N0), .ref h1, .ref h2, .ref h3, .ref h4, .ref h5, .ref h6])), (h1, .inl (E 0, 15, .inl hm)), (h2, .inl (E 0, 15, .inl aw)), (h3, .inl (E 0, 30, .inl rv)), (h4, .inl (E 0, 30, .inl sd)), (h5, .inl (E 0, 30, .inl gm)), (h6, .inl (E 0, 36, .inl ca)), (o0, .inr (0, [.int (nI N), .ref o1, .ref o2, .ref o3, .ref o4, .ref o5, .ref o6])), (o1, .inl (E 0, 15, .inl om)), (o2, .inl (E 0, 15, .inl oa)), (o3, .inl (E 0, 30, .inl ov)), (o4, .inl (E 0, 30, .inl os)), (o5, .inl (E 0, 30, .inl og)), (o6, .inl (E 0, 36, .inl oc))] s.heap := hP
  obtain ⟨A, hAe⟩ : ∃ A : Nat → Prop, A = zw_A [(h0, .inr (0, [.int (nI N0), .ref h1, .ref h2, .ref h3, .ref h4, .ref h5, .ref h6])), (h1, .inl (E 0, 15, .inl hm)), (h2, .inl (E 0, 15, .inl aw)), (h3, .inl (E 0, 30, .inl rv)), (h4, .inl (E 0, 30, .inl sd)), (h5, .inl (E 0, 30, .inl gm)), (h6, .inl (E 0, 36, .inl ca)), (o0, .inr (0, [.int (nI N), .ref o1, .ref o2, .ref o3, .ref o4, .ref o5, .ref o6])), (o1, .inl (E 0, 15, .inl om)), (o2, .inl (E 0, 15, .inl oa)), (o3, .inl (E 0, 30, .inl ov)), (o4, .inl (E 0, 30, .inl os)), (o5, .inl (E 0, 30, .inl og)), (o6, .inl (E 0, 36, .inl oc))] := ⟨_, rfl⟩
  have hD : va_D A [(h0, .inr (0, [.int (nI N0), .ref h1, .ref h2, .ref h3, .ref h4, .ref h5, .ref h6])), (h1, .inl (E 0, 15, .inl hm)), (h2, .inl (E 0, 15, .inl aw)), (h3, .inl (E 0, 30, .inl rv)), (h4, .inl (E 0, 30, .inl sd)), (h5, .inl (E 0, 30, .inl gm)), (h6, .inl (E 0, 36, .inl ca)), (o0, .inr (0, [.int (nI N), .ref o1, .ref o2, .ref o3, .ref o4, .ref o5, .ref o6])), (o1, .inl (E 0, 15, .inl om)), (o2, .inl (E 0, 15, .inl oa)), (o3, .inl (E 0, 30, .inl ov)), (o4, .inl (E 0, 30, .inl os)), (o5, .inl (E 0, 30, .inl og)), (o6, .inl (E 0, 36, .inl oc))] := hAe ▸ zw_own hD0
  have hS : va_S A s.heap s.heap [] := va_S.rf
  have hl := lv_entry ([.ref h0, .ref o0]) (n := 2) (Nat.le_of_ble_eq_true rfl)
  rw [lg_entry_eq]
  generalize (lg_sl ([.ref h0, .ref o0]) ++ List.replicate (2 - (lg_sl ([.ref h0, .ref o0])).length) Slot.unset).toArray = ls at hl ⊢
  have hl : lv_has ls 2 [(0, .ref h0), (1, .ref o0)] := hl
  refine zr_nQ (fun Q hQ => ?_)
  refine lv_aload_n hx hb dX1_become_0 rfl (lv_at hl 0 rfl) ?_
  refine lv_aload_n hx hb dX1_become_1 rfl (lv_at hl 1 rfl) ?_
  refine va_get (D := D) (ci := 0) (v := .int (nI N)) (C := RX1) (T := TX1) (N := 7) hx hb hts (by decide +kernel) hown hK.1 hP 7 rfl rfl 0 (by decide) (hts (.fieldLink RX1 30 "HomeRounds$Plan" "n" "I") (by decide +kernel)) (fun _ h9 => h9) rfl dX1_become_2 ?_
  refine va_put (D := D) (ci := 0) (v := .int (nI N)) (ty := .int) (C := RX1) (T := TX1) (N := 7) hx hb hts (by decide +kernel) tyX1 tyX1_ok nmX1 hown hK.1 hP hD hS 0 rfl rfl 0 (by decide) (hts (.fieldLink RX1 30 "HomeRounds$Plan" "n" "I") (by decide +kernel)) (fun _ h9 => h9) rfl (by decide +kernel) rfl rfl (Nat.le_of_ble_eq_true rfl) dX1_become_5 (fun H locs hP hD hS => ?_)
  have hP : va_P D vwCl [(h0, .inr (0, [.int (nI N), .ref h1, .ref h2, .ref h3, .ref h4, .ref h5, .ref h6])), (h1, .inl (E 0, 15, .inl hm)), (h2, .inl (E 0, 15, .inl aw)), (h3, .inl (E 0, 30, .inl rv)), (h4, .inl (E 0, 30, .inl sd)), (h5, .inl (E 0, 30, .inl gm)), (h6, .inl (E 0, 36, .inl ca)), (o0, .inr (0, [.int (nI N), .ref o1, .ref o2, .ref o3, .ref o4, .ref o5, .ref o6])), (o1, .inl (E 0, 15, .inl om)), (o2, .inl (E 0, 15, .inl oa)), (o3, .inl (E 0, 30, .inl ov)), (o4, .inl (E 0, 30, .inl os)), (o5, .inl (E 0, 30, .inl og)), (o6, .inl (E 0, 36, .inl oc))] H := hP
  have hD : va_D A [(h0, .inr (0, [.int (nI N), .ref h1, .ref h2, .ref h3, .ref h4, .ref h5, .ref h6])), (h1, .inl (E 0, 15, .inl hm)), (h2, .inl (E 0, 15, .inl aw)), (h3, .inl (E 0, 30, .inl rv)), (h4, .inl (E 0, 30, .inl sd)), (h5, .inl (E 0, 30, .inl gm)), (h6, .inl (E 0, 36, .inl ca)), (o0, .inr (0, [.int (nI N), .ref o1, .ref o2, .ref o3, .ref o4, .ref o5, .ref o6])), (o1, .inl (E 0, 15, .inl om)), (o2, .inl (E 0, 15, .inl oa)), (o3, .inl (E 0, 30, .inl ov)), (o4, .inl (E 0, 30, .inl os)), (o5, .inl (E 0, 30, .inl og)), (o6, .inl (E 0, 36, .inl oc))] := hD
  refine lv_aload_n hx hb dX1_become_8 rfl (lv_at hl 1 rfl) ?_
  refine va_get (D := D) (ci := 0) (v := .ref o1) (C := RX1) (T := TX1) (N := 7) hx hb hts (by decide +kernel) hown hK.1 hP 7 rfl rfl 1 (by decide) (hts (.fieldLink RX1 9 "HomeRounds$Plan" "homes" "[I") (by decide +kernel)) (fun _ h9 => h9) rfl dX1_become_9 ?_
  refine lv_iconst (v := nI 0) hx hb dX1_become_12 (by rfl) ?_
  refine lv_aload_n hx hb dX1_become_13 rfl (lv_at hl 0 rfl) ?_
  refine va_get (D := D) (ci := 0) (v := .ref h1) (C := RX1) (T := TX1) (N := 7) hx hb hts (by decide +kernel) hown hK.1 hP 0 rfl rfl 1 (by decide) (hts (.fieldLink RX1 9 "HomeRounds$Plan" "homes" "[I") (by decide +kernel)) (fun _ h9 => h9) rfl dX1_become_14 ?_
  refine lv_iconst (v := nI 0) hx hb dX1_become_17 (by rfl) ?_
  refine lv_aload_n hx hb dX1_become_18 rfl (lv_at hl 0 rfl) ?_
  refine va_get (D := D) (ci := 0) (v := .ref h1) (C := RX1) (T := TX1) (N := 7) hx hb hts (by decide +kernel) hown hK.1 hP 0 rfl rfl 1 (by decide) (hts (.fieldLink RX1 9 "HomeRounds$Plan" "homes" "[I") (by decide +kernel)) (fun _ h9 => h9) rfl dX1_become_19 ?_
  refine va_alen hx hb hK.1 hP 1 0 rfl rfl (v := nI 15) rfl dX1_become_22 ?_
  refine va_copyi hx hb (hml.trans hl.1.symm) hown (hts (.methodLink RX1 52 arraycopyName) (by decide +kernel)) (hts (.native arraycopyName) (by decide +kernel)) (hts (.static arraycopyName) (by decide +kernel)) (hts (.initialized "java/lang/System") (by decide +kernel)) hK.1 hP hD hS 8 1 0 0 rfl rfl rfl rfl rfl (by decide +kernel) (by decide +kernel) (by decide +kernel) (by decide +kernel) (by decide +kernel) (fun _ _ => rfl) (Nat.le_of_ble_eq_true rfl) (by decide) dX1_become_23 (fun H locs hP hD hS => ?_)
  have hP : va_P D vwCl [(h0, .inr (0, [.int (nI N), .ref h1, .ref h2, .ref h3, .ref h4, .ref h5, .ref h6])), (h1, .inl (E 0, 15, .inl (va_cpy om hm (nI 0).toNatClampNeg (nI 0).toNatClampNeg (nI 15).toNatClampNeg))), (h2, .inl (E 0, 15, .inl aw)), (h3, .inl (E 0, 30, .inl rv)), (h4, .inl (E 0, 30, .inl sd)), (h5, .inl (E 0, 30, .inl gm)), (h6, .inl (E 0, 36, .inl ca)), (o0, .inr (0, [.int (nI N), .ref o1, .ref o2, .ref o3, .ref o4, .ref o5, .ref o6])), (o1, .inl (E 0, 15, .inl om)), (o2, .inl (E 0, 15, .inl oa)), (o3, .inl (E 0, 30, .inl ov)), (o4, .inl (E 0, 30, .inl os)), (o5, .inl (E 0, 30, .inl og)), (o6, .inl (E 0, 36, .inl oc))] H := hP
  have hD : va_D A [(h0, .inr (0, [.int (nI N), .ref h1, .ref h2, .ref h3, .ref h4, .ref h5, .ref h6])), (h1, .inl (E 0, 15, .inl (va_cpy om hm (nI 0).toNatClampNeg (nI 0).toNatClampNeg (nI 15).toNatClampNeg))), (h2, .inl (E 0, 15, .inl aw)), (h3, .inl (E 0, 30, .inl rv)), (h4, .inl (E 0, 30, .inl sd)), (h5, .inl (E 0, 30, .inl gm)), (h6, .inl (E 0, 36, .inl ca)), (o0, .inr (0, [.int (nI N), .ref o1, .ref o2, .ref o3, .ref o4, .ref o5, .ref o6])), (o1, .inl (E 0, 15, .inl om)), (o2, .inl (E 0, 15, .inl oa)), (o3, .inl (E 0, 30, .inl ov)), (o4, .inl (E 0, 30, .inl os)), (o5, .inl (E 0, 30, .inl og)), (o6, .inl (E 0, 36, .inl oc))] := hD
  refine lv_aload_n hx hb dX1_become_26 rfl (lv_at hl 1 rfl) ?_
  refine va_get (D := D) (ci := 0) (v := .ref o2) (C := RX1) (T := TX1) (N := 7) hx hb hts (by decide +kernel) hown hK.1 hP 7 rfl rfl 2 (by decide) (hts (.fieldLink RX1 15 "HomeRounds$Plan" "aways" "[I") (by decide +kernel)) (fun _ h9 => h9) rfl dX1_become_27 ?_
  refine lv_iconst (v := nI 0) hx hb dX1_become_30 (by rfl) ?_
  refine lv_aload_n hx hb dX1_become_31 rfl (lv_at hl 0 rfl) ?_
  refine va_get (D := D) (ci := 0) (v := .ref h2) (C := RX1) (T := TX1) (N := 7) hx hb hts (by decide +kernel) hown hK.1 hP 0 rfl rfl 2 (by decide) (hts (.fieldLink RX1 15 "HomeRounds$Plan" "aways" "[I") (by decide +kernel)) (fun _ h9 => h9) rfl dX1_become_32 ?_
  refine lv_iconst (v := nI 0) hx hb dX1_become_35 (by rfl) ?_
  refine lv_aload_n hx hb dX1_become_36 rfl (lv_at hl 0 rfl) ?_
  refine va_get (D := D) (ci := 0) (v := .ref h2) (C := RX1) (T := TX1) (N := 7) hx hb hts (by decide +kernel) hown hK.1 hP 0 rfl rfl 2 (by decide) (hts (.fieldLink RX1 15 "HomeRounds$Plan" "aways" "[I") (by decide +kernel)) (fun _ h9 => h9) rfl dX1_become_37 ?_
  refine va_alen hx hb hK.1 hP 2 0 rfl rfl (v := nI 15) rfl dX1_become_40 ?_
  refine va_copyi hx hb (hml.trans hl.1.symm) hown (hts (.methodLink RX1 52 arraycopyName) (by decide +kernel)) (hts (.native arraycopyName) (by decide +kernel)) (hts (.static arraycopyName) (by decide +kernel)) (hts (.initialized "java/lang/System") (by decide +kernel)) hK.1 hP hD hS 9 2 0 0 rfl rfl rfl rfl rfl (by decide +kernel) (by decide +kernel) (by decide +kernel) (by decide +kernel) (by decide +kernel) (fun _ _ => rfl) (Nat.le_of_ble_eq_true rfl) (by decide) dX1_become_41 (fun H locs hP hD hS => ?_)
  have hP : va_P D vwCl [(h0, .inr (0, [.int (nI N), .ref h1, .ref h2, .ref h3, .ref h4, .ref h5, .ref h6])), (h1, .inl (E 0, 15, .inl (va_cpy om hm (nI 0).toNatClampNeg (nI 0).toNatClampNeg (nI 15).toNatClampNeg))), (h2, .inl (E 0, 15, .inl (va_cpy oa aw (nI 0).toNatClampNeg (nI 0).toNatClampNeg (nI 15).toNatClampNeg))), (h3, .inl (E 0, 30, .inl rv)), (h4, .inl (E 0, 30, .inl sd)), (h5, .inl (E 0, 30, .inl gm)), (h6, .inl (E 0, 36, .inl ca)), (o0, .inr (0, [.int (nI N), .ref o1, .ref o2, .ref o3, .ref o4, .ref o5, .ref o6])), (o1, .inl (E 0, 15, .inl om)), (o2, .inl (E 0, 15, .inl oa)), (o3, .inl (E 0, 30, .inl ov)), (o4, .inl (E 0, 30, .inl os)), (o5, .inl (E 0, 30, .inl og)), (o6, .inl (E 0, 36, .inl oc))] H := hP
  have hD : va_D A [(h0, .inr (0, [.int (nI N), .ref h1, .ref h2, .ref h3, .ref h4, .ref h5, .ref h6])), (h1, .inl (E 0, 15, .inl (va_cpy om hm (nI 0).toNatClampNeg (nI 0).toNatClampNeg (nI 15).toNatClampNeg))), (h2, .inl (E 0, 15, .inl (va_cpy oa aw (nI 0).toNatClampNeg (nI 0).toNatClampNeg (nI 15).toNatClampNeg))), (h3, .inl (E 0, 30, .inl rv)), (h4, .inl (E 0, 30, .inl sd)), (h5, .inl (E 0, 30, .inl gm)), (h6, .inl (E 0, 36, .inl ca)), (o0, .inr (0, [.int (nI N), .ref o1, .ref o2, .ref o3, .ref o4, .ref o5, .ref o6])), (o1, .inl (E 0, 15, .inl om)), (o2, .inl (E 0, 15, .inl oa)), (o3, .inl (E 0, 30, .inl ov)), (o4, .inl (E 0, 30, .inl os)), (o5, .inl (E 0, 30, .inl og)), (o6, .inl (E 0, 36, .inl oc))] := hD
  refine lv_aload_n hx hb dX1_become_44 rfl (lv_at hl 1 rfl) ?_
  refine va_get (D := D) (ci := 0) (v := .ref o3) (C := RX1) (T := TX1) (N := 7) hx hb hts (by decide +kernel) hown hK.1 hP 7 rfl rfl 3 (by decide) (hts (.fieldLink RX1 18 "HomeRounds$Plan" "rivals" "[I") (by decide +kernel)) (fun _ h9 => h9) rfl dX1_become_45 ?_
  refine lv_iconst (v := nI 0) hx hb dX1_become_48 (by rfl) ?_
  refine lv_aload_n hx hb dX1_become_49 rfl (lv_at hl 0 rfl) ?_
  refine va_get (D := D) (ci := 0) (v := .ref h3) (C := RX1) (T := TX1) (N := 7) hx hb hts (by decide +kernel) hown hK.1 hP 0 rfl rfl 3 (by decide) (hts (.fieldLink RX1 18 "HomeRounds$Plan" "rivals" "[I") (by decide +kernel)) (fun _ h9 => h9) rfl dX1_become_50 ?_
  refine lv_iconst (v := nI 0) hx hb dX1_become_53 (by rfl) ?_
  refine lv_aload_n hx hb dX1_become_54 rfl (lv_at hl 0 rfl) ?_
  refine va_get (D := D) (ci := 0) (v := .ref h3) (C := RX1) (T := TX1) (N := 7) hx hb hts (by decide +kernel) hown hK.1 hP 0 rfl rfl 3 (by decide) (hts (.fieldLink RX1 18 "HomeRounds$Plan" "rivals" "[I") (by decide +kernel)) (fun _ h9 => h9) rfl dX1_become_55 ?_
  refine va_alen hx hb hK.1 hP 3 0 rfl rfl (v := nI 30) rfl dX1_become_58 ?_
  refine va_copyi hx hb (hml.trans hl.1.symm) hown (hts (.methodLink RX1 52 arraycopyName) (by decide +kernel)) (hts (.native arraycopyName) (by decide +kernel)) (hts (.static arraycopyName) (by decide +kernel)) (hts (.initialized "java/lang/System") (by decide +kernel)) hK.1 hP hD hS 10 3 0 0 rfl rfl rfl rfl rfl (by decide +kernel) (by decide +kernel) (by decide +kernel) (by decide +kernel) (by decide +kernel) (fun _ _ => rfl) (Nat.le_of_ble_eq_true rfl) (by decide) dX1_become_59 (fun H locs hP hD hS => ?_)
  have hP : va_P D vwCl [(h0, .inr (0, [.int (nI N), .ref h1, .ref h2, .ref h3, .ref h4, .ref h5, .ref h6])), (h1, .inl (E 0, 15, .inl (va_cpy om hm (nI 0).toNatClampNeg (nI 0).toNatClampNeg (nI 15).toNatClampNeg))), (h2, .inl (E 0, 15, .inl (va_cpy oa aw (nI 0).toNatClampNeg (nI 0).toNatClampNeg (nI 15).toNatClampNeg))), (h3, .inl (E 0, 30, .inl (va_cpy ov rv (nI 0).toNatClampNeg (nI 0).toNatClampNeg (nI 30).toNatClampNeg))), (h4, .inl (E 0, 30, .inl sd)), (h5, .inl (E 0, 30, .inl gm)), (h6, .inl (E 0, 36, .inl ca)), (o0, .inr (0, [.int (nI N), .ref o1, .ref o2, .ref o3, .ref o4, .ref o5, .ref o6])), (o1, .inl (E 0, 15, .inl om)), (o2, .inl (E 0, 15, .inl oa)), (o3, .inl (E 0, 30, .inl ov)), (o4, .inl (E 0, 30, .inl os)), (o5, .inl (E 0, 30, .inl og)), (o6, .inl (E 0, 36, .inl oc))] H := hP
  have hD : va_D A [(h0, .inr (0, [.int (nI N), .ref h1, .ref h2, .ref h3, .ref h4, .ref h5, .ref h6])), (h1, .inl (E 0, 15, .inl (va_cpy om hm (nI 0).toNatClampNeg (nI 0).toNatClampNeg (nI 15).toNatClampNeg))), (h2, .inl (E 0, 15, .inl (va_cpy oa aw (nI 0).toNatClampNeg (nI 0).toNatClampNeg (nI 15).toNatClampNeg))), (h3, .inl (E 0, 30, .inl (va_cpy ov rv (nI 0).toNatClampNeg (nI 0).toNatClampNeg (nI 30).toNatClampNeg))), (h4, .inl (E 0, 30, .inl sd)), (h5, .inl (E 0, 30, .inl gm)), (h6, .inl (E 0, 36, .inl ca)), (o0, .inr (0, [.int (nI N), .ref o1, .ref o2, .ref o3, .ref o4, .ref o5, .ref o6])), (o1, .inl (E 0, 15, .inl om)), (o2, .inl (E 0, 15, .inl oa)), (o3, .inl (E 0, 30, .inl ov)), (o4, .inl (E 0, 30, .inl os)), (o5, .inl (E 0, 30, .inl og)), (o6, .inl (E 0, 36, .inl oc))] := hD
  refine lv_aload_n hx hb dX1_become_62 rfl (lv_at hl 1 rfl) ?_
  refine va_get (D := D) (ci := 0) (v := .ref o4) (C := RX1) (T := TX1) (N := 7) hx hb hts (by decide +kernel) hown hK.1 hP 7 rfl rfl 4 (by decide) (hts (.fieldLink RX1 21 "HomeRounds$Plan" "sides" "[I") (by decide +kernel)) (fun _ h9 => h9) rfl dX1_become_63 ?_
  refine lv_iconst (v := nI 0) hx hb dX1_become_66 (by rfl) ?_
  refine lv_aload_n hx hb dX1_become_67 rfl (lv_at hl 0 rfl) ?_
  refine va_get (D := D) (ci := 0) (v := .ref h4) (C := RX1) (T := TX1) (N := 7) hx hb hts (by decide +kernel) hown hK.1 hP 0 rfl rfl 4 (by decide) (hts (.fieldLink RX1 21 "HomeRounds$Plan" "sides" "[I") (by decide +kernel)) (fun _ h9 => h9) rfl dX1_become_68 ?_
  refine lv_iconst (v := nI 0) hx hb dX1_become_71 (by rfl) ?_
  refine lv_aload_n hx hb dX1_become_72 rfl (lv_at hl 0 rfl) ?_
  refine va_get (D := D) (ci := 0) (v := .ref h4) (C := RX1) (T := TX1) (N := 7) hx hb hts (by decide +kernel) hown hK.1 hP 0 rfl rfl 4 (by decide) (hts (.fieldLink RX1 21 "HomeRounds$Plan" "sides" "[I") (by decide +kernel)) (fun _ h9 => h9) rfl dX1_become_73 ?_
  refine va_alen hx hb hK.1 hP 4 0 rfl rfl (v := nI 30) rfl dX1_become_76 ?_
  refine va_copyi hx hb (hml.trans hl.1.symm) hown (hts (.methodLink RX1 52 arraycopyName) (by decide +kernel)) (hts (.native arraycopyName) (by decide +kernel)) (hts (.static arraycopyName) (by decide +kernel)) (hts (.initialized "java/lang/System") (by decide +kernel)) hK.1 hP hD hS 11 4 0 0 rfl rfl rfl rfl rfl (by decide +kernel) (by decide +kernel) (by decide +kernel) (by decide +kernel) (by decide +kernel) (fun _ _ => rfl) (Nat.le_of_ble_eq_true rfl) (by decide) dX1_become_77 (fun H locs hP hD hS => ?_)
  have hP : va_P D vwCl [(h0, .inr (0, [.int (nI N), .ref h1, .ref h2, .ref h3, .ref h4, .ref h5, .ref h6])), (h1, .inl (E 0, 15, .inl (va_cpy om hm (nI 0).toNatClampNeg (nI 0).toNatClampNeg (nI 15).toNatClampNeg))), (h2, .inl (E 0, 15, .inl (va_cpy oa aw (nI 0).toNatClampNeg (nI 0).toNatClampNeg (nI 15).toNatClampNeg))), (h3, .inl (E 0, 30, .inl (va_cpy ov rv (nI 0).toNatClampNeg (nI 0).toNatClampNeg (nI 30).toNatClampNeg))), (h4, .inl (E 0, 30, .inl (va_cpy os sd (nI 0).toNatClampNeg (nI 0).toNatClampNeg (nI 30).toNatClampNeg))), (h5, .inl (E 0, 30, .inl gm)), (h6, .inl (E 0, 36, .inl ca)), (o0, .inr (0, [.int (nI N), .ref o1, .ref o2, .ref o3, .ref o4, .ref o5, .ref o6])), (o1, .inl (E 0, 15, .inl om)), (o2, .inl (E 0, 15, .inl oa)), (o3, .inl (E 0, 30, .inl ov)), (o4, .inl (E 0, 30, .inl os)), (o5, .inl (E 0, 30, .inl og)), (o6, .inl (E 0, 36, .inl oc))] H := hP
  have hD : va_D A [(h0, .inr (0, [.int (nI N), .ref h1, .ref h2, .ref h3, .ref h4, .ref h5, .ref h6])), (h1, .inl (E 0, 15, .inl (va_cpy om hm (nI 0).toNatClampNeg (nI 0).toNatClampNeg (nI 15).toNatClampNeg))), (h2, .inl (E 0, 15, .inl (va_cpy oa aw (nI 0).toNatClampNeg (nI 0).toNatClampNeg (nI 15).toNatClampNeg))), (h3, .inl (E 0, 30, .inl (va_cpy ov rv (nI 0).toNatClampNeg (nI 0).toNatClampNeg (nI 30).toNatClampNeg))), (h4, .inl (E 0, 30, .inl (va_cpy os sd (nI 0).toNatClampNeg (nI 0).toNatClampNeg (nI 30).toNatClampNeg))), (h5, .inl (E 0, 30, .inl gm)), (h6, .inl (E 0, 36, .inl ca)), (o0, .inr (0, [.int (nI N), .ref o1, .ref o2, .ref o3, .ref o4, .ref o5, .ref o6])), (o1, .inl (E 0, 15, .inl om)), (o2, .inl (E 0, 15, .inl oa)), (o3, .inl (E 0, 30, .inl ov)), (o4, .inl (E 0, 30, .inl os)), (o5, .inl (E 0, 30, .inl og)), (o6, .inl (E 0, 36, .inl oc))] := hD
  refine lv_aload_n hx hb dX1_become_80 rfl (lv_at hl 1 rfl) ?_
  refine va_get (D := D) (ci := 0) (v := .ref o5) (C := RX1) (T := TX1) (N := 7) hx hb hts (by decide +kernel) hown hK.1 hP 7 rfl rfl 5 (by decide) (hts (.fieldLink RX1 24 "HomeRounds$Plan" "games" "[I") (by decide +kernel)) (fun _ h9 => h9) rfl dX1_become_81 ?_
  refine lv_iconst (v := nI 0) hx hb dX1_become_84 (by rfl) ?_
  refine lv_aload_n hx hb dX1_become_85 rfl (lv_at hl 0 rfl) ?_
  refine va_get (D := D) (ci := 0) (v := .ref h5) (C := RX1) (T := TX1) (N := 7) hx hb hts (by decide +kernel) hown hK.1 hP 0 rfl rfl 5 (by decide) (hts (.fieldLink RX1 24 "HomeRounds$Plan" "games" "[I") (by decide +kernel)) (fun _ h9 => h9) rfl dX1_become_86 ?_
  refine lv_iconst (v := nI 0) hx hb dX1_become_89 (by rfl) ?_
  refine lv_aload_n hx hb dX1_become_90 rfl (lv_at hl 0 rfl) ?_
  refine va_get (D := D) (ci := 0) (v := .ref h5) (C := RX1) (T := TX1) (N := 7) hx hb hts (by decide +kernel) hown hK.1 hP 0 rfl rfl 5 (by decide) (hts (.fieldLink RX1 24 "HomeRounds$Plan" "games" "[I") (by decide +kernel)) (fun _ h9 => h9) rfl dX1_become_91 ?_
  refine va_alen hx hb hK.1 hP 5 0 rfl rfl (v := nI 30) rfl dX1_become_94 ?_
  refine va_copyi hx hb (hml.trans hl.1.symm) hown (hts (.methodLink RX1 52 arraycopyName) (by decide +kernel)) (hts (.native arraycopyName) (by decide +kernel)) (hts (.static arraycopyName) (by decide +kernel)) (hts (.initialized "java/lang/System") (by decide +kernel)) hK.1 hP hD hS 12 5 0 0 rfl rfl rfl rfl rfl (by decide +kernel) (by decide +kernel) (by decide +kernel) (by decide +kernel) (by decide +kernel) (fun _ _ => rfl) (Nat.le_of_ble_eq_true rfl) (by decide) dX1_become_95 (fun H locs hP hD hS => ?_)
  have hP : va_P D vwCl [(h0, .inr (0, [.int (nI N), .ref h1, .ref h2, .ref h3, .ref h4, .ref h5, .ref h6])), (h1, .inl (E 0, 15, .inl (va_cpy om hm (nI 0).toNatClampNeg (nI 0).toNatClampNeg (nI 15).toNatClampNeg))), (h2, .inl (E 0, 15, .inl (va_cpy oa aw (nI 0).toNatClampNeg (nI 0).toNatClampNeg (nI 15).toNatClampNeg))), (h3, .inl (E 0, 30, .inl (va_cpy ov rv (nI 0).toNatClampNeg (nI 0).toNatClampNeg (nI 30).toNatClampNeg))), (h4, .inl (E 0, 30, .inl (va_cpy os sd (nI 0).toNatClampNeg (nI 0).toNatClampNeg (nI 30).toNatClampNeg))), (h5, .inl (E 0, 30, .inl (va_cpy og gm (nI 0).toNatClampNeg (nI 0).toNatClampNeg (nI 30).toNatClampNeg))), (h6, .inl (E 0, 36, .inl ca)), (o0, .inr (0, [.int (nI N), .ref o1, .ref o2, .ref o3, .ref o4, .ref o5, .ref o6])), (o1, .inl (E 0, 15, .inl om)), (o2, .inl (E 0, 15, .inl oa)), (o3, .inl (E 0, 30, .inl ov)), (o4, .inl (E 0, 30, .inl os)), (o5, .inl (E 0, 30, .inl og)), (o6, .inl (E 0, 36, .inl oc))] H := hP
  have hD : va_D A [(h0, .inr (0, [.int (nI N), .ref h1, .ref h2, .ref h3, .ref h4, .ref h5, .ref h6])), (h1, .inl (E 0, 15, .inl (va_cpy om hm (nI 0).toNatClampNeg (nI 0).toNatClampNeg (nI 15).toNatClampNeg))), (h2, .inl (E 0, 15, .inl (va_cpy oa aw (nI 0).toNatClampNeg (nI 0).toNatClampNeg (nI 15).toNatClampNeg))), (h3, .inl (E 0, 30, .inl (va_cpy ov rv (nI 0).toNatClampNeg (nI 0).toNatClampNeg (nI 30).toNatClampNeg))), (h4, .inl (E 0, 30, .inl (va_cpy os sd (nI 0).toNatClampNeg (nI 0).toNatClampNeg (nI 30).toNatClampNeg))), (h5, .inl (E 0, 30, .inl (va_cpy og gm (nI 0).toNatClampNeg (nI 0).toNatClampNeg (nI 30).toNatClampNeg))), (h6, .inl (E 0, 36, .inl ca)), (o0, .inr (0, [.int (nI N), .ref o1, .ref o2, .ref o3, .ref o4, .ref o5, .ref o6])), (o1, .inl (E 0, 15, .inl om)), (o2, .inl (E 0, 15, .inl oa)), (o3, .inl (E 0, 30, .inl ov)), (o4, .inl (E 0, 30, .inl os)), (o5, .inl (E 0, 30, .inl og)), (o6, .inl (E 0, 36, .inl oc))] := hD
  subst hQ; subst hAe
  exact W.vret hx hb hr (fun tz htz hWz => ⟨⟨((va_cpy om hm (nI 0).toNatClampNeg (nI 0).toNatClampNeg (nI 15).toNatClampNeg), (va_cpy oa aw (nI 0).toNatClampNeg (nI 0).toNatClampNeg (nI 15).toNatClampNeg), (va_cpy ov rv (nI 0).toNatClampNeg (nI 0).toNatClampNeg (nI 30).toNatClampNeg), (va_cpy os sd (nI 0).toNatClampNeg (nI 0).toNatClampNeg (nI 30).toNatClampNeg), (va_cpy og gm (nI 0).toNatClampNeg (nI 0).toNatClampNeg (nI 30).toNatClampNeg)), rfl, zm_pl_copy hpo (fun j hj => zn_cpy (by omega) hj) (fun j hj => zn_cpy (by omega) hj) (fun j hj => zn_cpy (by omega) hj) (fun j hj => zn_cpy (by omega) hj) (fun j hj => zn_cpy (by omega) hj), by rw [htz]; exact hP, hD⟩, hS.F htz⟩) hS.2.2 dX1_become_98

set_option maxHeartbeats 4000000 in
set_option maxRecDepth 100000 in
theorem c_X1_otherOf (l : Launch) (D : va_G) (E : Nat → ClassId) (h0 : Nat) (h1 : Nat) (h2 : Nat) (h3 : Nat) (h4 : Nat) (h5 : Nat) (h6 : Nat) (N : Nat) (hm : Nat → Int32) (aw : Nat → Int32) (rv : Nat → Int32) (sd : Nat → Int32) (gm : Nat → Int32) (ca : Nat → Int32) (G : Nat → Nat → Nat) (P : Nat → Nat → Nat) (t : Nat) (hpl : zm_pl N G P hm aw rv sd gm) (ht : t < N) : Met l yX1_otherOf wsX1_otherOf ({ frames := 3, cells := 0, slots := 0, locals := 67 }) (zr_P D E [.ref h0, .int (nI t)] [(h0, .inr (0, [.int (nI N), .ref h1, .ref h2, .ref h3, .ref h4, .ref h5, .ref h6])), (h1, .inl (E 0, 15, .inl hm)), (h2, .inl (E 0, 15, .inl aw)), (h3, .inl (E 0, 30, .inl rv)), (h4, .inl (E 0, 30, .inl sd)), (h5, .inl (E 0, 30, .inl gm)), (h6, .inl (E 0, 36, .inl ca))]) (zr_Qi (fun zv => zv = zm_oth N P t)) 0 0 (fun _ => False) := by
  refine Met.ofW (cc := cX1_otherOf) (maxL := 5) (ret := (some .int)) (by decide) rfl ?_
  intro p e s m args below meth c s₁ Bz hml hv
  obtain ⟨rfl, hP, hK⟩ := hv
  have hx := Bz.exec
  have hb := Bz.bytes
  have hr := Bz.returns
  have hts := atoms_spec (ws := wsX1_otherOf) Bz.pre
  have hown : s.vm.findClass RX1 = some m.cls := findClass_of_methodNamed Bz.named
  have hlocks := Bz.notSynchronized
  have hP : va_P D vwCl [(h0, .inr (0, [.int (nI N), .ref h1, .ref h2, .ref h3, .ref h4, .ref h5, .ref h6])), (h1, .inl (E 0, 15, .inl hm)), (h2, .inl (E 0, 15, .inl aw)), (h3, .inl (E 0, 30, .inl rv)), (h4, .inl (E 0, 30, .inl sd)), (h5, .inl (E 0, 30, .inl gm)), (h6, .inl (E 0, 36, .inl ca))] s.heap := hP
  have hS : va_S (fun _ : Nat => False) s.heap s.heap [] := va_S.rf
  have hl := lv_entry ([.ref h0, .int (nI t)]) (n := 5) (Nat.le_of_ble_eq_true rfl)
  rw [lg_entry_eq]
  generalize (lg_sl ([.ref h0, .int (nI t)]) ++ List.replicate (5 - (lg_sl ([.ref h0, .int (nI t)])).length) Slot.unset).toArray = ls at hl ⊢
  have hl : lv_has ls 5 [(0, .ref h0), (1, .int (nI t))] := hl
  refine zr_nQ (fun Q hQ => ?_)
  have hN := hpl.1.1
  refine lv_iconst (v := nI 1) hx hb dX1_otherOf_0 (by rfl) ?_
  refine lv_aload_n hx hb dX1_otherOf_1 rfl (lv_at hl 0 rfl) ?_
  refine va_get (D := D) (ci := 0) (v := .int (nI N)) (C := RX1) (T := TX1) (N := 7) hx hb hts (by decide +kernel) hown hK.1 hP 0 rfl rfl 0 (by decide) (hts (.fieldLink RX1 30 "HomeRounds$Plan" "n" "I") (by decide +kernel)) (fun _ h9 => h9) rfl dX1_otherOf_2 ?_
  refine lv_iconst (v := nI 1) hx hb dX1_otherOf_5 (by rfl) ?_
  refine lv_isub hx hb dX1_otherOf_6 ?_
  refine zr_ti (y := nI (N - 1)) (pk_sub (by omega)) ?_
  refine lv_ishl hx hb dX1_otherOf_7 ?_
  refine lv_iconst (v := nI 1) hx hb dX1_otherOf_8 (by rfl) ?_
  refine lv_isub hx hb dX1_otherOf_9 ?_
  refine zr_ti (y := zm_all N) (rfl) ?_
  refine lv_istore_n (lv' := [(2, .int (zm_all N)), (0, .ref h0), (1, .int (nI t))]) hx hb dX1_otherOf_10 rfl hl (by decide) rfl (fun ls hl => ?_)
  refine lv_iload_n hx hb dX1_otherOf_11 rfl (lv_at hl 0 rfl) ?_
  refine lv_aload_n hx hb dX1_otherOf_12 rfl (lv_at hl 1 rfl) ?_
  refine lv_iload_n hx hb dX1_otherOf_13 rfl (lv_at hl 2 rfl) ?_
  refine zr_ci hP hS (va_runV (As := [.int (nI t)]) (rest := [.int (zm_all N)]) ⟨hx, hb, hml, hown, hts⟩ (c_X1_patternOf l D E h0 h1 h2 h3 h4 h5 h6 N hm aw rv sd gm ca G P t (hpl) (by omega)) (cwV 1 hts gX1_otherOf_X1_patternOf rfl rfl rfl (by decide +kernel) ⟨Nat.le_of_ble_eq_true rfl, Nat.le_of_ble_eq_true rfl⟩) (zr_V hK (hP.sub (ws' := [(h0, .inr (0, [.int (nI N), .ref h1, .ref h2, .ref h3, .ref h4, .ref h5, .ref h6])), (h1, .inl (E 0, 15, .inl hm)), (h2, .inl (E 0, 15, .inl aw)), (h3, .inl (E 0, 30, .inl rv)), (h4, .inl (E 0, 30, .inl sd)), (h5, .inl (E 0, 30, .inl gm)), (h6, .inl (E 0, 36, .inl ca))]) [0, 1, 2, 3, 4, 5, 6] rfl) (ci := 0) (q0 := 0) rfl rfl) rfl rfl hl.1 rfl (lv_room (Nat.le_of_ble_eq_true rfl)) dX1_otherOf_14 ⟨Nat.zero_le _, Nat.zero_le _⟩) (fun r_1 H locs hw_2 hP hS => ?_)
  subst hw_2
  refine lv_ixor hx hb dX1_otherOf_17 ?_
  refine zr_ti (y := zm_all N - zm_pat P t (N - 1)) (zm_want hN) ?_
  refine lv_istore_n (lv' := [(3, .int (zm_all N - zm_pat P t (N - 1))), (2, .int (zm_all N)), (0, .ref h0), (1, .int (nI t))]) hx hb dX1_otherOf_18 rfl hl (by decide) rfl (fun ls hl => ?_)
  refine lv_iconst (v := nI 0) hx hb dX1_otherOf_19 (by rfl) ?_
  refine lv_istore (lv' := [(4, .int (nI 0)), (3, .int (zm_all N - zm_pat P t (N - 1))), (2, .int (zm_all N)), (0, .ref h0), (1, .int (nI t))]) hx hb dX1_otherOf_20 hl (by decide) rfl (fun ls hl => ?_)
  suffices KL22 : ∀ (kz : Nat) (i : Nat) (H : Heap) (locs : List Loc) (ls : Array Slot), (N - i) < kz → (zm_oth N P t = zm_findI (fun i => zm_pat P i (N - 1)) (zm_all N - zm_pat P t (N - 1)) (N - i) i) → (i ≤ N) → va_P D vwCl [(h0, .inr (0, [.int (nI N), .ref h1, .ref h2, .ref h3, .ref h4, .ref h5, .ref h6])), (h1, .inl (E 0, 15, .inl hm)), (h2, .inl (E 0, 15, .inl aw)), (h3, .inl (E 0, 30, .inl rv)), (h4, .inl (E 0, 30, .inl sd)), (h5, .inl (E 0, 30, .inl gm)), (h6, .inl (E 0, 36, .inl ca))] H → va_S (fun _ : Nat => False) s.heap H locs → lv_has ls 5 [(0, .ref h0), (3, .int (zm_all N - zm_pat P t (N - 1))), (4, .int (nI i))] → W p l e (headSpec wsX1_otherOf ({ frames := 3, cells := 0, slots := 0, locals := 67 })).room s m ([.ref h0, .int (nI t)] : List Value).toArray below meth c H locs 0 0 Q (F0 m 22 ls []) from
    KL22 _ 0 _ _ ls (Nat.lt_succ_self _) (rfl) (by omega) hP hS (lv_sub hl [3, 1, 0] rfl)
  clear hP hS hl
  intro kz
  induction kz with
  | zero => intro i H locs ls hkz; exact absurd hkz (Nat.not_lt_zero _)
  | succ kz ih22 =>
    intro i H locs ls hkz hq hi hP hS hl
    refine lv_iload hx hb dX1_otherOf_22 (lv_at hl 2 rfl) ?_
    refine lv_aload_n hx hb dX1_otherOf_24 rfl (lv_at hl 0 rfl) ?_
    refine va_get (D := D) (ci := 0) (v := .int (nI N)) (C := RX1) (T := TX1) (N := 7) hx hb hts (by decide +kernel) hown hK.1 hP 0 rfl rfl 0 (by decide) (hts (.fieldLink RX1 30 "HomeRounds$Plan" "n" "I") (by decide +kernel)) (fun _ h9 => h9) rfl dX1_otherOf_25 ?_
    refine lv_icmp_ge (tgt := 50) hx hb dX1_otherOf_28 (by decide) (fun cn_3 => ?_) (fun cn_3 => ?_)
    · skip
      have cn_3 : N ≤ i := (nI_leI (a := N) (b := i) (by omega) (by omega)).mp cn_3
      have hie : i = N := by omega
      refine lv_bipush (v := (-5)) hx hb dX1_otherOf_50 (by rfl) ?_
      subst hQ
      exact W.iret (v := (-5)) hx hb hr (fun tz htz hWz => ⟨⟨(-5), (), rfl, by rw [hq, hie, Nat.sub_self]; rfl, trivial⟩, hS.F htz⟩) hS.2.2 dX1_otherOf_52
    · skip
      have cn_3 : ¬ (N ≤ i) := fun hz => cn_3 ((nI_leI (a := N) (b := i) (by omega) (by omega)).mpr hz)
      refine lv_aload_n hx hb dX1_otherOf_31 rfl (lv_at hl 0 rfl) ?_
      refine lv_iload hx hb dX1_otherOf_32 (lv_at hl 2 rfl) ?_
      refine zr_ci hP hS (va_runV (As := [.int (nI i)]) (rest := []) ⟨hx, hb, hml, hown, hts⟩ (c_X1_patternOf l D E h0 h1 h2 h3 h4 h5 h6 N hm aw rv sd gm ca G P i (hpl) (by omega)) (cwV 1 hts gX1_otherOf_X1_patternOf rfl rfl rfl (by decide +kernel) ⟨Nat.le_of_ble_eq_true rfl, Nat.le_of_ble_eq_true rfl⟩) (zr_V hK (hP.sub (ws' := [(h0, .inr (0, [.int (nI N), .ref h1, .ref h2, .ref h3, .ref h4, .ref h5, .ref h6])), (h1, .inl (E 0, 15, .inl hm)), (h2, .inl (E 0, 15, .inl aw)), (h3, .inl (E 0, 30, .inl rv)), (h4, .inl (E 0, 30, .inl sd)), (h5, .inl (E 0, 30, .inl gm)), (h6, .inl (E 0, 36, .inl ca))]) [0, 1, 2, 3, 4, 5, 6] rfl) (ci := 0) (q0 := 0) rfl rfl) rfl rfl hl.1 rfl (lv_room (Nat.le_of_ble_eq_true rfl)) dX1_otherOf_34 ⟨Nat.zero_le _, Nat.zero_le _⟩) (fun r_4 H locs hw_5 hP hS => ?_)
      subst hw_5
      refine lv_iload_n hx hb dX1_otherOf_37 rfl (lv_at hl 1 rfl) ?_
      refine lv_icmp_ne (tgt := 44) hx hb dX1_otherOf_38 (by decide) (fun cn_6 => ?_) (fun cn_6 => ?_)
      · skip
        have hbr := cn_6
        refine lv_iinc (v := nI (i + 1)) (lv' := [(4, .int (nI (i + 1))), (0, .ref h0), (3, .int (zm_all N - zm_pat P t (N - 1)))]) hx hb dX1_otherOf_44 hl (k := 2) rfl (nI_add _ _) (by decide) rfl (fun ls hl => ?_)
        refine lv_goto (tgt := 22) hx hb dX1_otherOf_47 (by decide) ?_
        have hl : lv_has ls 5 [(0, .ref h0), (3, .int (zm_all N - zm_pat P t (N - 1))), (4, .int (nI (i + 1)))] := lv_sub hl [1, 2, 0] rfl
        exact ih22 (i + 1) H locs ls (by omega) (by rw [hq, show N - i = (N - (i + 1)) + 1 from by omega, zm_findI, if_neg hbr]) (by omega) hP hS hl
      · skip
        have hbr := cn_6
        refine lv_iload hx hb dX1_otherOf_41 (lv_at hl 2 rfl) ?_
        subst hQ
        exact W.iret (v := nI i) hx hb hr (fun tz htz hWz => ⟨⟨nI i, (), rfl, by rw [hq, show N - i = (N - (i + 1)) + 1 from by omega, zm_findI, if_pos hbr], trivial⟩, hS.F htz⟩) hS.2.2 dX1_otherOf_43

