set_option maxHeartbeats 4000000 in
set_option maxRecDepth 100000 in
theorem c_X8_step (l : Launch) (D : va_G) (E : Nat → ClassId) (m0 : Nat) (w0 : Nat) (w1 : Nat) (w2 : Nat) (w3 : Nat) (w4 : Nat) (w5 : Nat) (w6 : Nat) (w7 : Nat) (w8 : Nat) (w9 : Nat) (ik : Int32) (tx : Nat) (he : Int32) (fa : Int32) (cl : Nat) (wv : Nat → Int32) (N : Nat) (G : Nat → Nat → Nat) (P : Nat → Nat → Nat) (X : Nat → Nat) (Y : Nat → Nat) (B : Nat → Nat → Nat) (R : Nat → Nat) (kd : Nat) (sn : Nat) (sT : Nat → Nat) (sR : Nat → Nat) (sH : Nat → Nat) (en : Nat) (eW : Nat → Nat) (eN : Nat → Nat) (bn : Nat) (bT : Nat → Nat) (bN : Nat → Nat) (v : Int32) (w : Int32) (hva : zv_all N G P X Y B R kd sn sT sR sH en eW eN bn bT bN wv) (hzs : zs_all N kd sn sT sR sH en eW eN bn bT bN) : Met l yX8_step wsX8_step ({ frames := 8, cells := 0, slots := 0, locals := 185 }) (zw_P D E [.ref m0, .int v, .int w] [(m0, .inr (6, [.ref w0, .ref w1, .ref w2, .int ik, .ref w3, .int (nI tx), .int he, .int fa, .ref w4, .ref w5, .int (nI cl), .ref w6, .ref w7, .ref w8, .ref w9])), (w0, .inl (E 0, 137, .inl wv))]) (zw_Qi D [(m0, .inr (6, [.ref w0, .ref w1, .ref w2, .int ik, .ref w3, .int (nI tx), .int he, .int fa, .ref w4, .ref w5, .int (nI cl), .ref w6, .ref w7, .ref w8, .ref w9])), (w0, .inl (E 0, 137, .inl wv))] (fun zv (u : (Nat → Int32)) => zv = cond (zi 3 v && zi 51 w) (nI (zm_steps (zm_deed (zq v)) R B X Y N (zq w) G P).1) (-2) ∧ zv_all N (cond (zi 3 v && zi 51 w) (zm_steps (zm_deed (zq v)) R B X Y N (zq w) G P).2.1 G) (cond (zi 3 v && zi 51 w) (zm_steps (zm_deed (zq v)) R B X Y N (zq w) G P).2.2 P) X Y B R kd sn sT sR sH en eW eN bn bT bN u) (fun (u : (Nat → Int32)) => [(m0, .inr (6, [.ref w0, .ref w1, .ref w2, .int ik, .ref w3, .int (nI tx), .int he, .int fa, .ref w4, .ref w5, .int (nI cl), .ref w6, .ref w7, .ref w8, .ref w9])), (w0, .inl (E 0, 137, .inl u))])) 0 0 (zw_A [(m0, .inr (6, [.ref w0, .ref w1, .ref w2, .int ik, .ref w3, .int (nI tx), .int he, .int fa, .ref w4, .ref w5, .int (nI cl), .ref w6, .ref w7, .ref w8, .ref w9])), (w0, .inl (E 0, 137, .inl wv))]) := by
  refine Met.ofW (cc := cX8_step) (maxL := 4) (ret := (some .int)) (by decide) rfl ?_
  intro p e s m args below meth c s₁ Bz hml hv
  obtain ⟨rfl, hP, hK, hD0⟩ := hv
  have hx := Bz.exec
  have hb := Bz.bytes
  have hr := Bz.returns
  have hts := atoms_spec (ws := wsX8_step) Bz.pre
  have hown : s.vm.findClass RX8 = some m.cls := findClass_of_methodNamed Bz.named
  have hlocks := Bz.notSynchronized
  have hP : va_P D vwCl [(m0, .inr (6, [.ref w0, .ref w1, .ref w2, .int ik, .ref w3, .int (nI tx), .int he, .int fa, .ref w4, .ref w5, .int (nI cl), .ref w6, .ref w7, .ref w8, .ref w9])), (w0, .inl (E 0, 137, .inl wv))] s.heap := hP
  obtain ⟨A, hAe⟩ : ∃ A : Nat → Prop, A = zw_A [(m0, .inr (6, [.ref w0, .ref w1, .ref w2, .int ik, .ref w3, .int (nI tx), .int he, .int fa, .ref w4, .ref w5, .int (nI cl), .ref w6, .ref w7, .ref w8, .ref w9])), (w0, .inl (E 0, 137, .inl wv))] := ⟨_, rfl⟩
  have hD : va_D A [(m0, .inr (6, [.ref w0, .ref w1, .ref w2, .int ik, .ref w3, .int (nI tx), .int he, .int fa, .ref w4, .ref w5, .int (nI cl), .ref w6, .ref w7, .ref w8, .ref w9])), (w0, .inl (E 0, 137, .inl wv))] := hAe ▸ zw_own hD0
  have hS : va_S A s.heap s.heap [] := va_S.rf
  have hl := lv_entry ([.ref m0, .int v, .int w]) (n := 4) (Nat.le_of_ble_eq_true rfl)
  rw [lg_entry_eq]
  generalize (lg_sl ([.ref m0, .int v, .int w]) ++ List.replicate (4 - (lg_sl ([.ref m0, .int v, .int w])).length) Slot.unset).toArray = ls at hl ⊢
  have hl : lv_has ls 4 [(0, .ref m0), (1, .int v), (2, .int w)] := hl
  refine zr_nQ (fun Q hQ => ?_)
  obtain ⟨hvg, hxy, hvb, hvr, hkv, hzc, hze, hzb, hn6, hn8, hm8⟩ := id hva
  obtain ⟨hkd, hse, hev, hbo⟩ := id hzs
  have hok := hvg.1
  have hN := hok.1
  have hvn := hvg.2.1
  have hgr := zm_gr_of hxy
  have hs0 := hse.1
  have hs1 := hev.1
  have hs2 := hbo.1
  refine lv_iload_n hx hb dX8_step_0 rfl (lv_at hl 1 rfl) ?_
  refine lv_iconst (v := nI 0) hx hb dX8_step_1 (by rfl) ?_
  refine lv_iconst (v := nI 2) hx hb dX8_step_2 (by rfl) ?_
  refine zr_ci hP hS (va_runS (As := [.int v, .int (nI 0), .int (nI 2)]) (rest := []) ⟨hx, hb, hml, hown, hts⟩ (c_X8_isIn l D E v (nI 0) (nI 2) ) (va_cwS 3 hts gX8_step_X8_isIn rfl rfl rfl (by decide +kernel) ⟨Nat.le_of_ble_eq_true rfl, Nat.le_of_ble_eq_true rfl⟩) (zr_S hK (hP.sub (ws' := []) [] rfl)) rfl rfl hl.1 rfl (lv_room (Nat.le_of_ble_eq_true rfl)) dX8_step_3 ⟨Nat.zero_le _, Nat.zero_le _⟩) (fun r_1 H locs hw_2 hP hS => ?_)
  rcases hw_2 with ⟨rfl, hw_2⟩ | ⟨rfl, hw_2⟩
  · skip
    obtain ⟨t, ht, v_e⟩ := zn_in3 (n := 3) (by omega) (by omega) hw_2.1 hw_2.2
    have e1 : zi 3 v = true := v_e ▸ zi_t ht (by omega)
    have q1 : zq v = t := v_e ▸ zq_t (by omega)
    rw [v_e] at hl
    refine zr_ti (y := nI 1) rfl ?_
    refine lv_if_eq (tgt := 19) hx hb dX8_step_6 (by decide) (fun cn_3 => ?_) (fun cn_3 => ?_)
    · skip
      exact absurd cn_3 (by decide)
    · skip
      refine lv_iload_n hx hb dX8_step_9 rfl (lv_at hl 2 rfl) ?_
      refine lv_iconst (v := nI 0) hx hb dX8_step_10 (by rfl) ?_
      refine lv_bipush (v := nI 50) hx hb dX8_step_11 (by rfl) ?_
      refine zr_ci hP hS (va_runS (As := [.int w, .int (nI 0), .int (nI 50)]) (rest := []) ⟨hx, hb, hml, hown, hts⟩ (c_X8_isIn l D E w (nI 0) (nI 50) ) (va_cwS 3 hts gX8_step_X8_isIn rfl rfl rfl (by decide +kernel) ⟨Nat.le_of_ble_eq_true rfl, Nat.le_of_ble_eq_true rfl⟩) (zr_S hK (hP.sub (ws' := []) [] rfl)) rfl rfl hl.1 rfl (lv_room (Nat.le_of_ble_eq_true rfl)) dX8_step_13 ⟨Nat.zero_le _, Nat.zero_le _⟩) (fun r_4 H locs hw_5 hP hS => ?_)
      rcases hw_5 with ⟨rfl, hw_5⟩ | ⟨rfl, hw_5⟩
      · skip
        obtain ⟨u, hu, w_e⟩ := zn_in3 (n := 51) (by omega) (by omega) hw_5.1 hw_5.2
        have e2 : zi 51 w = true := w_e ▸ zi_t hu (by omega)
        have q2 : zq w = u := w_e ▸ zq_t (by omega)
        rw [w_e] at hl
        refine zr_ti (y := nI 1) rfl ?_
        refine lv_if_ne (tgt := 22) hx hb dX8_step_16 (by decide) (fun cn_6 => ?_) (fun cn_6 => ?_)
        · skip
          have ht3 : t = 0 ∨ t = 1 ∨ t = 2 := by omega
          rcases ht3 with htk | htk | htk
          · skip
            have hdd : zm_deed t = 1 := by rw [htk]; rfl
            rw [htk] at hl
            refine lv_iconst (v := nI 0) hx hb dX8_step_22 (by rfl) ?_
            refine lv_istore_n (lv' := [(3, .int (nI 0)), (0, .ref m0), (1, .int (nI 0)), (2, .int (nI u))]) hx hb dX8_step_23 rfl hl (by decide) rfl (fun ls hl => ?_)
            suffices KL24 : ∀ (kz : Nat) (i : Nat) (Gi : Nat → Nat → Nat) (Pi : Nat → Nat → Nat) (wvi : Nat → Int32) (H : Heap) (locs : List Loc) (ls : Array Slot), (u - i) < kz → (zm_steps 1 R B X Y N u G P = ((zm_steps 1 R B X Y N (u - i) Gi Pi).1 + i, (zm_steps 1 R B X Y N (u - i) Gi Pi).2)) → (zv_all N Gi Pi X Y B R kd sn sT sR sH en eW eN bn bT bN wvi) → (i ≤ u) → va_P D vwCl [(m0, .inr (6, [.ref w0, .ref w1, .ref w2, .int ik, .ref w3, .int (nI tx), .int he, .int fa, .ref w4, .ref w5, .int (nI cl), .ref w6, .ref w7, .ref w8, .ref w9])), (w0, .inl (E 0, 137, .inl wvi))] H → va_D A [(m0, .inr (6, [.ref w0, .ref w1, .ref w2, .int ik, .ref w3, .int (nI tx), .int he, .int fa, .ref w4, .ref w5, .int (nI cl), .ref w6, .ref w7, .ref w8, .ref w9])), (w0, .inl (E 0, 137, .inl wvi))] → va_S A s.heap H locs → lv_has ls 4 [(0, .ref m0), (1, .int (nI 0)), (2, .int (nI u)), (3, .int (nI i))] → W p l e (headSpec wsX8_step ({ frames := 8, cells := 0, slots := 0, locals := 185 })).room s m ([.ref m0, .int v, .int w] : List Value).toArray below meth c H locs 0 0 Q (F0 m 24 ls []) from
              KL24 _ 0 G P wv _ _ ls (Nat.lt_succ_self _) (rfl) (hva) (by omega) hP hD hS (lv_sub hl [1, 2, 3, 0] rfl)
            clear hP hS hl hD
            intro kz
            induction kz with
            | zero => intro i Gi Pi wvi H locs ls hkz; exact absurd hkz (Nat.not_lt_zero _)
            | succ kz ih24 =>
              intro i Gi Pi wvi H locs ls hkz hI hai hi hP hD hS hl
              refine lv_iload_n hx hb dX8_step_24 rfl (lv_at hl 3 rfl) ?_
              refine lv_iload_n hx hb dX8_step_25 rfl (lv_at hl 2 rfl) ?_
              refine lv_icmp_ge (tgt := 43) hx hb dX8_step_26 (by decide) (fun cn_7 => ?_) (fun cn_7 => ?_)
              · skip
                have cn_7 : u ≤ i := (nI_leI (a := u) (b := i) (by omega) (by omega)).mp cn_7
                have hst := hI.trans (zk_s0 (by omega))
                have hpf := hai
                refine lv_iload_n hx hb dX8_step_43 rfl (lv_at hl 3 rfl) ?_
                subst hQ; subst hAe
                exact W.iret (v := nI i) hx hb hr (fun tz htz hWz => ⟨⟨nI i, wvi, rfl, ⟨by simp only [cond_true, Bool.and_true, Bool.true_and, e1, e2, q1, q2, hdd, hst, Nat.zero_add], by simp only [cond_true, Bool.and_true, Bool.true_and, e1, e2, q1, q2, hdd, hst]; exact hpf⟩, by rw [htz]; exact hP, hD⟩, hS.F htz⟩) hS.2.2 dX8_step_44
              · skip
                have cn_7 : ¬ (u ≤ i) := fun hz => cn_7 ((nI_leI (a := u) (b := i) (by omega) (by omega)).mpr hz)
                refine lv_aload_n hx hb dX8_step_29 rfl (lv_at hl 0 rfl) ?_
                refine lv_iload_n hx hb dX8_step_30 rfl (lv_at hl 1 rfl) ?_
                have hPc := hP.sub (ws' := [(m0, .inr (6, [.ref w0, .ref w1, .ref w2, .int ik, .ref w3, .int (nI tx), .int he, .int fa, .ref w4, .ref w5, .int (nI cl), .ref w6, .ref w7, .ref w8, .ref w9])), (w0, .inl (E 0, 137, .inl wvi))]) [0, 1] rfl
                have hDc := hD.sub (ws' := [(m0, .inr (6, [.ref w0, .ref w1, .ref w2, .int ik, .ref w3, .int (nI tx), .int he, .int fa, .ref w4, .ref w5, .int (nI cl), .ref w6, .ref w7, .ref w8, .ref w9])), (w0, .inl (E 0, 137, .inl wvi))]) [0, 1] (by decide +kernel) rfl
                have hAc := zw_AA (wc := [(m0, .inr (6, [.ref w0, .ref w1, .ref w2, .int ik, .ref w3, .int (nI tx), .int he, .int fa, .ref w4, .ref w5, .int (nI cl), .ref w6, .ref w7, .ref w8, .ref w9])), (w0, .inl (E 0, 137, .inl wvi))]) hD [0, 1] rfl
                refine zw_ci hAc hS (va_runV (As := [.int (nI 0)]) (rest := []) ⟨hx, hb, hml, hown, hts⟩ (c_X8_isStepped_0 l D E m0 w0 w1 w2 w3 w4 w5 w6 w7 w8 w9 ik tx he fa cl wvi N Gi Pi X Y B R (hai.1) (hai.2.1) (hai.2.2.1) (hai.2.2.2.1)) (cwV 1 hts gX8_step_X8_isStepped rfl rfl rfl (by decide +kernel) ⟨Nat.le_of_ble_eq_true rfl, Nat.le_of_ble_eq_true rfl⟩) (zw_V hK hPc hDc (ci := 6) (q0 := 0) rfl rfl) rfl rfl hl.1 rfl (lv_room (Nat.le_of_ble_eq_true rfl)) dX8_step_31 ⟨Nat.zero_le _, Nat.zero_le _⟩) (fun r_8 u_10 H locs hw_9 hP1 hD1 hk1 hS => ?_)
                obtain ⟨wvn_11, rfl⟩ : ∃ z, z = u_10 := ⟨_, rfl⟩
                try dsimp only at hw_9 hP1 hD1
                obtain ⟨hP, hD⟩ := zw_join (wr := []) (w1 := [(m0, .inr (6, [.ref w0, .ref w1, .ref w2, .int ik, .ref w3, .int (nI tx), .int he, .int fa, .ref w4, .ref w5, .int (nI cl), .ref w6, .ref w7, .ref w8, .ref w9])), (w0, .inl (E 0, 137, .inl wvn_11))]) (ws' := [(m0, .inr (6, [.ref w0, .ref w1, .ref w2, .int ik, .ref w3, .int (nI tx), .int he, .int fa, .ref w4, .ref w5, .int (nI cl), .ref w6, .ref w7, .ref w8, .ref w9])), (w0, .inl (E 0, 137, .inl wvn_11))]) hP hD [0, 1] [] [0, 1] rfl rfl (by decide +kernel) (by decide +kernel) hAc hk1 hP1 hD1 (by decide +kernel) rfl
                clear hP1 hD1 hk1 hPc hDc hAc
                have hstep := hw_9
                refine lv_if_eq (tgt := 43) hx hb dX8_step_34 (by decide) (fun cn_12 => ?_) (fun cn_12 => ?_)
                · skip
                  obtain ⟨hno, -, hpf⟩ := Or.resolve_right hstep (fun ⟨a, b, _, q, _⟩ => absurd (q.symm.trans cn_12) (by decide))
                  have hst := hI.trans (zk_s1 hno)
                  have hpf := zv_all_off hai hpf.1 hpf.2
                  refine lv_iload_n hx hb dX8_step_43 rfl (lv_at hl 3 rfl) ?_
                  subst hQ; subst hAe
                  exact W.iret (v := nI i) hx hb hr (fun tz htz hWz => ⟨⟨nI i, wvn_11, rfl, ⟨by simp only [cond_true, Bool.and_true, Bool.true_and, e1, e2, q1, q2, hdd, hst, Nat.zero_add], by simp only [cond_true, Bool.and_true, Bool.true_and, e1, e2, q1, q2, hdd, hst]; exact hpf⟩, by rw [htz]; exact hP, hD⟩, hS.F htz⟩) hS.2.2 dX8_step_44
                · skip
                  obtain ⟨a9, b9, hso, -, hpn⟩ := Or.resolve_left hstep (fun q => cn_12 q.2.1)
                  refine lv_iinc (v := nI (i + 1)) (lv' := [(3, .int (nI (i + 1))), (0, .ref m0), (1, .int (nI 0)), (2, .int (nI u))]) hx hb dX8_step_37 hl (k := 3) rfl (nI_add _ _) (by decide) rfl (fun ls hl => ?_)
                  refine lv_goto (tgt := 24) hx hb dX8_step_40 (by decide) ?_
                  have hl : lv_has ls 4 [(0, .ref m0), (1, .int (nI 0)), (2, .int (nI u)), (3, .int (nI (i + 1)))] := lv_sub hl [1, 2, 3, 0] rfl
                  exact ih24 (i + 1) (zm_opG 1 Gi a9 b9) (zm_opP 1 Pi a9 b9) wvn_11 H locs ls (by omega) (by rw [hI, show u - i = (u - (i + 1)) + 1 from by omega, zm_steps_s hso]; exact zk_st _ _ _) (zv_all_off hai hpn.1 hpn.2) (by omega) hP hD hS hl
          · skip
            have hdd : zm_deed t = 0 := by rw [htk]; rfl
            rw [htk] at hl
            refine lv_iconst (v := nI 0) hx hb dX8_step_22 (by rfl) ?_
            refine lv_istore_n (lv' := [(3, .int (nI 0)), (0, .ref m0), (1, .int (nI 1)), (2, .int (nI u))]) hx hb dX8_step_23 rfl hl (by decide) rfl (fun ls hl => ?_)
            suffices KL24 : ∀ (kz : Nat) (i : Nat) (Gi : Nat → Nat → Nat) (Pi : Nat → Nat → Nat) (wvi : Nat → Int32) (H : Heap) (locs : List Loc) (ls : Array Slot), (u - i) < kz → (zm_steps 0 R B X Y N u G P = ((zm_steps 0 R B X Y N (u - i) Gi Pi).1 + i, (zm_steps 0 R B X Y N (u - i) Gi Pi).2)) → (zv_all N Gi Pi X Y B R kd sn sT sR sH en eW eN bn bT bN wvi) → (i ≤ u) → va_P D vwCl [(m0, .inr (6, [.ref w0, .ref w1, .ref w2, .int ik, .ref w3, .int (nI tx), .int he, .int fa, .ref w4, .ref w5, .int (nI cl), .ref w6, .ref w7, .ref w8, .ref w9])), (w0, .inl (E 0, 137, .inl wvi))] H → va_D A [(m0, .inr (6, [.ref w0, .ref w1, .ref w2, .int ik, .ref w3, .int (nI tx), .int he, .int fa, .ref w4, .ref w5, .int (nI cl), .ref w6, .ref w7, .ref w8, .ref w9])), (w0, .inl (E 0, 137, .inl wvi))] → va_S A s.heap H locs → lv_has ls 4 [(0, .ref m0), (1, .int (nI 1)), (2, .int (nI u)), (3, .int (nI i))] → W p l e (headSpec wsX8_step ({ frames := 8, cells := 0, slots := 0, locals := 185 })).room s m ([.ref m0, .int v, .int w] : List Value).toArray below meth c H locs 0 0 Q (F0 m 24 ls []) from
              KL24 _ 0 G P wv _ _ ls (Nat.lt_succ_self _) (rfl) (hva) (by omega) hP hD hS (lv_sub hl [1, 2, 3, 0] rfl)
            clear hP hS hl hD
            intro kz
            induction kz with
            | zero => intro i Gi Pi wvi H locs ls hkz; exact absurd hkz (Nat.not_lt_zero _)
            | succ kz ih24 =>
              intro i Gi Pi wvi H locs ls hkz hI hai hi hP hD hS hl
              refine lv_iload_n hx hb dX8_step_24 rfl (lv_at hl 3 rfl) ?_
              refine lv_iload_n hx hb dX8_step_25 rfl (lv_at hl 2 rfl) ?_
              refine lv_icmp_ge (tgt := 43) hx hb dX8_step_26 (by decide) (fun cn_13 => ?_) (fun cn_13 => ?_)
              · skip
                have cn_13 : u ≤ i := (nI_leI (a := u) (b := i) (by omega) (by omega)).mp cn_13
                have hst := hI.trans (zk_s0 (by omega))
                have hpf := hai
                refine lv_iload_n hx hb dX8_step_43 rfl (lv_at hl 3 rfl) ?_
                subst hQ; subst hAe
                exact W.iret (v := nI i) hx hb hr (fun tz htz hWz => ⟨⟨nI i, wvi, rfl, ⟨by simp only [cond_true, Bool.and_true, Bool.true_and, e1, e2, q1, q2, hdd, hst, Nat.zero_add], by simp only [cond_true, Bool.and_true, Bool.true_and, e1, e2, q1, q2, hdd, hst]; exact hpf⟩, by rw [htz]; exact hP, hD⟩, hS.F htz⟩) hS.2.2 dX8_step_44
              · skip
                have cn_13 : ¬ (u ≤ i) := fun hz => cn_13 ((nI_leI (a := u) (b := i) (by omega) (by omega)).mpr hz)
                refine lv_aload_n hx hb dX8_step_29 rfl (lv_at hl 0 rfl) ?_
                refine lv_iload_n hx hb dX8_step_30 rfl (lv_at hl 1 rfl) ?_
                have hPc := hP.sub (ws' := [(m0, .inr (6, [.ref w0, .ref w1, .ref w2, .int ik, .ref w3, .int (nI tx), .int he, .int fa, .ref w4, .ref w5, .int (nI cl), .ref w6, .ref w7, .ref w8, .ref w9])), (w0, .inl (E 0, 137, .inl wvi))]) [0, 1] rfl
                have hDc := hD.sub (ws' := [(m0, .inr (6, [.ref w0, .ref w1, .ref w2, .int ik, .ref w3, .int (nI tx), .int he, .int fa, .ref w4, .ref w5, .int (nI cl), .ref w6, .ref w7, .ref w8, .ref w9])), (w0, .inl (E 0, 137, .inl wvi))]) [0, 1] (by decide +kernel) rfl
                have hAc := zw_AA (wc := [(m0, .inr (6, [.ref w0, .ref w1, .ref w2, .int ik, .ref w3, .int (nI tx), .int he, .int fa, .ref w4, .ref w5, .int (nI cl), .ref w6, .ref w7, .ref w8, .ref w9])), (w0, .inl (E 0, 137, .inl wvi))]) hD [0, 1] rfl
                refine zw_ci hAc hS (va_runV (As := [.int (nI 1)]) (rest := []) ⟨hx, hb, hml, hown, hts⟩ (c_X8_isStepped_1 l D E m0 w0 w1 w2 w3 w4 w5 w6 w7 w8 w9 ik tx he fa cl wvi N Gi Pi X Y B R (hai.1) (hai.2.1) (hai.2.2.1) (hai.2.2.2.1)) (cwV 1 hts gX8_step_X8_isStepped rfl rfl rfl (by decide +kernel) ⟨Nat.le_of_ble_eq_true rfl, Nat.le_of_ble_eq_true rfl⟩) (zw_V hK hPc hDc (ci := 6) (q0 := 0) rfl rfl) rfl rfl hl.1 rfl (lv_room (Nat.le_of_ble_eq_true rfl)) dX8_step_31 ⟨Nat.zero_le _, Nat.zero_le _⟩) (fun r_14 u_16 H locs hw_15 hP1 hD1 hk1 hS => ?_)
                obtain ⟨wvn_17, rfl⟩ : ∃ z, z = u_16 := ⟨_, rfl⟩
                try dsimp only at hw_15 hP1 hD1
                obtain ⟨hP, hD⟩ := zw_join (wr := []) (w1 := [(m0, .inr (6, [.ref w0, .ref w1, .ref w2, .int ik, .ref w3, .int (nI tx), .int he, .int fa, .ref w4, .ref w5, .int (nI cl), .ref w6, .ref w7, .ref w8, .ref w9])), (w0, .inl (E 0, 137, .inl wvn_17))]) (ws' := [(m0, .inr (6, [.ref w0, .ref w1, .ref w2, .int ik, .ref w3, .int (nI tx), .int he, .int fa, .ref w4, .ref w5, .int (nI cl), .ref w6, .ref w7, .ref w8, .ref w9])), (w0, .inl (E 0, 137, .inl wvn_17))]) hP hD [0, 1] [] [0, 1] rfl rfl (by decide +kernel) (by decide +kernel) hAc hk1 hP1 hD1 (by decide +kernel) rfl
                clear hP1 hD1 hk1 hPc hDc hAc
                have hstep := hw_15
                refine lv_if_eq (tgt := 43) hx hb dX8_step_34 (by decide) (fun cn_18 => ?_) (fun cn_18 => ?_)
                · skip
                  obtain ⟨hno, -, hpf⟩ := Or.resolve_right hstep (fun ⟨a, b, _, q, _⟩ => absurd (q.symm.trans cn_18) (by decide))
                  have hst := hI.trans (zk_s1 hno)
                  have hpf := zv_all_off hai hpf.1 hpf.2
                  refine lv_iload_n hx hb dX8_step_43 rfl (lv_at hl 3 rfl) ?_
                  subst hQ; subst hAe
                  exact W.iret (v := nI i) hx hb hr (fun tz htz hWz => ⟨⟨nI i, wvn_17, rfl, ⟨by simp only [cond_true, Bool.and_true, Bool.true_and, e1, e2, q1, q2, hdd, hst, Nat.zero_add], by simp only [cond_true, Bool.and_true, Bool.true_and, e1, e2, q1, q2, hdd, hst]; exact hpf⟩, by rw [htz]; exact hP, hD⟩, hS.F htz⟩) hS.2.2 dX8_step_44
                · skip
                  obtain ⟨a9, b9, hso, -, hpn⟩ := Or.resolve_left hstep (fun q => cn_18 q.2.1)
                  refine lv_iinc (v := nI (i + 1)) (lv' := [(3, .int (nI (i + 1))), (0, .ref m0), (1, .int (nI 1)), (2, .int (nI u))]) hx hb dX8_step_37 hl (k := 3) rfl (nI_add _ _) (by decide) rfl (fun ls hl => ?_)
                  refine lv_goto (tgt := 24) hx hb dX8_step_40 (by decide) ?_
                  have hl : lv_has ls 4 [(0, .ref m0), (1, .int (nI 1)), (2, .int (nI u)), (3, .int (nI (i + 1)))] := lv_sub hl [1, 2, 3, 0] rfl
                  exact ih24 (i + 1) (zm_opG 0 Gi a9 b9) (zm_opP 0 Pi a9 b9) wvn_17 H locs ls (by omega) (by rw [hI, show u - i = (u - (i + 1)) + 1 from by omega, zm_steps_s hso]; exact zk_st _ _ _) (zv_all_off hai hpn.1 hpn.2) (by omega) hP hD hS hl
          · skip
            have hdd : zm_deed t = 2 := by rw [htk]; rfl
            rw [htk] at hl
            refine lv_iconst (v := nI 0) hx hb dX8_step_22 (by rfl) ?_
            refine lv_istore_n (lv' := [(3, .int (nI 0)), (0, .ref m0), (1, .int (nI 2)), (2, .int (nI u))]) hx hb dX8_step_23 rfl hl (by decide) rfl (fun ls hl => ?_)
            suffices KL24 : ∀ (kz : Nat) (i : Nat) (Gi : Nat → Nat → Nat) (Pi : Nat → Nat → Nat) (wvi : Nat → Int32) (H : Heap) (locs : List Loc) (ls : Array Slot), (u - i) < kz → (zm_steps 2 R B X Y N u G P = ((zm_steps 2 R B X Y N (u - i) Gi Pi).1 + i, (zm_steps 2 R B X Y N (u - i) Gi Pi).2)) → (zv_all N Gi Pi X Y B R kd sn sT sR sH en eW eN bn bT bN wvi) → (i ≤ u) → va_P D vwCl [(m0, .inr (6, [.ref w0, .ref w1, .ref w2, .int ik, .ref w3, .int (nI tx), .int he, .int fa, .ref w4, .ref w5, .int (nI cl), .ref w6, .ref w7, .ref w8, .ref w9])), (w0, .inl (E 0, 137, .inl wvi))] H → va_D A [(m0, .inr (6, [.ref w0, .ref w1, .ref w2, .int ik, .ref w3, .int (nI tx), .int he, .int fa, .ref w4, .ref w5, .int (nI cl), .ref w6, .ref w7, .ref w8, .ref w9])), (w0, .inl (E 0, 137, .inl wvi))] → va_S A s.heap H locs → lv_has ls 4 [(0, .ref m0), (1, .int (nI 2)), (2, .int (nI u)), (3, .int (nI i))] → W p l e (headSpec wsX8_step ({ frames := 8, cells := 0, slots := 0, locals := 185 })).room s m ([.ref m0, .int v, .int w] : List Value).toArray below meth c H locs 0 0 Q (F0 m 24 ls []) from
              KL24 _ 0 G P wv _ _ ls (Nat.lt_succ_self _) (rfl) (hva) (by omega) hP hD hS (lv_sub hl [1, 2, 3, 0] rfl)
            clear hP hS hl hD
            intro kz
            induction kz with
            | zero => intro i Gi Pi wvi H locs ls hkz; exact absurd hkz (Nat.not_lt_zero _)
            | succ kz ih24 =>
              intro i Gi Pi wvi H locs ls hkz hI hai hi hP hD hS hl
              refine lv_iload_n hx hb dX8_step_24 rfl (lv_at hl 3 rfl) ?_
              refine lv_iload_n hx hb dX8_step_25 rfl (lv_at hl 2 rfl) ?_
              refine lv_icmp_ge (tgt := 43) hx hb dX8_step_26 (by decide) (fun cn_19 => ?_) (fun cn_19 => ?_)
              · skip
                have cn_19 : u ≤ i := (nI_leI (a := u) (b := i) (by omega) (by omega)).mp cn_19
                have hst := hI.trans (zk_s0 (by omega))
                have hpf := hai
                refine lv_iload_n hx hb dX8_step_43 rfl (lv_at hl 3 rfl) ?_
                subst hQ; subst hAe
                exact W.iret (v := nI i) hx hb hr (fun tz htz hWz => ⟨⟨nI i, wvi, rfl, ⟨by simp only [cond_true, Bool.and_true, Bool.true_and, e1, e2, q1, q2, hdd, hst, Nat.zero_add], by simp only [cond_true, Bool.and_true, Bool.true_and, e1, e2, q1, q2, hdd, hst]; exact hpf⟩, by rw [htz]; exact hP, hD⟩, hS.F htz⟩) hS.2.2 dX8_step_44
              · skip
                have cn_19 : ¬ (u ≤ i) := fun hz => cn_19 ((nI_leI (a := u) (b := i) (by omega) (by omega)).mpr hz)
                refine lv_aload_n hx hb dX8_step_29 rfl (lv_at hl 0 rfl) ?_
                refine lv_iload_n hx hb dX8_step_30 rfl (lv_at hl 1 rfl) ?_
                have hPc := hP.sub (ws' := [(m0, .inr (6, [.ref w0, .ref w1, .ref w2, .int ik, .ref w3, .int (nI tx), .int he, .int fa, .ref w4, .ref w5, .int (nI cl), .ref w6, .ref w7, .ref w8, .ref w9])), (w0, .inl (E 0, 137, .inl wvi))]) [0, 1] rfl
                have hDc := hD.sub (ws' := [(m0, .inr (6, [.ref w0, .ref w1, .ref w2, .int ik, .ref w3, .int (nI tx), .int he, .int fa, .ref w4, .ref w5, .int (nI cl), .ref w6, .ref w7, .ref w8, .ref w9])), (w0, .inl (E 0, 137, .inl wvi))]) [0, 1] (by decide +kernel) rfl
                have hAc := zw_AA (wc := [(m0, .inr (6, [.ref w0, .ref w1, .ref w2, .int ik, .ref w3, .int (nI tx), .int he, .int fa, .ref w4, .ref w5, .int (nI cl), .ref w6, .ref w7, .ref w8, .ref w9])), (w0, .inl (E 0, 137, .inl wvi))]) hD [0, 1] rfl
                refine zw_ci hAc hS (va_runV (As := [.int (nI 2)]) (rest := []) ⟨hx, hb, hml, hown, hts⟩ (c_X8_isStepped_2 l D E m0 w0 w1 w2 w3 w4 w5 w6 w7 w8 w9 ik tx he fa cl wvi N Gi Pi X Y B R (hai.1) (hai.2.1) (hai.2.2.1) (hai.2.2.2.1)) (cwV 1 hts gX8_step_X8_isStepped rfl rfl rfl (by decide +kernel) ⟨Nat.le_of_ble_eq_true rfl, Nat.le_of_ble_eq_true rfl⟩) (zw_V hK hPc hDc (ci := 6) (q0 := 0) rfl rfl) rfl rfl hl.1 rfl (lv_room (Nat.le_of_ble_eq_true rfl)) dX8_step_31 ⟨Nat.zero_le _, Nat.zero_le _⟩) (fun r_20 u_22 H locs hw_21 hP1 hD1 hk1 hS => ?_)
                obtain ⟨wvn_23, rfl⟩ : ∃ z, z = u_22 := ⟨_, rfl⟩
                try dsimp only at hw_21 hP1 hD1
                obtain ⟨hP, hD⟩ := zw_join (wr := []) (w1 := [(m0, .inr (6, [.ref w0, .ref w1, .ref w2, .int ik, .ref w3, .int (nI tx), .int he, .int fa, .ref w4, .ref w5, .int (nI cl), .ref w6, .ref w7, .ref w8, .ref w9])), (w0, .inl (E 0, 137, .inl wvn_23))]) (ws' := [(m0, .inr (6, [.ref w0, .ref w1, .ref w2, .int ik, .ref w3, .int (nI tx), .int he, .int fa, .ref w4, .ref w5, .int (nI cl), .ref w6, .ref w7, .ref w8, .ref w9])), (w0, .inl (E 0, 137, .inl wvn_23))]) hP hD [0, 1] [] [0, 1] rfl rfl (by decide +kernel) (by decide +kernel) hAc hk1 hP1 hD1 (by decide +kernel) rfl
                clear hP1 hD1 hk1 hPc hDc hAc
                have hstep := hw_21
                refine lv_if_eq (tgt := 43) hx hb dX8_step_34 (by decide) (fun cn_24 => ?_) (fun cn_24 => ?_)
                · skip
                  obtain ⟨hno, -, hpf⟩ := Or.resolve_right hstep (fun ⟨a, b, _, q, _⟩ => absurd (q.symm.trans cn_24) (by decide))
                  have hst := hI.trans (zk_s1 hno)
                  have hpf := zv_all_off hai hpf.1 hpf.2
                  refine lv_iload_n hx hb dX8_step_43 rfl (lv_at hl 3 rfl) ?_
                  subst hQ; subst hAe
                  exact W.iret (v := nI i) hx hb hr (fun tz htz hWz => ⟨⟨nI i, wvn_23, rfl, ⟨by simp only [cond_true, Bool.and_true, Bool.true_and, e1, e2, q1, q2, hdd, hst, Nat.zero_add], by simp only [cond_true, Bool.and_true, Bool.true_and, e1, e2, q1, q2, hdd, hst]; exact hpf⟩, by rw [htz]; exact hP, hD⟩, hS.F htz⟩) hS.2.2 dX8_step_44
                · skip
                  obtain ⟨a9, b9, hso, -, hpn⟩ := Or.resolve_left hstep (fun q => cn_24 q.2.1)
                  refine lv_iinc (v := nI (i + 1)) (lv' := [(3, .int (nI (i + 1))), (0, .ref m0), (1, .int (nI 2)), (2, .int (nI u))]) hx hb dX8_step_37 hl (k := 3) rfl (nI_add _ _) (by decide) rfl (fun ls hl => ?_)
                  refine lv_goto (tgt := 24) hx hb dX8_step_40 (by decide) ?_
                  have hl : lv_has ls 4 [(0, .ref m0), (1, .int (nI 2)), (2, .int (nI u)), (3, .int (nI (i + 1)))] := lv_sub hl [1, 2, 3, 0] rfl
                  exact ih24 (i + 1) (zm_opG 2 Gi a9 b9) (zm_opP 2 Pi a9 b9) wvn_23 H locs ls (by omega) (by rw [hI, show u - i = (u - (i + 1)) + 1 from by omega, zm_steps_s hso]; exact zk_st _ _ _) (zv_all_off hai hpn.1 hpn.2) (by omega) hP hD hS hl
        · skip
          exact absurd cn_6 (by decide)
      · skip
        have e2 : zi 51 w = false := zi_f (zn_out3 (n := 51) (by omega) hw_5)
        refine zr_ti (y := nI 0) rfl ?_
        refine lv_if_ne (tgt := 22) hx hb dX8_step_16 (by decide) (fun cn_25 => ?_) (fun cn_25 => ?_)
        · skip
          exact absurd cn_25 (by decide)
        · skip
          refine lv_bipush (v := (-2)) hx hb dX8_step_19 (by rfl) ?_
          subst hQ; subst hAe
          exact W.iret (v := (-2)) hx hb hr (fun tz htz hWz => ⟨⟨(-2), wv, rfl, ⟨by first | (simp only [cond_true, cond_false, Bool.and_true, Bool.and_false, Bool.true_and, Bool.false_and, e1]; done) | (simp only [cond_true, cond_false, Bool.and_true, Bool.and_false, Bool.true_and, Bool.false_and, e1, e2]; done), by first | (simp only [cond_true, cond_false, Bool.and_true, Bool.and_false, Bool.true_and, Bool.false_and, e1]; exact hva; done) | (simp only [cond_true, cond_false, Bool.and_true, Bool.and_false, Bool.true_and, Bool.false_and, e1, e2]; exact hva; done)⟩, by rw [htz]; exact hP, hD⟩, hS.F htz⟩) hS.2.2 dX8_step_21
  · skip
    have e1 : zi 3 v = false := zi_f (zn_out3 (n := 3) (by omega) hw_2)
    refine zr_ti (y := nI 0) rfl ?_
    refine lv_if_eq (tgt := 19) hx hb dX8_step_6 (by decide) (fun cn_26 => ?_) (fun cn_26 => ?_)
    · skip
      refine lv_bipush (v := (-2)) hx hb dX8_step_19 (by rfl) ?_
      subst hQ; subst hAe
      exact W.iret (v := (-2)) hx hb hr (fun tz htz hWz => ⟨⟨(-2), wv, rfl, ⟨by first | (simp only [cond_true, cond_false, Bool.and_true, Bool.and_false, Bool.true_and, Bool.false_and, e1]; done) | (simp only [cond_true, cond_false, Bool.and_true, Bool.and_false, Bool.true_and, Bool.false_and, e1, e2]; done), by first | (simp only [cond_true, cond_false, Bool.and_true, Bool.and_false, Bool.true_and, Bool.false_and, e1]; exact hva; done) | (simp only [cond_true, cond_false, Bool.and_true, Bool.and_false, Bool.true_and, Bool.false_and, e1, e2]; exact hva; done)⟩, by rw [htz]; exact hP, hD⟩, hS.F htz⟩) hS.2.2 dX8_step_21
    · skip
      exact absurd cn_26 (by decide)

set_option maxHeartbeats 4000000 in
set_option maxRecDepth 100000 in
theorem c_X8_see (l : Launch) (D : va_G) (E : Nat → ClassId) (m0 : Nat) (w0 : Nat) (w1 : Nat) (w2 : Nat) (w3 : Nat) (w4 : Nat) (w5 : Nat) (w6 : Nat) (w7 : Nat) (w8 : Nat) (w9 : Nat) (ik : Int32) (tx : Nat) (he : Int32) (fa : Int32) (cl : Nat) (wv : Nat → Int32) (N : Nat) (G : Nat → Nat → Nat) (P : Nat → Nat → Nat) (X : Nat → Nat) (Y : Nat → Nat) (B : Nat → Nat → Nat) (R : Nat → Nat) (kd : Nat) (sn : Nat) (sT : Nat → Nat) (sR : Nat → Nat) (sH : Nat → Nat) (en : Nat) (eW : Nat → Nat) (eN : Nat → Nat) (bn : Nat) (bT : Nat → Nat) (bN : Nat → Nat) (v : Int32) (w : Int32) (b : Nat) (hva : zv_all N G P X Y B R kd sn sT sR sH en eW eN bn bT bN wv) (hzs : zs_all N kd sn sT sR sH en eW eN bn bT bN) (hb2 : b < 2) : Met l yX8_see wsX8_see ({ frames := 2, cells := 0, slots := 0, locals := 43 }) (zw_P D E [.ref m0, .int v, .int w, .int (nI b)] [(m0, .inr (6, [.ref w0, .ref w1, .ref w2, .int ik, .ref w3, .int (nI tx), .int he, .int fa, .ref w4, .ref w5, .int (nI cl), .ref w6, .ref w7, .ref w8, .ref w9])), (w0, .inl (E 0, 137, .inl wv))]) (zw_Qi D [(m0, .inr (6, [.ref w0, .ref w1, .ref w2, .int ik, .ref w3, .int (nI tx), .int he, .int fa, .ref w4, .ref w5, .int (nI cl), .ref w6, .ref w7, .ref w8, .ref w9])), (w0, .inl (E 0, 137, .inl wv))] (fun zv (u : (Nat → Int32)) => zv = zo_see N sn v w ∧ zv_all N G P X Y B R kd (cond (decide (v = -1)) 0 (cond (zc_see N sn v w) (sn + 1) sn)) (cond (zc_see N sn v w) (zm_up sT sn (zq v)) sT) (cond (zc_see N sn v w) (zm_up sR sn (zq w)) sR) (cond (zc_see N sn v w) (zm_up sH sn b) sH) en eW eN bn bT bN u) (fun (u : (Nat → Int32)) => [(m0, .inr (6, [.ref w0, .ref w1, .ref w2, .int ik, .ref w3, .int (nI tx), .int he, .int fa, .ref w4, .ref w5, .int (nI cl), .ref w6, .ref w7, .ref w8, .ref w9])), (w0, .inl (E 0, 137, .inl u))])) 0 0 (zw_A [(m0, .inr (6, [.ref w0, .ref w1, .ref w2, .int ik, .ref w3, .int (nI tx), .int he, .int fa, .ref w4, .ref w5, .int (nI cl), .ref w6, .ref w7, .ref w8, .ref w9])), (w0, .inl (E 0, 137, .inl wv))]) := by
  refine Met.ofW (cc := cX8_see) (maxL := 5) (ret := (some .int)) (by decide) rfl ?_
  intro p e s m args below meth c s₁ Bz hml hv
  obtain ⟨rfl, hP, hK, hD0⟩ := hv
  have hx := Bz.exec
  have hb := Bz.bytes
  have hr := Bz.returns
  have hts := atoms_spec (ws := wsX8_see) Bz.pre
  have hown : s.vm.findClass RX8 = some m.cls := findClass_of_methodNamed Bz.named
  have hlocks := Bz.notSynchronized
  have hP : va_P D vwCl [(m0, .inr (6, [.ref w0, .ref w1, .ref w2, .int ik, .ref w3, .int (nI tx), .int he, .int fa, .ref w4, .ref w5, .int (nI cl), .ref w6, .ref w7, .ref w8, .ref w9])), (w0, .inl (E 0, 137, .inl wv))] s.heap := hP
  obtain ⟨A, hAe⟩ : ∃ A : Nat → Prop, A = zw_A [(m0, .inr (6, [.ref w0, .ref w1, .ref w2, .int ik, .ref w3, .int (nI tx), .int he, .int fa, .ref w4, .ref w5, .int (nI cl), .ref w6, .ref w7, .ref w8, .ref w9])), (w0, .inl (E 0, 137, .inl wv))] := ⟨_, rfl⟩
  have hD : va_D A [(m0, .inr (6, [.ref w0, .ref w1, .ref w2, .int ik, .ref w3, .int (nI tx), .int he, .int fa, .ref w4, .ref w5, .int (nI cl), .ref w6, .ref w7, .ref w8, .ref w9])), (w0, .inl (E 0, 137, .inl wv))] := hAe ▸ zw_own hD0
  have hS : va_S A s.heap s.heap [] := va_S.rf
  have hl := lv_entry ([.ref m0, .int v, .int w, .int (nI b)]) (n := 5) (Nat.le_of_ble_eq_true rfl)
  rw [lg_entry_eq]
  generalize (lg_sl ([.ref m0, .int v, .int w, .int (nI b)]) ++ List.replicate (5 - (lg_sl ([.ref m0, .int v, .int w, .int (nI b)])).length) Slot.unset).toArray = ls at hl ⊢
  have hl : lv_has ls 5 [(0, .ref m0), (1, .int v), (2, .int w), (3, .int (nI b))] := hl
  refine zr_nQ (fun Q hQ => ?_)
  obtain ⟨hvg, hxy, hvb, hvr, hkv, hzc, hze, hzb, hn6, hn8, hm8⟩ := id hva
  obtain ⟨hkd, hse, hev, hbo⟩ := id hzs
  have hok := hvg.1
  have hN := hok.1
  have hvn := hvg.2.1
  have hgr := zm_gr_of hxy
  have hs0 := hse.1
  have hs1 := hev.1
  have hs2 := hbo.1
  refine lv_iload_n hx hb dX8_see_0 rfl (lv_at hl 1 rfl) ?_
  refine lv_iconst (v := (-1)) hx hb dX8_see_1 (by rfl) ?_
  refine lv_icmp_ne (tgt := 14) hx hb dX8_see_2 (by decide) (fun cn_1 => ?_) (fun cn_1 => ?_)
  · skip
    have d1 : decide (v = -1) = false := decide_eq_false cn_1
    refine lv_aload_n hx hb dX8_see_14 rfl (lv_at hl 0 rfl) ?_
    refine lv_iload_n hx hb dX8_see_15 rfl (lv_at hl 1 rfl) ?_
    refine zr_ci hP hS (va_runV (As := [.int v]) (rest := []) ⟨hx, hb, hml, hown, hts⟩ (c_X8_isTeam l D E m0 w0 w1 w2 w3 w4 w5 w6 w7 w8 w9 ik tx he fa cl wv N v (hvn) (hN)) (cwV 1 hts gX8_see_X8_isTeam rfl rfl rfl (by decide +kernel) ⟨Nat.le_of_ble_eq_true rfl, Nat.le_of_ble_eq_true rfl⟩) (zr_V hK (hP.sub (ws' := [(m0, .inr (6, [.ref w0, .ref w1, .ref w2, .int ik, .ref w3, .int (nI tx), .int he, .int fa, .ref w4, .ref w5, .int (nI cl), .ref w6, .ref w7, .ref w8, .ref w9])), (w0, .inl (E 0, 137, .inl wv))]) [0, 1] rfl) (ci := 6) (q0 := 0) rfl rfl) rfl rfl hl.1 rfl (lv_room (Nat.le_of_ble_eq_true rfl)) dX8_see_16 ⟨Nat.zero_le _, Nat.zero_le _⟩) (fun r_2 H locs hw_3 hP hS => ?_)
    rcases hw_3 with ⟨rfl, hw_3⟩ | ⟨rfl, hw_3⟩
    · skip
      obtain ⟨t, ht, v_e⟩ := hw_3
      have e1 : zi N v = true := v_e ▸ zi_t ht (by omega)
      have q1 : zq v = t := v_e ▸ zq_t (by omega)
      rw [v_e] at hl
      refine zr_ti (y := nI 1) rfl ?_
      refine lv_if_ne (tgt := 24) hx hb dX8_see_19 (by decide) (fun cn_4 => ?_) (fun cn_4 => ?_)
      · skip
        refine lv_iload_n hx hb dX8_see_24 rfl (lv_at hl 2 rfl) ?_
        refine lv_iconst (v := nI 0) hx hb dX8_see_25 (by rfl) ?_
        refine lv_bipush (v := nI 9) hx hb dX8_see_26 (by rfl) ?_
        refine zr_ci hP hS (va_runS (As := [.int w, .int (nI 0), .int (nI 9)]) (rest := []) ⟨hx, hb, hml, hown, hts⟩ (c_X8_isIn l D E w (nI 0) (nI 9) ) (va_cwS 3 hts gX8_see_X8_isIn rfl rfl rfl (by decide +kernel) ⟨Nat.le_of_ble_eq_true rfl, Nat.le_of_ble_eq_true rfl⟩) (zr_S hK (hP.sub (ws' := []) [] rfl)) rfl rfl hl.1 rfl (lv_room (Nat.le_of_ble_eq_true rfl)) dX8_see_28 ⟨Nat.zero_le _, Nat.zero_le _⟩) (fun r_5 H locs hw_6 hP hS => ?_)
        rcases hw_6 with ⟨rfl, hw_6⟩ | ⟨rfl, hw_6⟩
        · skip
          obtain ⟨u, hu, w_e⟩ := zn_in3 (n := 10) (by omega) (by omega) hw_6.1 hw_6.2
          have e2 : zi 10 w = true := w_e ▸ zi_t hu (by omega)
          have q2 : zq w = u := w_e ▸ zq_t (by omega)
          rw [w_e] at hl
          refine zr_ti (y := nI 1) rfl ?_
          refine lv_if_ne (tgt := 37) hx hb dX8_see_31 (by decide) (fun cn_7 => ?_) (fun cn_7 => ?_)
          · skip
            refine lv_aload_n hx hb dX8_see_37 rfl (lv_at hl 0 rfl) ?_
            refine va_get (D := D) (ci := 6) (v := .ref w0) (C := RX8) (T := TX8) (N := 15) hx hb hts (by decide +kernel) hown hK.1 hP 0 rfl rfl 0 (by decide) (hts (.fieldLink RX8 11 "HomeRoundsModel" "w" "[I") (by decide +kernel)) (fun _ h9 => h9) rfl dX8_see_38 ?_
            refine lv_iconst (v := nI 2) hx hb dX8_see_41 (by rfl) ?_
            refine va_iald hx hb hK.1 hP 1 0 rfl rfl (vp_in_nI (by omega) (by omega)) dX8_see_42 ?_
            refine zr_ti (y := nI sn) ((congrArg wv (nI_clamp (by omega))).trans (hzc.1)) ?_
            refine lv_bipush (v := nI 6) hx hb dX8_see_43 (by rfl) ?_
            refine lv_icmp_ne (tgt := 51) hx hb dX8_see_45 (by decide) (fun cn_8 => ?_) (fun cn_8 => ?_)
            · skip
              have cn_8 : ¬ (sn = 6) := fun hz => cn_8 ((nI_eq (a := sn) (b := 6) (by omega) (by omega)).mpr hz)
              have e3 : decide (sn < 6) = true := decide_eq_true (by omega)
              refine lv_bipush (v := nI 87) hx hb dX8_see_51 (by rfl) ?_
              refine lv_iconst (v := nI 3) hx hb dX8_see_53 (by rfl) ?_
              refine lv_aload_n hx hb dX8_see_54 rfl (lv_at hl 0 rfl) ?_
              refine va_get (D := D) (ci := 6) (v := .ref w0) (C := RX8) (T := TX8) (N := 15) hx hb hts (by decide +kernel) hown hK.1 hP 0 rfl rfl 0 (by decide) (hts (.fieldLink RX8 11 "HomeRoundsModel" "w" "[I") (by decide +kernel)) (fun _ h9 => h9) rfl dX8_see_55 ?_
              refine lv_iconst (v := nI 2) hx hb dX8_see_58 (by rfl) ?_
              refine va_iald hx hb hK.1 hP 1 0 rfl rfl (vp_in_nI (by omega) (by omega)) dX8_see_59 ?_
              refine zr_ti (y := nI sn) ((congrArg wv (nI_clamp (by omega))).trans (hzc.1)) ?_
              refine lv_imul hx hb dX8_see_60 ?_
              refine zr_ti (y := nI (3 * sn)) (pk_mul _ _) ?_
              refine lv_iadd hx hb dX8_see_61 ?_
              refine zr_ti (y := nI (87 + (3 * sn))) (nI_add _ _) ?_
              refine lv_istore (lv' := [(4, .int (nI (87 + (3 * sn)))), (0, .ref m0), (1, .int (nI t)), (2, .int (nI u)), (3, .int (nI b))]) hx hb dX8_see_62 hl (by decide) rfl (fun ls hl => ?_)
              refine lv_aload_n hx hb dX8_see_64 rfl (lv_at hl 1 rfl) ?_
              refine va_get (D := D) (ci := 6) (v := .ref w0) (C := RX8) (T := TX8) (N := 15) hx hb hts (by decide +kernel) hown hK.1 hP 0 rfl rfl 0 (by decide) (hts (.fieldLink RX8 11 "HomeRoundsModel" "w" "[I") (by decide +kernel)) (fun _ h9 => h9) rfl dX8_see_65 ?_
              refine lv_iload hx hb dX8_see_68 (lv_at hl 0 rfl) ?_
              refine lv_iload_n hx hb dX8_see_70 rfl (lv_at hl 2 rfl) ?_
              refine va_iast hx hb hK.1 hP hD hS 1 0 rfl rfl (vp_in_nI (by omega) (by omega)) dX8_see_71 (fun H locs hP hD hS => ?_)
              have hP : va_P D vwCl [(m0, .inr (6, [.ref w0, .ref w1, .ref w2, .int ik, .ref w3, .int (nI tx), .int he, .int fa, .ref w4, .ref w5, .int (nI cl), .ref w6, .ref w7, .ref w8, .ref w9])), (w0, .inl (E 0, 137, .inl (upd wv (nI (87 + (3 * sn))).toNatClampNeg (nI t))))] H := hP
              have hD : va_D A [(m0, .inr (6, [.ref w0, .ref w1, .ref w2, .int ik, .ref w3, .int (nI tx), .int he, .int fa, .ref w4, .ref w5, .int (nI cl), .ref w6, .ref w7, .ref w8, .ref w9])), (w0, .inl (E 0, 137, .inl (upd wv (nI (87 + (3 * sn))).toNatClampNeg (nI t))))] := hD
              have hcz : (upd wv (nI (87 + (3 * sn))).toNatClampNeg (nI t)) = (upd wv (87 + (3 * sn)) (nI t)) := by rw [nI_clamp (n := 87 + (3 * sn)) (by omega)]
              rw [hcz] at hP hD
              refine lv_aload_n hx hb dX8_see_72 rfl (lv_at hl 1 rfl) ?_
              refine va_get (D := D) (ci := 6) (v := .ref w0) (C := RX8) (T := TX8) (N := 15) hx hb hts (by decide +kernel) hown hK.1 hP 0 rfl rfl 0 (by decide) (hts (.fieldLink RX8 11 "HomeRoundsModel" "w" "[I") (by decide +kernel)) (fun _ h9 => h9) rfl dX8_see_73 ?_
              refine lv_iload hx hb dX8_see_76 (lv_at hl 0 rfl) ?_
              refine lv_iconst (v := nI 1) hx hb dX8_see_78 (by rfl) ?_
              refine lv_iadd hx hb dX8_see_79 ?_
              refine zr_ti (y := nI ((87 + (3 * sn)) + 1)) (nI_add _ _) ?_
              refine lv_iload_n hx hb dX8_see_80 rfl (lv_at hl 3 rfl) ?_
              refine va_iast hx hb hK.1 hP hD hS 1 0 rfl rfl (vp_in_nI (by omega) (by omega)) dX8_see_81 (fun H locs hP hD hS => ?_)
              have hP : va_P D vwCl [(m0, .inr (6, [.ref w0, .ref w1, .ref w2, .int ik, .ref w3, .int (nI tx), .int he, .int fa, .ref w4, .ref w5, .int (nI cl), .ref w6, .ref w7, .ref w8, .ref w9])), (w0, .inl (E 0, 137, .inl (upd (upd wv (87 + (3 * sn)) (nI t)) (nI ((87 + (3 * sn)) + 1)).toNatClampNeg (nI u))))] H := hP
              have hD : va_D A [(m0, .inr (6, [.ref w0, .ref w1, .ref w2, .int ik, .ref w3, .int (nI tx), .int he, .int fa, .ref w4, .ref w5, .int (nI cl), .ref w6, .ref w7, .ref w8, .ref w9])), (w0, .inl (E 0, 137, .inl (upd (upd wv (87 + (3 * sn)) (nI t)) (nI ((87 + (3 * sn)) + 1)).toNatClampNeg (nI u))))] := hD
              have hcz : (upd (upd wv (87 + (3 * sn)) (nI t)) (nI ((87 + (3 * sn)) + 1)).toNatClampNeg (nI u)) = (upd (upd wv (87 + (3 * sn)) (nI t)) ((87 + (3 * sn)) + 1) (nI u)) := by rw [nI_clamp (n := (87 + (3 * sn)) + 1) (by omega)]
              rw [hcz] at hP hD
              refine lv_aload_n hx hb dX8_see_82 rfl (lv_at hl 1 rfl) ?_
              refine va_get (D := D) (ci := 6) (v := .ref w0) (C := RX8) (T := TX8) (N := 15) hx hb hts (by decide +kernel) hown hK.1 hP 0 rfl rfl 0 (by decide) (hts (.fieldLink RX8 11 "HomeRoundsModel" "w" "[I") (by decide +kernel)) (fun _ h9 => h9) rfl dX8_see_83 ?_
              refine lv_iload hx hb dX8_see_86 (lv_at hl 0 rfl) ?_
              refine lv_iconst (v := nI 2) hx hb dX8_see_88 (by rfl) ?_
              refine lv_iadd hx hb dX8_see_89 ?_
              refine zr_ti (y := nI ((87 + (3 * sn)) + 2)) (nI_add _ _) ?_
              refine lv_iload_n hx hb dX8_see_90 rfl (lv_at hl 4 rfl) ?_
              refine lv_if_eq (tgt := 98) hx hb dX8_see_91 (by decide) (fun cn_9 => ?_) (fun cn_9 => ?_)
              · skip
                have cn_9 : b = 0 := (nI_eq (a := b) (b := 0) (by omega) (by omega)).mp cn_9
                have hb0 : 0 = b := by omega
                refine lv_iconst (v := nI 0) hx hb dX8_see_98 (by rfl) ?_
                refine va_iast hx hb hK.1 hP hD hS 1 0 rfl rfl (vp_in_nI (by omega) (by omega)) dX8_see_99 (fun H locs hP hD hS => ?_)
                have hP : va_P D vwCl [(m0, .inr (6, [.ref w0, .ref w1, .ref w2, .int ik, .ref w3, .int (nI tx), .int he, .int fa, .ref w4, .ref w5, .int (nI cl), .ref w6, .ref w7, .ref w8, .ref w9])), (w0, .inl (E 0, 137, .inl (upd (upd (upd wv (87 + (3 * sn)) (nI t)) ((87 + (3 * sn)) + 1) (nI u)) (nI ((87 + (3 * sn)) + 2)).toNatClampNeg (nI 0))))] H := hP
                have hD : va_D A [(m0, .inr (6, [.ref w0, .ref w1, .ref w2, .int ik, .ref w3, .int (nI tx), .int he, .int fa, .ref w4, .ref w5, .int (nI cl), .ref w6, .ref w7, .ref w8, .ref w9])), (w0, .inl (E 0, 137, .inl (upd (upd (upd wv (87 + (3 * sn)) (nI t)) ((87 + (3 * sn)) + 1) (nI u)) (nI ((87 + (3 * sn)) + 2)).toNatClampNeg (nI 0))))] := hD
                have hcz : (upd (upd (upd wv (87 + (3 * sn)) (nI t)) ((87 + (3 * sn)) + 1) (nI u)) (nI ((87 + (3 * sn)) + 2)).toNatClampNeg (nI 0)) = (upd (upd (upd wv (87 + (3 * sn)) (nI t)) ((87 + (3 * sn)) + 1) (nI u)) ((87 + (3 * sn)) + 2) (nI 0)) := by rw [nI_clamp (n := (87 + (3 * sn)) + 2) (by omega)]
                rw [hcz] at hP hD
                refine lv_aload_n hx hb dX8_see_100 rfl (lv_at hl 1 rfl) ?_
                refine va_get (D := D) (ci := 6) (v := .ref w0) (C := RX8) (T := TX8) (N := 15) hx hb hts (by decide +kernel) hown hK.1 hP 0 rfl rfl 0 (by decide) (hts (.fieldLink RX8 11 "HomeRoundsModel" "w" "[I") (by decide +kernel)) (fun _ h9 => h9) rfl dX8_see_101 ?_
                refine lv_iconst (v := nI 2) hx hb dX8_see_104 (by rfl) ?_
                refine lv_dup2_11 hx hb dX8_see_105 rfl rfl ?_
                refine va_iald hx hb hK.1 hP 1 0 rfl rfl (vp_in_nI (by omega) (by omega)) dX8_see_106 ?_
                refine zr_ti (y := nI sn) ((congrArg (upd (upd (upd wv (87 + (3 * sn)) (nI t)) ((87 + (3 * sn)) + 1) (nI u)) ((87 + (3 * sn)) + 2) (nI 0)) (nI_clamp (by omega))).trans (by rw [zn_un (by omega), zn_un (by omega), zn_un (by omega)]; exact hzc.1)) ?_
                refine lv_iconst (v := nI 1) hx hb dX8_see_107 (by rfl) ?_
                refine lv_iadd hx hb dX8_see_108 ?_
                refine zr_ti (y := nI (sn + 1)) (nI_add _ _) ?_
                refine va_iast hx hb hK.1 hP hD hS 1 0 rfl rfl (vp_in_nI (by omega) (by omega)) dX8_see_109 (fun H locs hP hD hS => ?_)
                have hP : va_P D vwCl [(m0, .inr (6, [.ref w0, .ref w1, .ref w2, .int ik, .ref w3, .int (nI tx), .int he, .int fa, .ref w4, .ref w5, .int (nI cl), .ref w6, .ref w7, .ref w8, .ref w9])), (w0, .inl (E 0, 137, .inl (upd (upd (upd (upd wv (87 + (3 * sn)) (nI t)) ((87 + (3 * sn)) + 1) (nI u)) ((87 + (3 * sn)) + 2) (nI 0)) (nI 2).toNatClampNeg (nI (sn + 1)))))] H := hP
                have hD : va_D A [(m0, .inr (6, [.ref w0, .ref w1, .ref w2, .int ik, .ref w3, .int (nI tx), .int he, .int fa, .ref w4, .ref w5, .int (nI cl), .ref w6, .ref w7, .ref w8, .ref w9])), (w0, .inl (E 0, 137, .inl (upd (upd (upd (upd wv (87 + (3 * sn)) (nI t)) ((87 + (3 * sn)) + 1) (nI u)) ((87 + (3 * sn)) + 2) (nI 0)) (nI 2).toNatClampNeg (nI (sn + 1)))))] := hD
                have hcz : (upd (upd (upd (upd wv (87 + (3 * sn)) (nI t)) ((87 + (3 * sn)) + 1) (nI u)) ((87 + (3 * sn)) + 2) (nI 0)) (nI 2).toNatClampNeg (nI (sn + 1))) = (upd (upd (upd (upd wv (87 + (3 * sn)) (nI t)) ((87 + (3 * sn)) + 1) (nI u)) ((87 + (3 * sn)) + 2) (nI 0)) 2 (nI (sn + 1))) := by rw [nI_clamp (n := 2) (by omega)]
                rw [hcz] at hP hD
                refine lv_aload_n hx hb dX8_see_110 rfl (lv_at hl 1 rfl) ?_
                refine va_get (D := D) (ci := 6) (v := .ref w0) (C := RX8) (T := TX8) (N := 15) hx hb hts (by decide +kernel) hown hK.1 hP 0 rfl rfl 0 (by decide) (hts (.fieldLink RX8 11 "HomeRoundsModel" "w" "[I") (by decide +kernel)) (fun _ h9 => h9) rfl dX8_see_111 ?_
                refine lv_iconst (v := nI 2) hx hb dX8_see_114 (by rfl) ?_
                refine va_iald hx hb hK.1 hP 1 0 rfl rfl (vp_in_nI (by omega) (by omega)) dX8_see_115 ?_
                refine zr_ti (y := nI (sn + 1)) ((congrArg (upd (upd (upd (upd wv (87 + (3 * sn)) (nI t)) ((87 + (3 * sn)) + 1) (nI u)) ((87 + (3 * sn)) + 2) (nI 0)) 2 (nI (sn + 1))) (nI_clamp (by omega))).trans (zn_ue)) ?_
                subst hQ; subst hAe
                exact W.iret (v := nI (sn + 1)) hx hb hr (fun tz htz hWz => ⟨⟨nI (sn + 1), (upd (upd (upd (upd wv (87 + (3 * sn)) (nI t)) ((87 + (3 * sn)) + 1) (nI u)) ((87 + (3 * sn)) + 2) (nI 0)) 2 (nI (sn + 1))), rfl, ⟨by unfold zo_see; simp only [cond_true, cond_false, Bool.and_true, Bool.and_false, Bool.true_and, Bool.false_and, d1, e1, e2, e3, q1, q2, ← hb0], by unfold zc_see; simp only [cond_true, cond_false, Bool.and_true, Bool.and_false, Bool.true_and, Bool.false_and, d1, e1, e2, e3, q1, q2, ← hb0]; exact (zv_all_s1 hva (by omega))⟩, by rw [htz]; exact hP, hD⟩, hS.F htz⟩) hS.2.2 dX8_see_116
              · skip
                have cn_9 : ¬ (b = 0) := fun hz => cn_9 ((nI_eq (a := b) (b := 0) (by omega) (by omega)).mpr hz)
                have hb0 : 1 = b := by omega
                refine lv_iconst (v := nI 1) hx hb dX8_see_94 (by rfl) ?_
                refine lv_goto (tgt := 99) hx hb dX8_see_95 (by decide) ?_
                refine va_iast hx hb hK.1 hP hD hS 1 0 rfl rfl (vp_in_nI (by omega) (by omega)) dX8_see_99 (fun H locs hP hD hS => ?_)
                have hP : va_P D vwCl [(m0, .inr (6, [.ref w0, .ref w1, .ref w2, .int ik, .ref w3, .int (nI tx), .int he, .int fa, .ref w4, .ref w5, .int (nI cl), .ref w6, .ref w7, .ref w8, .ref w9])), (w0, .inl (E 0, 137, .inl (upd (upd (upd wv (87 + (3 * sn)) (nI t)) ((87 + (3 * sn)) + 1) (nI u)) (nI ((87 + (3 * sn)) + 2)).toNatClampNeg (nI 1))))] H := hP
                have hD : va_D A [(m0, .inr (6, [.ref w0, .ref w1, .ref w2, .int ik, .ref w3, .int (nI tx), .int he, .int fa, .ref w4, .ref w5, .int (nI cl), .ref w6, .ref w7, .ref w8, .ref w9])), (w0, .inl (E 0, 137, .inl (upd (upd (upd wv (87 + (3 * sn)) (nI t)) ((87 + (3 * sn)) + 1) (nI u)) (nI ((87 + (3 * sn)) + 2)).toNatClampNeg (nI 1))))] := hD
                have hcz : (upd (upd (upd wv (87 + (3 * sn)) (nI t)) ((87 + (3 * sn)) + 1) (nI u)) (nI ((87 + (3 * sn)) + 2)).toNatClampNeg (nI 1)) = (upd (upd (upd wv (87 + (3 * sn)) (nI t)) ((87 + (3 * sn)) + 1) (nI u)) ((87 + (3 * sn)) + 2) (nI 1)) := by rw [nI_clamp (n := (87 + (3 * sn)) + 2) (by omega)]
                rw [hcz] at hP hD
                refine lv_aload_n hx hb dX8_see_100 rfl (lv_at hl 1 rfl) ?_
                refine va_get (D := D) (ci := 6) (v := .ref w0) (C := RX8) (T := TX8) (N := 15) hx hb hts (by decide +kernel) hown hK.1 hP 0 rfl rfl 0 (by decide) (hts (.fieldLink RX8 11 "HomeRoundsModel" "w" "[I") (by decide +kernel)) (fun _ h9 => h9) rfl dX8_see_101 ?_
                refine lv_iconst (v := nI 2) hx hb dX8_see_104 (by rfl) ?_
                refine lv_dup2_11 hx hb dX8_see_105 rfl rfl ?_
                refine va_iald hx hb hK.1 hP 1 0 rfl rfl (vp_in_nI (by omega) (by omega)) dX8_see_106 ?_
                refine zr_ti (y := nI sn) ((congrArg (upd (upd (upd wv (87 + (3 * sn)) (nI t)) ((87 + (3 * sn)) + 1) (nI u)) ((87 + (3 * sn)) + 2) (nI 1)) (nI_clamp (by omega))).trans (by rw [zn_un (by omega), zn_un (by omega), zn_un (by omega)]; exact hzc.1)) ?_
                refine lv_iconst (v := nI 1) hx hb dX8_see_107 (by rfl) ?_
                refine lv_iadd hx hb dX8_see_108 ?_
                refine zr_ti (y := nI (sn + 1)) (nI_add _ _) ?_
                refine va_iast hx hb hK.1 hP hD hS 1 0 rfl rfl (vp_in_nI (by omega) (by omega)) dX8_see_109 (fun H locs hP hD hS => ?_)
                have hP : va_P D vwCl [(m0, .inr (6, [.ref w0, .ref w1, .ref w2, .int ik, .ref w3, .int (nI tx), .int he, .int fa, .ref w4, .ref w5, .int (nI cl), .ref w6, .ref w7, .ref w8, .ref w9])), (w0, .inl (E 0, 137, .inl (upd (upd (upd (upd wv (87 + (3 * sn)) (nI t)) ((87 + (3 * sn)) + 1) (nI u)) ((87 + (3 * sn)) + 2) (nI 1)) (nI 2).toNatClampNeg (nI (sn + 1)))))] H := hP
                have hD : va_D A [(m0, .inr (6, [.ref w0, .ref w1, .ref w2, .int ik, .ref w3, .int (nI tx), .int he, .int fa, .ref w4, .ref w5, .int (nI cl), .ref w6, .ref w7, .ref w8, .ref w9])), (w0, .inl (E 0, 137, .inl (upd (upd (upd (upd wv (87 + (3 * sn)) (nI t)) ((87 + (3 * sn)) + 1) (nI u)) ((87 + (3 * sn)) + 2) (nI 1)) (nI 2).toNatClampNeg (nI (sn + 1)))))] := hD
                have hcz : (upd (upd (upd (upd wv (87 + (3 * sn)) (nI t)) ((87 + (3 * sn)) + 1) (nI u)) ((87 + (3 * sn)) + 2) (nI 1)) (nI 2).toNatClampNeg (nI (sn + 1))) = (upd (upd (upd (upd wv (87 + (3 * sn)) (nI t)) ((87 + (3 * sn)) + 1) (nI u)) ((87 + (3 * sn)) + 2) (nI 1)) 2 (nI (sn + 1))) := by rw [nI_clamp (n := 2) (by omega)]
                rw [hcz] at hP hD
                refine lv_aload_n hx hb dX8_see_110 rfl (lv_at hl 1 rfl) ?_
                refine va_get (D := D) (ci := 6) (v := .ref w0) (C := RX8) (T := TX8) (N := 15) hx hb hts (by decide +kernel) hown hK.1 hP 0 rfl rfl 0 (by decide) (hts (.fieldLink RX8 11 "HomeRoundsModel" "w" "[I") (by decide +kernel)) (fun _ h9 => h9) rfl dX8_see_111 ?_
                refine lv_iconst (v := nI 2) hx hb dX8_see_114 (by rfl) ?_
                refine va_iald hx hb hK.1 hP 1 0 rfl rfl (vp_in_nI (by omega) (by omega)) dX8_see_115 ?_
                refine zr_ti (y := nI (sn + 1)) ((congrArg (upd (upd (upd (upd wv (87 + (3 * sn)) (nI t)) ((87 + (3 * sn)) + 1) (nI u)) ((87 + (3 * sn)) + 2) (nI 1)) 2 (nI (sn + 1))) (nI_clamp (by omega))).trans (zn_ue)) ?_
                subst hQ; subst hAe
                exact W.iret (v := nI (sn + 1)) hx hb hr (fun tz htz hWz => ⟨⟨nI (sn + 1), (upd (upd (upd (upd wv (87 + (3 * sn)) (nI t)) ((87 + (3 * sn)) + 1) (nI u)) ((87 + (3 * sn)) + 2) (nI 1)) 2 (nI (sn + 1))), rfl, ⟨by unfold zo_see; simp only [cond_true, cond_false, Bool.and_true, Bool.and_false, Bool.true_and, Bool.false_and, d1, e1, e2, e3, q1, q2, ← hb0], by unfold zc_see; simp only [cond_true, cond_false, Bool.and_true, Bool.and_false, Bool.true_and, Bool.false_and, d1, e1, e2, e3, q1, q2, ← hb0]; exact (zv_all_s1 hva (by omega))⟩, by rw [htz]; exact hP, hD⟩, hS.F htz⟩) hS.2.2 dX8_see_116
            · skip
              have cn_8 : sn = 6 := (nI_eq (a := sn) (b := 6) (by omega) (by omega)).mp cn_8
              have e3 : decide (sn < 6) = false := decide_eq_false (by omega)
              refine lv_bipush (v := (-4)) hx hb dX8_see_48 (by rfl) ?_
              subst hQ; subst hAe
              exact W.iret (v := (-4)) hx hb hr (fun tz htz hWz => ⟨⟨(-4), wv, rfl, ⟨by unfold zo_see; simp only [cond_true, cond_false, Bool.and_true, Bool.and_false, Bool.true_and, Bool.false_and, d1, e1, e2, e3], by unfold zc_see; simp only [cond_true, cond_false, Bool.and_true, Bool.and_false, Bool.true_and, Bool.false_and, d1, e1, e2, e3]; exact hva⟩, by rw [htz]; exact hP, hD⟩, hS.F htz⟩) hS.2.2 dX8_see_50
          · skip
            exact absurd cn_7 (by decide)
        · skip
          have e2 : zi 10 w = false := zi_f (zn_out3 (n := 10) (by omega) hw_6)
          refine zr_ti (y := nI 0) rfl ?_
          refine lv_if_ne (tgt := 37) hx hb dX8_see_31 (by decide) (fun cn_10 => ?_) (fun cn_10 => ?_)
          · skip
            exact absurd cn_10 (by decide)
          · skip
            refine lv_bipush (v := (-2)) hx hb dX8_see_34 (by rfl) ?_
            subst hQ; subst hAe
            exact W.iret (v := (-2)) hx hb hr (fun tz htz hWz => ⟨⟨(-2), wv, rfl, ⟨by unfold zo_see; simp only [cond_true, cond_false, Bool.and_true, Bool.and_false, Bool.true_and, Bool.false_and, d1, e1, e2], by unfold zc_see; simp only [cond_true, cond_false, Bool.and_true, Bool.and_false, Bool.true_and, Bool.false_and, d1, e1, e2]; exact hva⟩, by rw [htz]; exact hP, hD⟩, hS.F htz⟩) hS.2.2 dX8_see_36
      · skip
        exact absurd cn_4 (by decide)
    · skip
      have e1 : zi N v = false := zi_f hw_3
      refine zr_ti (y := nI 0) rfl ?_
      refine lv_if_ne (tgt := 24) hx hb dX8_see_19 (by decide) (fun cn_11 => ?_) (fun cn_11 => ?_)
      · skip
        exact absurd cn_11 (by decide)
      · skip
        refine lv_iconst (v := (-1)) hx hb dX8_see_22 (by rfl) ?_
        subst hQ; subst hAe
        exact W.iret (v := (-1)) hx hb hr (fun tz htz hWz => ⟨⟨(-1), wv, rfl, ⟨by unfold zo_see; simp only [cond_true, cond_false, Bool.and_true, Bool.and_false, Bool.true_and, Bool.false_and, d1, e1], by unfold zc_see; simp only [cond_true, cond_false, Bool.and_true, Bool.and_false, Bool.true_and, Bool.false_and, d1, e1]; exact hva⟩, by rw [htz]; exact hP, hD⟩, hS.F htz⟩) hS.2.2 dX8_see_23
  · skip
    have d1 : decide (v = -1) = true := decide_eq_true cn_1
    have e1 : zi N v = false := zi_m1 (by omega) cn_1
    refine lv_aload_n hx hb dX8_see_5 rfl (lv_at hl 0 rfl) ?_
    refine va_get (D := D) (ci := 6) (v := .ref w0) (C := RX8) (T := TX8) (N := 15) hx hb hts (by decide +kernel) hown hK.1 hP 0 rfl rfl 0 (by decide) (hts (.fieldLink RX8 11 "HomeRoundsModel" "w" "[I") (by decide +kernel)) (fun _ h9 => h9) rfl dX8_see_6 ?_
    refine lv_iconst (v := nI 2) hx hb dX8_see_9 (by rfl) ?_
    refine lv_iconst (v := nI 0) hx hb dX8_see_10 (by rfl) ?_
    refine va_iast hx hb hK.1 hP hD hS 1 0 rfl rfl (vp_in_nI (by omega) (by omega)) dX8_see_11 (fun H locs hP hD hS => ?_)
    have hP : va_P D vwCl [(m0, .inr (6, [.ref w0, .ref w1, .ref w2, .int ik, .ref w3, .int (nI tx), .int he, .int fa, .ref w4, .ref w5, .int (nI cl), .ref w6, .ref w7, .ref w8, .ref w9])), (w0, .inl (E 0, 137, .inl (upd wv (nI 2).toNatClampNeg (nI 0))))] H := hP
    have hD : va_D A [(m0, .inr (6, [.ref w0, .ref w1, .ref w2, .int ik, .ref w3, .int (nI tx), .int he, .int fa, .ref w4, .ref w5, .int (nI cl), .ref w6, .ref w7, .ref w8, .ref w9])), (w0, .inl (E 0, 137, .inl (upd wv (nI 2).toNatClampNeg (nI 0))))] := hD
    have hcz : (upd wv (nI 2).toNatClampNeg (nI 0)) = (upd wv 2 (nI 0)) := by rw [nI_clamp (n := 2) (by omega)]
    rw [hcz] at hP hD
    refine lv_iconst (v := nI 0) hx hb dX8_see_12 (by rfl) ?_
    subst hQ; subst hAe
    exact W.iret (v := nI 0) hx hb hr (fun tz htz hWz => ⟨⟨nI 0, (upd wv 2 (nI 0)), rfl, ⟨by unfold zo_see; simp only [cond_true, cond_false, Bool.and_true, Bool.and_false, Bool.true_and, Bool.false_and, d1, e1], by unfold zc_see; simp only [cond_true, cond_false, Bool.and_true, Bool.and_false, Bool.true_and, Bool.false_and, d1, e1]; exact (zv_all_s0 hva)⟩, by rw [htz]; exact hP, hD⟩, hS.F htz⟩) hS.2.2 dX8_see_13

set_option maxHeartbeats 4000000 in
set_option maxRecDepth 100000 in
theorem c_X8_fits (l : Launch) (D : va_G) (E : Nat → ClassId) (m0 : Nat) (w0 : Nat) (w1 : Nat) (w2 : Nat) (w3 : Nat) (w4 : Nat) (w5 : Nat) (w6 : Nat) (w7 : Nat) (w8 : Nat) (w9 : Nat) (ik : Int32) (tx : Nat) (he : Int32) (fa : Int32) (cl : Nat) (wv : Nat → Int32) (N : Nat) (G : Nat → Nat → Nat) (P : Nat → Nat → Nat) (X : Nat → Nat) (Y : Nat → Nat) (B : Nat → Nat → Nat) (R : Nat → Nat) (kd : Nat) (sn : Nat) (sT : Nat → Nat) (sR : Nat → Nat) (sH : Nat → Nat) (en : Nat) (eW : Nat → Nat) (eN : Nat → Nat) (bn : Nat) (bT : Nat → Nat) (bN : Nat → Nat) (hva : zv_all N G P X Y B R kd sn sT sR sH en eW eN bn bT bN wv) (hzs : zs_all N kd sn sT sR sH en eW eN bn bT bN) : Met l yX8_fits wsX8_fits ({ frames := 4, cells := 0, slots := 0, locals := 92 }) (zr_P D E [.ref m0] [(m0, .inr (6, [.ref w0, .ref w1, .ref w2, .int ik, .ref w3, .int (nI tx), .int he, .int fa, .ref w4, .ref w5, .int (nI cl), .ref w6, .ref w7, .ref w8, .ref w9])), (w0, .inl (E 0, 137, .inl wv))]) (zr_Qi (fun zv => zv = zm_fits N P sT sR sH sn 3)) 0 0 (fun _ => False) := by
  refine Met.ofW (cc := cX8_fits) (maxL := 3) (ret := (some .int)) (by decide) rfl ?_
  intro p e s m args below meth c s₁ Bz hml hv
  obtain ⟨rfl, hP, hK⟩ := hv
  have hx := Bz.exec
  have hb := Bz.bytes
  have hr := Bz.returns
  have hts := atoms_spec (ws := wsX8_fits) Bz.pre
  have hown : s.vm.findClass RX8 = some m.cls := findClass_of_methodNamed Bz.named
  have hlocks := Bz.notSynchronized
  have hP : va_P D vwCl [(m0, .inr (6, [.ref w0, .ref w1, .ref w2, .int ik, .ref w3, .int (nI tx), .int he, .int fa, .ref w4, .ref w5, .int (nI cl), .ref w6, .ref w7, .ref w8, .ref w9])), (w0, .inl (E 0, 137, .inl wv))] s.heap := hP
  have hS : va_S (fun _ : Nat => False) s.heap s.heap [] := va_S.rf
  have hl := lv_entry ([.ref m0]) (n := 3) (Nat.le_of_ble_eq_true rfl)
  rw [lg_entry_eq]
  generalize (lg_sl ([.ref m0]) ++ List.replicate (3 - (lg_sl ([.ref m0])).length) Slot.unset).toArray = ls at hl ⊢
  have hl : lv_has ls 3 [(0, .ref m0)] := hl
  refine zr_nQ (fun Q hQ => ?_)
  obtain ⟨hvg, hxy, hvb, hvr, hkv, hzc, hze, hzb, hn6, hn8, hm8⟩ := id hva
  obtain ⟨hkd, hse, hev, hbo⟩ := id hzs
  have hok := hvg.1
  have hN := hok.1
  have hvn := hvg.2.1
  have hgr := zm_gr_of hxy
  have hs0 := hse.1
  have hs1 := hev.1
  have hs2 := hbo.1
  refine lv_iconst (v := nI 0) hx hb dX8_fits_0 (by rfl) ?_
  refine lv_istore_n (lv' := [(1, .int (nI 0)), (0, .ref m0)]) hx hb dX8_fits_1 rfl hl (by decide) rfl (fun ls hl => ?_)
  refine lv_iconst (v := nI 0) hx hb dX8_fits_2 (by rfl) ?_
  refine lv_istore_n (lv' := [(2, .int (nI 0)), (1, .int (nI 0)), (0, .ref m0)]) hx hb dX8_fits_3 rfl hl (by decide) rfl (fun ls hl => ?_)
  suffices KL4 : ∀ (kz : Nat) (k : Nat) (bb : Int32) (H : Heap) (locs : List Loc) (ls : Array Slot), (3 - k) < kz → (bb = zm_fits N P sT sR sH sn k) → (k ≤ 3) → va_P D vwCl [(m0, .inr (6, [.ref w0, .ref w1, .ref w2, .int ik, .ref w3, .int (nI tx), .int he, .int fa, .ref w4, .ref w5, .int (nI cl), .ref w6, .ref w7, .ref w8, .ref w9])), (w0, .inl (E 0, 137, .inl wv))] H → va_S (fun _ : Nat => False) s.heap H locs → lv_has ls 3 [(0, .ref m0), (1, .int bb), (2, .int (nI k))] → W p l e (headSpec wsX8_fits ({ frames := 4, cells := 0, slots := 0, locals := 92 })).room s m ([.ref m0] : List Value).toArray below meth c H locs 0 0 Q (F0 m 4 ls []) from
    KL4 _ 0 (nI 0) _ _ ls (Nat.lt_succ_self _) (rfl) (by omega) hP hS (lv_sub hl [2, 1, 0] rfl)
  clear hP hS hl
  intro kz
  induction kz with
  | zero => intro k bb H locs ls hkz; exact absurd hkz (Nat.not_lt_zero _)
  | succ kz ih4 =>
    intro k bb H locs ls hkz hbb hk hP hS hl
    refine lv_iload_n hx hb dX8_fits_4 rfl (lv_at hl 2 rfl) ?_
    refine lv_iconst (v := nI 3) hx hb dX8_fits_5 (by rfl) ?_
    refine lv_icmp_ge (tgt := 33) hx hb dX8_fits_6 (by decide) (fun cn_1 => ?_) (fun cn_1 => ?_)
    · skip
      have cn_1 : 3 ≤ k := (nI_leI (a := 3) (b := k) (by omega) (by omega)).mp cn_1
      have hke : k = 3 := by omega
      refine lv_iload_n hx hb dX8_fits_33 rfl (lv_at hl 1 rfl) ?_
      subst hQ
      exact W.iret (v := bb) hx hb hr (fun tz htz hWz => ⟨⟨bb, (), rfl, by rw [hbb, hke], trivial⟩, hS.F htz⟩) hS.2.2 dX8_fits_34
    · skip
      have cn_1 : ¬ (3 ≤ k) := fun hz => cn_1 ((nI_leI (a := 3) (b := k) (by omega) (by omega)).mpr hz)
      refine lv_iload_n hx hb dX8_fits_9 rfl (lv_at hl 1 rfl) ?_
      refine lv_aload_n hx hb dX8_fits_10 rfl (lv_at hl 0 rfl) ?_
      refine lv_iload_n hx hb dX8_fits_11 rfl (lv_at hl 2 rfl) ?_
      refine zr_ci hP hS (va_runV (As := [.int (nI k)]) (rest := [.int bb]) ⟨hx, hb, hml, hown, hts⟩ (c_X8_isSeen l D E m0 w0 w1 w2 w3 w4 w5 w6 w7 w8 w9 ik tx he fa cl wv N G P sn sT sR sH k (hvg) (hse) (hzc) (by omega)) (cwV 1 hts gX8_fits_X8_isSeen rfl rfl rfl (by decide +kernel) ⟨Nat.le_of_ble_eq_true rfl, Nat.le_of_ble_eq_true rfl⟩) (zr_V hK (hP.sub (ws' := [(m0, .inr (6, [.ref w0, .ref w1, .ref w2, .int ik, .ref w3, .int (nI tx), .int he, .int fa, .ref w4, .ref w5, .int (nI cl), .ref w6, .ref w7, .ref w8, .ref w9])), (w0, .inl (E 0, 137, .inl wv))]) [0, 1] rfl) (ci := 6) (q0 := 0) rfl rfl) rfl rfl hl.1 rfl (lv_room (Nat.le_of_ble_eq_true rfl)) dX8_fits_12 ⟨Nat.zero_le _, Nat.zero_le _⟩) (fun r_2 H locs hw_3 hP hS => ?_)
      rcases hw_3 with ⟨rfl, hw_3⟩ | ⟨rfl, hw_3⟩
      · skip
        have hA := hw_3
        refine zr_ti (y := nI 1) rfl ?_
        refine lv_if_eq (tgt := 24) hx hb dX8_fits_15 (by decide) (fun cn_4 => ?_) (fun cn_4 => ?_)
        · skip
          exact absurd cn_4 (by decide)
        · skip
          refine lv_iconst (v := nI 1) hx hb dX8_fits_18 (by rfl) ?_
          refine lv_iload_n hx hb dX8_fits_19 rfl (lv_at hl 2 rfl) ?_
          refine lv_ishl hx hb dX8_fits_20 ?_
          refine lv_goto (tgt := 25) hx hb dX8_fits_21 (by decide) ?_
          refine lv_ior hx hb dX8_fits_25 ?_
          refine lv_istore_n (lv' := [(1, .int (bb ||| ((nI 1) <<< ((nI k) &&& 31)))), (0, .ref m0), (2, .int (nI k))]) hx hb dX8_fits_26 rfl hl (by decide) rfl (fun ls hl => ?_)
          refine lv_iinc (v := nI (k + 1)) (lv' := [(2, .int (nI (k + 1))), (1, .int (bb ||| ((nI 1) <<< ((nI k) &&& 31)))), (0, .ref m0)]) hx hb dX8_fits_27 hl (k := 2) rfl (nI_add _ _) (by decide) rfl (fun ls hl => ?_)
          refine lv_goto (tgt := 4) hx hb dX8_fits_30 (by decide) ?_
          have hl : lv_has ls 3 [(0, .ref m0), (1, .int (bb ||| ((nI 1) <<< ((nI k) &&& 31)))), (2, .int (nI (k + 1)))] := lv_sub hl [2, 1, 0] rfl
          exact ih4 (k + 1) (bb ||| ((nI 1) <<< ((nI k) &&& 31))) H locs ls (by omega) (by rw [zm_fits, hbb]; first | rw [if_pos hA] | (rw [if_neg (by rw [hA]; exact Bool.false_ne_true)]; done) | (rw [if_neg (by rw [hA]; exact Bool.false_ne_true)]; exact zn_or0 _)) (by omega) hP hS hl
      · skip
        have hA := hw_3
        refine zr_ti (y := nI 0) rfl ?_
        refine lv_if_eq (tgt := 24) hx hb dX8_fits_15 (by decide) (fun cn_5 => ?_) (fun cn_5 => ?_)
        · skip
          refine lv_iconst (v := nI 0) hx hb dX8_fits_24 (by rfl) ?_
          refine lv_ior hx hb dX8_fits_25 ?_
          refine lv_istore_n (lv' := [(1, .int (bb ||| (nI 0))), (0, .ref m0), (2, .int (nI k))]) hx hb dX8_fits_26 rfl hl (by decide) rfl (fun ls hl => ?_)
          refine lv_iinc (v := nI (k + 1)) (lv' := [(2, .int (nI (k + 1))), (1, .int (bb ||| (nI 0))), (0, .ref m0)]) hx hb dX8_fits_27 hl (k := 2) rfl (nI_add _ _) (by decide) rfl (fun ls hl => ?_)
          refine lv_goto (tgt := 4) hx hb dX8_fits_30 (by decide) ?_
          have hl : lv_has ls 3 [(0, .ref m0), (1, .int (bb ||| (nI 0))), (2, .int (nI (k + 1)))] := lv_sub hl [2, 1, 0] rfl
          exact ih4 (k + 1) (bb ||| (nI 0)) H locs ls (by omega) (by rw [zm_fits, hbb]; first | rw [if_pos hA] | (rw [if_neg (by rw [hA]; exact Bool.false_ne_true)]; done) | (rw [if_neg (by rw [hA]; exact Bool.false_ne_true)]; exact zn_or0 _)) (by omega) hP hS hl
        · skip
          exact absurd cn_5 (by decide)

set_option maxHeartbeats 4000000 in
set_option maxRecDepth 100000 in
theorem c_X8_odds (l : Launch) (D : va_G) (E : Nat → ClassId) (m0 : Nat) (w0 : Nat) (w1 : Nat) (w2 : Nat) (w3 : Nat) (w4 : Nat) (w5 : Nat) (w6 : Nat) (w7 : Nat) (w8 : Nat) (w9 : Nat) (ik : Int32) (tx : Nat) (he : Int32) (fa : Int32) (cl : Nat) (wv : Nat → Int32) (N : Nat) (G : Nat → Nat → Nat) (P : Nat → Nat → Nat) (X : Nat → Nat) (Y : Nat → Nat) (B : Nat → Nat → Nat) (R : Nat → Nat) (kd : Nat) (sn : Nat) (sT : Nat → Nat) (sR : Nat → Nat) (sH : Nat → Nat) (en : Nat) (eW : Nat → Nat) (eN : Nat → Nat) (bn : Nat) (bT : Nat → Nat) (bN : Nat → Nat) (v : Int32) (w : Int32) (hva : zv_all N G P X Y B R kd sn sT sR sH en eW eN bn bT bN wv) (hzs : zs_all N kd sn sT sR sH en eW eN bn bT bN) : Met l yX8_odds wsX8_odds ({ frames := 4, cells := 0, slots := 0, locals := 91 }) (zr_P D E [.ref m0, .int v, .int w] [(m0, .inr (6, [.ref w0, .ref w1, .ref w2, .int ik, .ref w3, .int (nI tx), .int he, .int fa, .ref w4, .ref w5, .int (nI cl), .ref w6, .ref w7, .ref w8, .ref w9])), (w0, .inl (E 0, 137, .inl wv))]) (zr_Ql (fun zv => zv = cond (zi N v && zi 2 w) (lN (zm_low w (zm_sb N P kd (zq v)) (2 * (N - 1) - 1))) (-9223372036854775808))) 0 0 (fun _ => False) := by
  refine Met.ofW (cc := cX8_odds) (maxL := 3) (ret := (some .long)) (by decide) rfl ?_
  intro p e s m args below meth c s₁ Bz hml hv
  obtain ⟨rfl, hP, hK⟩ := hv
  have hx := Bz.exec
  have hb := Bz.bytes
  have hr := Bz.returns
  have hts := atoms_spec (ws := wsX8_odds) Bz.pre
  have hown : s.vm.findClass RX8 = some m.cls := findClass_of_methodNamed Bz.named
  have hlocks := Bz.notSynchronized
  have hP : va_P D vwCl [(m0, .inr (6, [.ref w0, .ref w1, .ref w2, .int ik, .ref w3, .int (nI tx), .int he, .int fa, .ref w4, .ref w5, .int (nI cl), .ref w6, .ref w7, .ref w8, .ref w9])), (w0, .inl (E 0, 137, .inl wv))] s.heap := hP
  have hS : va_S (fun _ : Nat => False) s.heap s.heap [] := va_S.rf
  have hl := lv_entry ([.ref m0, .int v, .int w]) (n := 3) (Nat.le_of_ble_eq_true rfl)
  rw [lg_entry_eq]
  generalize (lg_sl ([.ref m0, .int v, .int w]) ++ List.replicate (3 - (lg_sl ([.ref m0, .int v, .int w])).length) Slot.unset).toArray = ls at hl ⊢
  have hl : lv_has ls 3 [(0, .ref m0), (1, .int v), (2, .int w)] := hl
  refine zr_nQ (fun Q hQ => ?_)
  obtain ⟨hvg, hxy, hvb, hvr, hkv, hzc, hze, hzb, hn6, hn8, hm8⟩ := id hva
  obtain ⟨hkd, hse, hev, hbo⟩ := id hzs
  have hok := hvg.1
  have hN := hok.1
  have hvn := hvg.2.1
  have hgr := zm_gr_of hxy
  have hs0 := hse.1
  have hs1 := hev.1
  have hs2 := hbo.1
  refine lv_aload_n hx hb dX8_odds_0 rfl (lv_at hl 0 rfl) ?_
  refine lv_iload_n hx hb dX8_odds_1 rfl (lv_at hl 1 rfl) ?_
  refine zr_ci hP hS (va_runV (As := [.int v]) (rest := []) ⟨hx, hb, hml, hown, hts⟩ (c_X8_isTeam l D E m0 w0 w1 w2 w3 w4 w5 w6 w7 w8 w9 ik tx he fa cl wv N v (hvn) (hN)) (cwV 1 hts gX8_odds_X8_isTeam rfl rfl rfl (by decide +kernel) ⟨Nat.le_of_ble_eq_true rfl, Nat.le_of_ble_eq_true rfl⟩) (zr_V hK (hP.sub (ws' := [(m0, .inr (6, [.ref w0, .ref w1, .ref w2, .int ik, .ref w3, .int (nI tx), .int he, .int fa, .ref w4, .ref w5, .int (nI cl), .ref w6, .ref w7, .ref w8, .ref w9])), (w0, .inl (E 0, 137, .inl wv))]) [0, 1] rfl) (ci := 6) (q0 := 0) rfl rfl) rfl rfl hl.1 rfl (lv_room (Nat.le_of_ble_eq_true rfl)) dX8_odds_2 ⟨Nat.zero_le _, Nat.zero_le _⟩) (fun r_1 H locs hw_2 hP hS => ?_)
  rcases hw_2 with ⟨rfl, hw_2⟩ | ⟨rfl, hw_2⟩
  · skip
    obtain ⟨t, ht, v_e⟩ := hw_2
    have e1 : zi N v = true := v_e ▸ zi_t ht (by omega)
    have q1 : zq v = t := v_e ▸ zq_t (by omega)
    rw [v_e] at hl
    refine zr_ti (y := nI 1) rfl ?_
    refine lv_if_eq (tgt := 37) hx hb dX8_odds_5 (by decide) (fun cn_3 => ?_) (fun cn_3 => ?_)
    · skip
      exact absurd cn_3 (by decide)
    · skip
      refine lv_iload_n hx hb dX8_odds_8 rfl (lv_at hl 2 rfl) ?_
      refine lv_iconst (v := nI 0) hx hb dX8_odds_9 (by rfl) ?_
      refine lv_iconst (v := nI 1) hx hb dX8_odds_10 (by rfl) ?_
      refine zr_ci hP hS (va_runS (As := [.int w, .int (nI 0), .int (nI 1)]) (rest := []) ⟨hx, hb, hml, hown, hts⟩ (c_X8_isIn l D E w (nI 0) (nI 1) ) (va_cwS 3 hts gX8_odds_X8_isIn rfl rfl rfl (by decide +kernel) ⟨Nat.le_of_ble_eq_true rfl, Nat.le_of_ble_eq_true rfl⟩) (zr_S hK (hP.sub (ws' := []) [] rfl)) rfl rfl hl.1 rfl (lv_room (Nat.le_of_ble_eq_true rfl)) dX8_odds_11 ⟨Nat.zero_le _, Nat.zero_le _⟩) (fun r_4 H locs hw_5 hP hS => ?_)
      rcases hw_5 with ⟨rfl, hw_5⟩ | ⟨rfl, hw_5⟩
      · skip
        have e2 : zi 2 w = true := by
          obtain ⟨a, ha9, hb9⟩ := zn_in3 (n := 2) (by omega) (by omega) hw_5.1 hw_5.2
          rw [hb9]; exact zi_t ha9 (by omega)
        have h01 : w = nI 0 ∨ w = nI 1 := by
          obtain ⟨a, ha9, hb9⟩ := zn_in3 (n := 2) (by omega) (by omega) hw_5.1 hw_5.2
          have h2 : a = 0 ∨ a = 1 := by omega
          rw [hb9]; rcases h2 with h2 | h2 <;> rw [h2] <;> simp
        refine zr_ti (y := nI 1) rfl ?_
        refine lv_if_eq (tgt := 37) hx hb dX8_odds_14 (by decide) (fun cn_6 => ?_) (fun cn_6 => ?_)
        · skip
          exact absurd cn_6 (by decide)
        · skip
          refine lv_aload_n hx hb dX8_odds_17 rfl (lv_at hl 0 rfl) ?_
          refine lv_iload_n hx hb dX8_odds_18 rfl (lv_at hl 1 rfl) ?_
          refine zr_ci hP hS (va_runV (As := [.int (nI t)]) (rest := []) ⟨hx, hb, hml, hown, hts⟩ (c_X8_seasonBreaks l D E m0 w0 w1 w2 w3 w4 w5 w6 w7 w8 w9 ik tx he fa cl wv N G P t kd (hvg) (by omega) (by omega) (hkv)) (cwV 1 hts gX8_odds_X8_seasonBreaks rfl rfl rfl (by decide +kernel) ⟨Nat.le_of_ble_eq_true rfl, Nat.le_of_ble_eq_true rfl⟩) (zr_V hK (hP.sub (ws' := [(m0, .inr (6, [.ref w0, .ref w1, .ref w2, .int ik, .ref w3, .int (nI tx), .int he, .int fa, .ref w4, .ref w5, .int (nI cl), .ref w6, .ref w7, .ref w8, .ref w9])), (w0, .inl (E 0, 137, .inl wv))]) [0, 1] rfl) (ci := 6) (q0 := 0) rfl rfl) rfl rfl hl.1 rfl (lv_room (Nat.le_of_ble_eq_true rfl)) dX8_odds_19 ⟨Nat.zero_le _, Nat.zero_le _⟩) (fun r_7 H locs hw_8 hP hS => ?_)
          subst hw_8
          have hsb := zm_sb_le (kd := kd) (t := t) (P := P) hN
          refine lv_iconst (v := nI 2) hx hb dX8_odds_22 (by rfl) ?_
          refine lv_aload_n hx hb dX8_odds_23 rfl (lv_at hl 0 rfl) ?_
          refine zr_ci hP hS (va_runV (As := []) (rest := [.int (nI 2), .int (nI (zm_sb N P kd t))]) ⟨hx, hb, hml, hown, hts⟩ (c_X8_rounds l D E m0 w0 w1 w2 w3 w4 w5 w6 w7 w8 w9 ik tx he fa cl wv N (hvn) (hN)) (cwV 0 hts gX8_odds_X8_rounds rfl rfl rfl (by decide +kernel) ⟨Nat.le_of_ble_eq_true rfl, Nat.le_of_ble_eq_true rfl⟩) (zr_V hK (hP.sub (ws' := [(m0, .inr (6, [.ref w0, .ref w1, .ref w2, .int ik, .ref w3, .int (nI tx), .int he, .int fa, .ref w4, .ref w5, .int (nI cl), .ref w6, .ref w7, .ref w8, .ref w9])), (w0, .inl (E 0, 137, .inl wv))]) [0, 1] rfl) (ci := 6) (q0 := 0) rfl rfl) rfl rfl hl.1 rfl (lv_room (Nat.le_of_ble_eq_true rfl)) dX8_odds_24 ⟨Nat.zero_le _, Nat.zero_le _⟩) (fun r_9 H locs hw_10 hP hS => ?_)
          subst hw_10
          refine lv_imul hx hb dX8_odds_27 ?_
          refine zr_ti (y := nI (2 * (N - 1))) (pk_mul _ _) ?_
          refine lv_iconst (v := nI 1) hx hb dX8_odds_28 (by rfl) ?_
          refine lv_isub hx hb dX8_odds_29 ?_
          refine zr_ti (y := nI ((2 * (N - 1)) - 1)) (pk_sub (by omega)) ?_
          refine lv_iload_n hx hb dX8_odds_30 rfl (lv_at hl 2 rfl) ?_
          refine zr_cl hP hS (va_runS (As := [.int (nI (zm_sb N P kd t)), .int (nI ((2 * (N - 1)) - 1)), .int w]) (rest := []) ⟨hx, hb, hml, hown, hts⟩ (c_X8_lowest l D E (zm_sb N P kd t) ((2 * (N - 1)) - 1) w (by omega) (by omega) (by omega) (h01)) (va_cwS 3 hts gX8_odds_X8_lowest rfl rfl rfl (by decide +kernel) ⟨Nat.le_of_ble_eq_true rfl, Nat.le_of_ble_eq_true rfl⟩) (zr_S hK (hP.sub (ws' := []) [] rfl)) rfl rfl hl.1 rfl (lv_room (Nat.le_of_ble_eq_true rfl)) dX8_odds_31 ⟨Nat.zero_le _, Nat.zero_le _⟩) (fun r_11 H locs hw_12 hP hS => ?_)
          subst hw_12
          refine lv_goto (tgt := 40) hx hb dX8_odds_34 (by decide) ?_
          subst hQ
          exact W.lret (v := lN (zm_low w (zm_sb N P kd t) ((2 * (N - 1)) - 1))) hx hb hr (fun tz htz hWz => ⟨⟨lN (zm_low w (zm_sb N P kd t) ((2 * (N - 1)) - 1)), (), rfl, by first | (simp only [cond_true, cond_false, Bool.and_true, Bool.and_false, Bool.true_and, Bool.false_and, e1]; done) | (simp only [cond_true, cond_false, Bool.and_true, Bool.and_false, Bool.true_and, Bool.false_and, e1, e2]; done) | (simp only [cond_true, cond_false, Bool.and_true, Bool.and_false, Bool.true_and, Bool.false_and, e1, e2, q1]; done), trivial⟩, hS.F htz⟩) hS.2.2 dX8_odds_40
      · skip
        have e2 : zi 2 w = false := zi_f (zn_out3 (n := 2) (by omega) hw_5)
        refine zr_ti (y := nI 0) rfl ?_
        refine lv_if_eq (tgt := 37) hx hb dX8_odds_14 (by decide) (fun cn_13 => ?_) (fun cn_13 => ?_)
        · skip
          refine lv_ldc2 (v := (-9223372036854775808)) hx hb hown (hts (.constantLong RX8 247 (-9223372036854775808)) (by decide +kernel)) dX8_odds_37 ?_
          subst hQ
          exact W.lret (v := (-9223372036854775808)) hx hb hr (fun tz htz hWz => ⟨⟨(-9223372036854775808), (), rfl, by first | (simp only [cond_true, cond_false, Bool.and_true, Bool.and_false, Bool.true_and, Bool.false_and, e1]; done) | (simp only [cond_true, cond_false, Bool.and_true, Bool.and_false, Bool.true_and, Bool.false_and, e1, e2]; done) | (simp only [cond_true, cond_false, Bool.and_true, Bool.and_false, Bool.true_and, Bool.false_and, e1, e2, q1]; done), trivial⟩, hS.F htz⟩) hS.2.2 dX8_odds_40
        · skip
          exact absurd cn_13 (by decide)
  · skip
    have e1 : zi N v = false := zi_f hw_2
    refine zr_ti (y := nI 0) rfl ?_
    refine lv_if_eq (tgt := 37) hx hb dX8_odds_5 (by decide) (fun cn_14 => ?_) (fun cn_14 => ?_)
    · skip
      refine lv_ldc2 (v := (-9223372036854775808)) hx hb hown (hts (.constantLong RX8 247 (-9223372036854775808)) (by decide +kernel)) dX8_odds_37 ?_
      subst hQ
      exact W.lret (v := (-9223372036854775808)) hx hb hr (fun tz htz hWz => ⟨⟨(-9223372036854775808), (), rfl, by first | (simp only [cond_true, cond_false, Bool.and_true, Bool.and_false, Bool.true_and, Bool.false_and, e1]; done) | (simp only [cond_true, cond_false, Bool.and_true, Bool.and_false, Bool.true_and, Bool.false_and, e1, e2]; done) | (simp only [cond_true, cond_false, Bool.and_true, Bool.and_false, Bool.true_and, Bool.false_and, e1, e2, q1]; done), trivial⟩, hS.F htz⟩) hS.2.2 dX8_odds_40
    · skip
      exact absurd cn_14 (by decide)

set_option maxHeartbeats 4000000 in
set_option maxRecDepth 100000 in
theorem c_X8_mean (l : Launch) (D : va_G) (E : Nat → ClassId) (m0 : Nat) (w0 : Nat) (w1 : Nat) (w2 : Nat) (w3 : Nat) (w4 : Nat) (w5 : Nat) (w6 : Nat) (w7 : Nat) (w8 : Nat) (w9 : Nat) (ik : Int32) (tx : Nat) (he : Int32) (fa : Int32) (cl : Nat) (wv : Nat → Int32) (N : Nat) (G : Nat → Nat → Nat) (P : Nat → Nat → Nat) (X : Nat → Nat) (Y : Nat → Nat) (B : Nat → Nat → Nat) (R : Nat → Nat) (kd : Nat) (sn : Nat) (sT : Nat → Nat) (sR : Nat → Nat) (sH : Nat → Nat) (en : Nat) (eW : Nat → Nat) (eN : Nat → Nat) (bn : Nat) (bT : Nat → Nat) (bN : Nat → Nat) (v : Int32) (hva : zv_all N G P X Y B R kd sn sT sR sH en eW eN bn bT bN wv) (hzs : zs_all N kd sn sT sR sH en eW eN bn bT bN) : Met l yX8_mean wsX8_mean ({ frames := 4, cells := 0, slots := 0, locals := 90 }) (zr_P D E [.ref m0, .int v] [(m0, .inr (6, [.ref w0, .ref w1, .ref w2, .int ik, .ref w3, .int (nI tx), .int he, .int fa, .ref w4, .ref w5, .int (nI cl), .ref w6, .ref w7, .ref w8, .ref w9])), (w0, .inl (E 0, 137, .inl wv))]) (zr_Ql (fun zv => zv = cond (zi 2 v) (lN (zm_low v (zm_brs N P) N)) (-9223372036854775808))) 0 0 (fun _ => False) := by
  refine Met.ofW (cc := cX8_mean) (maxL := 2) (ret := (some .long)) (by decide) rfl ?_
  intro p e s m args below meth c s₁ Bz hml hv
  obtain ⟨rfl, hP, hK⟩ := hv
  have hx := Bz.exec
  have hb := Bz.bytes
  have hr := Bz.returns
  have hts := atoms_spec (ws := wsX8_mean) Bz.pre
  have hown : s.vm.findClass RX8 = some m.cls := findClass_of_methodNamed Bz.named
  have hlocks := Bz.notSynchronized
  have hP : va_P D vwCl [(m0, .inr (6, [.ref w0, .ref w1, .ref w2, .int ik, .ref w3, .int (nI tx), .int he, .int fa, .ref w4, .ref w5, .int (nI cl), .ref w6, .ref w7, .ref w8, .ref w9])), (w0, .inl (E 0, 137, .inl wv))] s.heap := hP
  have hS : va_S (fun _ : Nat => False) s.heap s.heap [] := va_S.rf
  have hl := lv_entry ([.ref m0, .int v]) (n := 2) (Nat.le_of_ble_eq_true rfl)
  rw [lg_entry_eq]
  generalize (lg_sl ([.ref m0, .int v]) ++ List.replicate (2 - (lg_sl ([.ref m0, .int v])).length) Slot.unset).toArray = ls at hl ⊢
  have hl : lv_has ls 2 [(0, .ref m0), (1, .int v)] := hl
  refine zr_nQ (fun Q hQ => ?_)
  obtain ⟨hvg, hxy, hvb, hvr, hkv, hzc, hze, hzb, hn6, hn8, hm8⟩ := id hva
  obtain ⟨hkd, hse, hev, hbo⟩ := id hzs
  have hok := hvg.1
  have hN := hok.1
  have hvn := hvg.2.1
  have hgr := zm_gr_of hxy
  have hs0 := hse.1
  have hs1 := hev.1
  have hs2 := hbo.1
  have hbs := zm_brs_le (P := P) hN
  refine lv_iload_n hx hb dX8_mean_0 rfl (lv_at hl 1 rfl) ?_
  refine lv_iconst (v := nI 0) hx hb dX8_mean_1 (by rfl) ?_
  refine lv_iconst (v := nI 1) hx hb dX8_mean_2 (by rfl) ?_
  refine zr_ci hP hS (va_runS (As := [.int v, .int (nI 0), .int (nI 1)]) (rest := []) ⟨hx, hb, hml, hown, hts⟩ (c_X8_isIn l D E v (nI 0) (nI 1) ) (va_cwS 3 hts gX8_mean_X8_isIn rfl rfl rfl (by decide +kernel) ⟨Nat.le_of_ble_eq_true rfl, Nat.le_of_ble_eq_true rfl⟩) (zr_S hK (hP.sub (ws' := []) [] rfl)) rfl rfl hl.1 rfl (lv_room (Nat.le_of_ble_eq_true rfl)) dX8_mean_3 ⟨Nat.zero_le _, Nat.zero_le _⟩) (fun r_1 H locs hw_2 hP hS => ?_)
  rcases hw_2 with ⟨rfl, hw_2⟩ | ⟨rfl, hw_2⟩
  · skip
    have e1 : zi 2 v = true := by
      obtain ⟨a, ha9, hb9⟩ := zn_in3 (n := 2) (by omega) (by omega) hw_2.1 hw_2.2
      rw [hb9]; exact zi_t ha9 (by omega)
    have h01 : v = nI 0 ∨ v = nI 1 := by
      obtain ⟨a, ha9, hb9⟩ := zn_in3 (n := 2) (by omega) (by omega) hw_2.1 hw_2.2
      have h2 : a = 0 ∨ a = 1 := by omega
      rw [hb9]; rcases h2 with h2 | h2 <;> rw [h2] <;> simp
    refine zr_ti (y := nI 1) rfl ?_
    refine lv_if_eq (tgt := 26) hx hb dX8_mean_6 (by decide) (fun cn_3 => ?_) (fun cn_3 => ?_)
    · skip
      exact absurd cn_3 (by decide)
    · skip
      refine lv_aload_n hx hb dX8_mean_9 rfl (lv_at hl 0 rfl) ?_
      refine zr_ci hP hS (va_runV (As := []) (rest := []) ⟨hx, hb, hml, hown, hts⟩ (c_X8_allBreaks l D E m0 w0 w1 w2 w3 w4 w5 w6 w7 w8 w9 ik tx he fa cl wv N G P (hvg)) (cwV 0 hts gX8_mean_X8_allBreaks rfl rfl rfl (by decide +kernel) ⟨Nat.le_of_ble_eq_true rfl, Nat.le_of_ble_eq_true rfl⟩) (zr_V hK (hP.sub (ws' := [(m0, .inr (6, [.ref w0, .ref w1, .ref w2, .int ik, .ref w3, .int (nI tx), .int he, .int fa, .ref w4, .ref w5, .int (nI cl), .ref w6, .ref w7, .ref w8, .ref w9])), (w0, .inl (E 0, 137, .inl wv))]) [0, 1] rfl) (ci := 6) (q0 := 0) rfl rfl) rfl rfl hl.1 rfl (lv_room (Nat.le_of_ble_eq_true rfl)) dX8_mean_10 ⟨Nat.zero_le _, Nat.zero_le _⟩) (fun r_4 H locs hw_5 hP hS => ?_)
      subst hw_5
      refine lv_aload_n hx hb dX8_mean_13 rfl (lv_at hl 0 rfl) ?_
      refine va_get (D := D) (ci := 6) (v := .ref w0) (C := RX8) (T := TX8) (N := 15) hx hb hts (by decide +kernel) hown hK.1 hP 0 rfl rfl 0 (by decide) (hts (.fieldLink RX8 11 "HomeRoundsModel" "w" "[I") (by decide +kernel)) (fun _ h9 => h9) rfl dX8_mean_14 ?_
      refine lv_iconst (v := nI 0) hx hb dX8_mean_17 (by rfl) ?_
      refine va_iald hx hb hK.1 hP 1 0 rfl rfl (vp_in_nI (by omega) (by omega)) dX8_mean_18 ?_
      refine zr_ti (y := nI N) ((congrArg wv (nI_clamp (by omega))).trans (hvn)) ?_
      refine lv_iload_n hx hb dX8_mean_19 rfl (lv_at hl 1 rfl) ?_
      refine zr_cl hP hS (va_runS (As := [.int (nI (zm_brs N P)), .int (nI N), .int v]) (rest := []) ⟨hx, hb, hml, hown, hts⟩ (c_X8_lowest l D E (zm_brs N P) N v (by omega) (by omega) (by omega) (h01)) (va_cwS 3 hts gX8_mean_X8_lowest rfl rfl rfl (by decide +kernel) ⟨Nat.le_of_ble_eq_true rfl, Nat.le_of_ble_eq_true rfl⟩) (zr_S hK (hP.sub (ws' := []) [] rfl)) rfl rfl hl.1 rfl (lv_room (Nat.le_of_ble_eq_true rfl)) dX8_mean_20 ⟨Nat.zero_le _, Nat.zero_le _⟩) (fun r_6 H locs hw_7 hP hS => ?_)
      subst hw_7
      refine lv_goto (tgt := 29) hx hb dX8_mean_23 (by decide) ?_
      subst hQ
      exact W.lret (v := lN (zm_low v (zm_brs N P) N)) hx hb hr (fun tz htz hWz => ⟨⟨lN (zm_low v (zm_brs N P) N), (), rfl, by simp only [cond_true, cond_false, Bool.and_true, Bool.and_false, Bool.true_and, Bool.false_and, e1], trivial⟩, hS.F htz⟩) hS.2.2 dX8_mean_29
  · skip
    have e1 : zi 2 v = false := zi_f (zn_out3 (n := 2) (by omega) hw_2)
    refine zr_ti (y := nI 0) rfl ?_
    refine lv_if_eq (tgt := 26) hx hb dX8_mean_6 (by decide) (fun cn_8 => ?_) (fun cn_8 => ?_)
    · skip
      refine lv_ldc2 (v := (-9223372036854775808)) hx hb hown (hts (.constantLong RX8 247 (-9223372036854775808)) (by decide +kernel)) dX8_mean_26 ?_
      subst hQ
      exact W.lret (v := (-9223372036854775808)) hx hb hr (fun tz htz hWz => ⟨⟨(-9223372036854775808), (), rfl, by simp only [cond_true, cond_false, Bool.and_true, Bool.and_false, Bool.true_and, Bool.false_and, e1], trivial⟩, hS.F htz⟩) hS.2.2 dX8_mean_29
    · skip
      exact absurd cn_8 (by decide)

set_option maxHeartbeats 4000000 in
set_option maxRecDepth 100000 in
theorem c_X8_isEvent_0 (l : Launch) (D : va_G) (E : Nat → ClassId) (m0 : Nat) (w0 : Nat) (w1 : Nat) (w2 : Nat) (w3 : Nat) (w4 : Nat) (w5 : Nat) (w6 : Nat) (w7 : Nat) (w8 : Nat) (w9 : Nat) (ik : Int32) (tx : Nat) (he : Int32) (fa : Int32) (cl : Nat) (wv : Nat → Int32) (N : Nat) (x : Nat) (hvn : wv 0 = nI N) (hN : N = 4 ∨ N = 6) (hx9 : x < 2147483648) : Met l yX8_isEvent wsX8_isEvent ({ frames := 2, cells := 0, slots := 0, locals := 43 }) (zr_P D E [.ref m0, .int (nI 0), .int (nI (x / 10)), .int (nI (x % 10))] [(m0, .inr (6, [.ref w0, .ref w1, .ref w2, .int ik, .ref w3, .int (nI tx), .int he, .int fa, .ref w4, .ref w5, .int (nI cl), .ref w6, .ref w7, .ref w8, .ref w9])), (w0, .inl (E 0, 137, .inl wv))]) (zr_Qi (fun zv => (zv = 1 ∧ (zc_k N 0 x = true)) ∨ (zv = 0 ∧ (zc_k N 0 x = false)))) 0 0 (fun _ => False) := by
  refine Met.ofW (cc := cX8_isEvent) (maxL := 4) (ret := (some .boolean)) (by decide) rfl ?_
  intro p e s m args below meth c s₁ Bz hml hv
  obtain ⟨rfl, hP, hK⟩ := hv
  have hx := Bz.exec
  have hb := Bz.bytes
  have hr := Bz.returns
  have hts := atoms_spec (ws := wsX8_isEvent) Bz.pre
  have hown : s.vm.findClass RX8 = some m.cls := findClass_of_methodNamed Bz.named
  have hlocks := Bz.notSynchronized
  have hP : va_P D vwCl [(m0, .inr (6, [.ref w0, .ref w1, .ref w2, .int ik, .ref w3, .int (nI tx), .int he, .int fa, .ref w4, .ref w5, .int (nI cl), .ref w6, .ref w7, .ref w8, .ref w9])), (w0, .inl (E 0, 137, .inl wv))] s.heap := hP
  have hS : va_S (fun _ : Nat => False) s.heap s.heap [] := va_S.rf
  have hl := lv_entry ([.ref m0, .int (nI 0), .int (nI (x / 10)), .int (nI (x % 10))]) (n := 4) (Nat.le_of_ble_eq_true rfl)
  rw [lg_entry_eq]
  generalize (lg_sl ([.ref m0, .int (nI 0), .int (nI (x / 10)), .int (nI (x % 10))]) ++ List.replicate (4 - (lg_sl ([.ref m0, .int (nI 0), .int (nI (x / 10)), .int (nI (x % 10))])).length) Slot.unset).toArray = ls at hl ⊢
  have hl : lv_has ls 4 [(0, .ref m0), (1, .int (nI 0)), (2, .int (nI (x / 10))), (3, .int (nI (x % 10)))] := hl
  refine zr_nQ (fun Q hQ => ?_)
  refine lv_iload_n hx hb dX8_isEvent_0 rfl (lv_at hl 1 rfl) ?_
  refine lv_tableIn (x := nI 0) (off := 27) (tgt := 28) hx hb dX8_isEvent_1 (by decide +kernel) (by decide +kernel) (by decide +kernel) (by decide) ?_
  refine lv_aload_n hx hb dX8_isEvent_28 rfl (lv_at hl 0 rfl) ?_
  refine lv_iload_n hx hb dX8_isEvent_29 rfl (lv_at hl 2 rfl) ?_
  refine zr_ci hP hS (va_runV (As := [.int (nI (x / 10))]) (rest := []) ⟨hx, hb, hml, hown, hts⟩ (c_X8_isRound l D E m0 w0 w1 w2 w3 w4 w5 w6 w7 w8 w9 ik tx he fa cl wv N (nI (x / 10)) (hvn) (hN)) (cwV 1 hts gX8_isEvent_X8_isRound rfl rfl rfl (by decide +kernel) ⟨Nat.le_of_ble_eq_true rfl, Nat.le_of_ble_eq_true rfl⟩) (zr_V hK (hP.sub (ws' := [(m0, .inr (6, [.ref w0, .ref w1, .ref w2, .int ik, .ref w3, .int (nI tx), .int he, .int fa, .ref w4, .ref w5, .int (nI cl), .ref w6, .ref w7, .ref w8, .ref w9])), (w0, .inl (E 0, 137, .inl wv))]) [0, 1] rfl) (ci := 6) (q0 := 0) rfl rfl) rfl rfl hl.1 rfl (lv_room (Nat.le_of_ble_eq_true rfl)) dX8_isEvent_30 ⟨Nat.zero_le _, Nat.zero_le _⟩) (fun r_1 H locs hw_2 hP hS => ?_)
  rcases hw_2 with ⟨rfl, hw_2⟩ | ⟨rfl, hw_2⟩
  · skip
    obtain ⟨tqa, hqa1, hqa2⟩ := hw_2
    have hqa3 := (nI_eq (by omega) (by omega)).mp hqa2
    have qa : x / 10 < N - 1 := by omega
    refine zr_ti (y := nI 1) rfl ?_
    refine lv_if_eq (tgt := 48) hx hb dX8_isEvent_33 (by decide) (fun cn_3 => ?_) (fun cn_3 => ?_)
    · skip
      exact absurd cn_3 (by decide)
    · skip
      refine lv_aload_n hx hb dX8_isEvent_36 rfl (lv_at hl 0 rfl) ?_
      refine lv_iload_n hx hb dX8_isEvent_37 rfl (lv_at hl 3 rfl) ?_
      refine zr_ci hP hS (va_runV (As := [.int (nI (x % 10))]) (rest := []) ⟨hx, hb, hml, hown, hts⟩ (c_X8_isRound l D E m0 w0 w1 w2 w3 w4 w5 w6 w7 w8 w9 ik tx he fa cl wv N (nI (x % 10)) (hvn) (hN)) (cwV 1 hts gX8_isEvent_X8_isRound rfl rfl rfl (by decide +kernel) ⟨Nat.le_of_ble_eq_true rfl, Nat.le_of_ble_eq_true rfl⟩) (zr_V hK (hP.sub (ws' := [(m0, .inr (6, [.ref w0, .ref w1, .ref w2, .int ik, .ref w3, .int (nI tx), .int he, .int fa, .ref w4, .ref w5, .int (nI cl), .ref w6, .ref w7, .ref w8, .ref w9])), (w0, .inl (E 0, 137, .inl wv))]) [0, 1] rfl) (ci := 6) (q0 := 0) rfl rfl) rfl rfl hl.1 rfl (lv_room (Nat.le_of_ble_eq_true rfl)) dX8_isEvent_38 ⟨Nat.zero_le _, Nat.zero_le _⟩) (fun r_4 H locs hw_5 hP hS => ?_)
      rcases hw_5 with ⟨rfl, hw_5⟩ | ⟨rfl, hw_5⟩
      · skip
        obtain ⟨tqb, hqb1, hqb2⟩ := hw_5
        have hqb3 := (nI_eq (by omega) (by omega)).mp hqb2
        have qb : x % 10 < N - 1 := by omega
        refine zr_ti (y := nI 1) rfl ?_
        refine lv_if_eq (tgt := 48) hx hb dX8_isEvent_41 (by decide) (fun cn_6 => ?_) (fun cn_6 => ?_)
        · skip
          exact absurd cn_6 (by decide)
        · skip
          refine lv_iconst (v := nI 1) hx hb dX8_isEvent_44 (by rfl) ?_
          refine lv_goto (tgt := 49) hx hb dX8_isEvent_45 (by decide) ?_
          subst hQ
          exact W.zret (v := nI 1) hx hb hr (by decide) (fun tz htz hWz => ⟨⟨nI 1, (), rfl, Or.inl ⟨rfl, zc_k2_t qa qb⟩, trivial⟩, hS.F htz⟩) hS.2.2 dX8_isEvent_49
      · skip
        have nqb : ¬ x % 10 < N - 1 := fun q => hw_5 _ q rfl
        refine zr_ti (y := nI 0) rfl ?_
        refine lv_if_eq (tgt := 48) hx hb dX8_isEvent_41 (by decide) (fun cn_7 => ?_) (fun cn_7 => ?_)
        · skip
          refine lv_iconst (v := nI 0) hx hb dX8_isEvent_48 (by rfl) ?_
          subst hQ
          exact W.zret (v := nI 0) hx hb hr (by decide) (fun tz htz hWz => ⟨⟨nI 0, (), rfl, by first | exact Or.inr ⟨rfl, zc_k2_f (fun q => nqa q.1)⟩ | exact Or.inr ⟨rfl, zc_k2_f (fun q => nqb q.2)⟩, trivial⟩, hS.F htz⟩) hS.2.2 dX8_isEvent_49
        · skip
          exact absurd cn_7 (by decide)
  · skip
    have nqa : ¬ x / 10 < N - 1 := fun q => hw_2 _ q rfl
    refine zr_ti (y := nI 0) rfl ?_
    refine lv_if_eq (tgt := 48) hx hb dX8_isEvent_33 (by decide) (fun cn_8 => ?_) (fun cn_8 => ?_)
    · skip
      refine lv_iconst (v := nI 0) hx hb dX8_isEvent_48 (by rfl) ?_
      subst hQ
      exact W.zret (v := nI 0) hx hb hr (by decide) (fun tz htz hWz => ⟨⟨nI 0, (), rfl, by first | exact Or.inr ⟨rfl, zc_k2_f (fun q => nqa q.1)⟩ | exact Or.inr ⟨rfl, zc_k2_f (fun q => nqb q.2)⟩, trivial⟩, hS.F htz⟩) hS.2.2 dX8_isEvent_49
    · skip
      exact absurd cn_8 (by decide)

set_option maxHeartbeats 4000000 in
set_option maxRecDepth 100000 in
theorem c_X8_isEvent_1 (l : Launch) (D : va_G) (E : Nat → ClassId) (m0 : Nat) (w0 : Nat) (w1 : Nat) (w2 : Nat) (w3 : Nat) (w4 : Nat) (w5 : Nat) (w6 : Nat) (w7 : Nat) (w8 : Nat) (w9 : Nat) (ik : Int32) (tx : Nat) (he : Int32) (fa : Int32) (cl : Nat) (wv : Nat → Int32) (N : Nat) (x : Nat) (hvn : wv 0 = nI N) (hN : N = 4 ∨ N = 6) (hx9 : x < 2147483648) : Met l yX8_isEvent wsX8_isEvent ({ frames := 2, cells := 0, slots := 0, locals := 43 }) (zr_P D E [.ref m0, .int (nI 1), .int (nI (x / 10)), .int (nI (x % 10))] [(m0, .inr (6, [.ref w0, .ref w1, .ref w2, .int ik, .ref w3, .int (nI tx), .int he, .int fa, .ref w4, .ref w5, .int (nI cl), .ref w6, .ref w7, .ref w8, .ref w9])), (w0, .inl (E 0, 137, .inl wv))]) (zr_Qi (fun zv => (zv = 1 ∧ (zc_k N 1 x = true)) ∨ (zv = 0 ∧ (zc_k N 1 x = false)))) 0 0 (fun _ => False) := by
  refine Met.ofW (cc := cX8_isEvent) (maxL := 4) (ret := (some .boolean)) (by decide) rfl ?_
  intro p e s m args below meth c s₁ Bz hml hv
  obtain ⟨rfl, hP, hK⟩ := hv
  have hx := Bz.exec
  have hb := Bz.bytes
  have hr := Bz.returns
  have hts := atoms_spec (ws := wsX8_isEvent) Bz.pre
  have hown : s.vm.findClass RX8 = some m.cls := findClass_of_methodNamed Bz.named
  have hlocks := Bz.notSynchronized
  have hP : va_P D vwCl [(m0, .inr (6, [.ref w0, .ref w1, .ref w2, .int ik, .ref w3, .int (nI tx), .int he, .int fa, .ref w4, .ref w5, .int (nI cl), .ref w6, .ref w7, .ref w8, .ref w9])), (w0, .inl (E 0, 137, .inl wv))] s.heap := hP
  have hS : va_S (fun _ : Nat => False) s.heap s.heap [] := va_S.rf
  have hl := lv_entry ([.ref m0, .int (nI 1), .int (nI (x / 10)), .int (nI (x % 10))]) (n := 4) (Nat.le_of_ble_eq_true rfl)
  rw [lg_entry_eq]
  generalize (lg_sl ([.ref m0, .int (nI 1), .int (nI (x / 10)), .int (nI (x % 10))]) ++ List.replicate (4 - (lg_sl ([.ref m0, .int (nI 1), .int (nI (x / 10)), .int (nI (x % 10))])).length) Slot.unset).toArray = ls at hl ⊢
  have hl : lv_has ls 4 [(0, .ref m0), (1, .int (nI 1)), (2, .int (nI (x / 10))), (3, .int (nI (x % 10)))] := hl
  refine zr_nQ (fun Q hQ => ?_)
  refine lv_iload_n hx hb dX8_isEvent_0 rfl (lv_at hl 1 rfl) ?_
  refine lv_tableIn (x := nI 1) (off := 49) (tgt := 50) hx hb dX8_isEvent_1 (by decide +kernel) (by decide +kernel) (by decide +kernel) (by decide) ?_
  refine lv_aload_n hx hb dX8_isEvent_50 rfl (lv_at hl 0 rfl) ?_
  refine lv_iload_n hx hb dX8_isEvent_51 rfl (lv_at hl 2 rfl) ?_
  refine zr_ci hP hS (va_runV (As := [.int (nI (x / 10))]) (rest := []) ⟨hx, hb, hml, hown, hts⟩ (c_X8_isRound l D E m0 w0 w1 w2 w3 w4 w5 w6 w7 w8 w9 ik tx he fa cl wv N (nI (x / 10)) (hvn) (hN)) (cwV 1 hts gX8_isEvent_X8_isRound rfl rfl rfl (by decide +kernel) ⟨Nat.le_of_ble_eq_true rfl, Nat.le_of_ble_eq_true rfl⟩) (zr_V hK (hP.sub (ws' := [(m0, .inr (6, [.ref w0, .ref w1, .ref w2, .int ik, .ref w3, .int (nI tx), .int he, .int fa, .ref w4, .ref w5, .int (nI cl), .ref w6, .ref w7, .ref w8, .ref w9])), (w0, .inl (E 0, 137, .inl wv))]) [0, 1] rfl) (ci := 6) (q0 := 0) rfl rfl) rfl rfl hl.1 rfl (lv_room (Nat.le_of_ble_eq_true rfl)) dX8_isEvent_52 ⟨Nat.zero_le _, Nat.zero_le _⟩) (fun r_1 H locs hw_2 hP hS => ?_)
  rcases hw_2 with ⟨rfl, hw_2⟩ | ⟨rfl, hw_2⟩
  · skip
    obtain ⟨tqa, hqa1, hqa2⟩ := hw_2
    have hqa3 := (nI_eq (by omega) (by omega)).mp hqa2
    have qa : x / 10 < N - 1 := by omega
    refine zr_ti (y := nI 1) rfl ?_
    refine lv_if_eq (tgt := 70) hx hb dX8_isEvent_55 (by decide) (fun cn_3 => ?_) (fun cn_3 => ?_)
    · skip
      exact absurd cn_3 (by decide)
    · skip
      refine lv_aload_n hx hb dX8_isEvent_58 rfl (lv_at hl 0 rfl) ?_
      refine lv_iload_n hx hb dX8_isEvent_59 rfl (lv_at hl 3 rfl) ?_
      refine zr_ci hP hS (va_runV (As := [.int (nI (x % 10))]) (rest := []) ⟨hx, hb, hml, hown, hts⟩ (c_X8_isGame l D E m0 w0 w1 w2 w3 w4 w5 w6 w7 w8 w9 ik tx he fa cl wv N (nI (x % 10)) (hvn) (hN)) (cwV 1 hts gX8_isEvent_X8_isGame rfl rfl rfl (by decide +kernel) ⟨Nat.le_of_ble_eq_true rfl, Nat.le_of_ble_eq_true rfl⟩) (zr_V hK (hP.sub (ws' := [(m0, .inr (6, [.ref w0, .ref w1, .ref w2, .int ik, .ref w3, .int (nI tx), .int he, .int fa, .ref w4, .ref w5, .int (nI cl), .ref w6, .ref w7, .ref w8, .ref w9])), (w0, .inl (E 0, 137, .inl wv))]) [0, 1] rfl) (ci := 6) (q0 := 0) rfl rfl) rfl rfl hl.1 rfl (lv_room (Nat.le_of_ble_eq_true rfl)) dX8_isEvent_60 ⟨Nat.zero_le _, Nat.zero_le _⟩) (fun r_4 H locs hw_5 hP hS => ?_)
      rcases hw_5 with ⟨rfl, hw_5⟩ | ⟨rfl, hw_5⟩
      · skip
        obtain ⟨tqb, hqb1, hqb2⟩ := hw_5
        have hqb3 := (nI_eq (by omega) (by omega)).mp hqb2
        have qb : x % 10 < N / 2 := by omega
        refine zr_ti (y := nI 1) rfl ?_
        refine lv_if_eq (tgt := 70) hx hb dX8_isEvent_63 (by decide) (fun cn_6 => ?_) (fun cn_6 => ?_)
        · skip
          exact absurd cn_6 (by decide)
        · skip
          refine lv_iconst (v := nI 1) hx hb dX8_isEvent_66 (by rfl) ?_
          refine lv_goto (tgt := 71) hx hb dX8_isEvent_67 (by decide) ?_
          subst hQ
          exact W.zret (v := nI 1) hx hb hr (by decide) (fun tz htz hWz => ⟨⟨nI 1, (), rfl, Or.inl ⟨rfl, zc_k2_t qa qb⟩, trivial⟩, hS.F htz⟩) hS.2.2 dX8_isEvent_71
      · skip
        have nqb : ¬ x % 10 < N / 2 := fun q => hw_5 _ q rfl
        refine zr_ti (y := nI 0) rfl ?_
        refine lv_if_eq (tgt := 70) hx hb dX8_isEvent_63 (by decide) (fun cn_7 => ?_) (fun cn_7 => ?_)
        · skip
          refine lv_iconst (v := nI 0) hx hb dX8_isEvent_70 (by rfl) ?_
          subst hQ
          exact W.zret (v := nI 0) hx hb hr (by decide) (fun tz htz hWz => ⟨⟨nI 0, (), rfl, by first | exact Or.inr ⟨rfl, zc_k2_f (fun q => nqa q.1)⟩ | exact Or.inr ⟨rfl, zc_k2_f (fun q => nqb q.2)⟩, trivial⟩, hS.F htz⟩) hS.2.2 dX8_isEvent_71
        · skip
          exact absurd cn_7 (by decide)
  · skip
    have nqa : ¬ x / 10 < N - 1 := fun q => hw_2 _ q rfl
    refine zr_ti (y := nI 0) rfl ?_
    refine lv_if_eq (tgt := 70) hx hb dX8_isEvent_55 (by decide) (fun cn_8 => ?_) (fun cn_8 => ?_)
    · skip
      refine lv_iconst (v := nI 0) hx hb dX8_isEvent_70 (by rfl) ?_
      subst hQ
      exact W.zret (v := nI 0) hx hb hr (by decide) (fun tz htz hWz => ⟨⟨nI 0, (), rfl, by first | exact Or.inr ⟨rfl, zc_k2_f (fun q => nqa q.1)⟩ | exact Or.inr ⟨rfl, zc_k2_f (fun q => nqb q.2)⟩, trivial⟩, hS.F htz⟩) hS.2.2 dX8_isEvent_71
    · skip
      exact absurd cn_8 (by decide)

set_option maxHeartbeats 4000000 in
set_option maxRecDepth 100000 in
theorem c_X8_isEvent_2 (l : Launch) (D : va_G) (E : Nat → ClassId) (m0 : Nat) (w0 : Nat) (w1 : Nat) (w2 : Nat) (w3 : Nat) (w4 : Nat) (w5 : Nat) (w6 : Nat) (w7 : Nat) (w8 : Nat) (w9 : Nat) (ik : Int32) (tx : Nat) (he : Int32) (fa : Int32) (cl : Nat) (wv : Nat → Int32) (N : Nat) (x : Nat) (hvn : wv 0 = nI N) (hN : N = 4 ∨ N = 6) (hx9 : x < 2147483648) : Met l yX8_isEvent wsX8_isEvent ({ frames := 2, cells := 0, slots := 0, locals := 43 }) (zr_P D E [.ref m0, .int (nI 2), .int (nI (x / 10)), .int (nI (x % 10))] [(m0, .inr (6, [.ref w0, .ref w1, .ref w2, .int ik, .ref w3, .int (nI tx), .int he, .int fa, .ref w4, .ref w5, .int (nI cl), .ref w6, .ref w7, .ref w8, .ref w9])), (w0, .inl (E 0, 137, .inl wv))]) (zr_Qi (fun zv => (zv = 1 ∧ (zc_k N 2 x = true)) ∨ (zv = 0 ∧ (zc_k N 2 x = false)))) 0 0 (fun _ => False) := by
  refine Met.ofW (cc := cX8_isEvent) (maxL := 4) (ret := (some .boolean)) (by decide) rfl ?_
  intro p e s m args below meth c s₁ Bz hml hv
  obtain ⟨rfl, hP, hK⟩ := hv
  have hx := Bz.exec
  have hb := Bz.bytes
  have hr := Bz.returns
  have hts := atoms_spec (ws := wsX8_isEvent) Bz.pre
  have hown : s.vm.findClass RX8 = some m.cls := findClass_of_methodNamed Bz.named
  have hlocks := Bz.notSynchronized
  have hP : va_P D vwCl [(m0, .inr (6, [.ref w0, .ref w1, .ref w2, .int ik, .ref w3, .int (nI tx), .int he, .int fa, .ref w4, .ref w5, .int (nI cl), .ref w6, .ref w7, .ref w8, .ref w9])), (w0, .inl (E 0, 137, .inl wv))] s.heap := hP
  have hS : va_S (fun _ : Nat => False) s.heap s.heap [] := va_S.rf
  have hl := lv_entry ([.ref m0, .int (nI 2), .int (nI (x / 10)), .int (nI (x % 10))]) (n := 4) (Nat.le_of_ble_eq_true rfl)
  rw [lg_entry_eq]
  generalize (lg_sl ([.ref m0, .int (nI 2), .int (nI (x / 10)), .int (nI (x % 10))]) ++ List.replicate (4 - (lg_sl ([.ref m0, .int (nI 2), .int (nI (x / 10)), .int (nI (x % 10))])).length) Slot.unset).toArray = ls at hl ⊢
  have hl : lv_has ls 4 [(0, .ref m0), (1, .int (nI 2)), (2, .int (nI (x / 10))), (3, .int (nI (x % 10)))] := hl
  refine zr_nQ (fun Q hQ => ?_)
  refine lv_iload_n hx hb dX8_isEvent_0 rfl (lv_at hl 1 rfl) ?_
  refine lv_tableIn (x := nI 2) (off := 71) (tgt := 72) hx hb dX8_isEvent_1 (by decide +kernel) (by decide +kernel) (by decide +kernel) (by decide) ?_
  refine lv_aload_n hx hb dX8_isEvent_72 rfl (lv_at hl 0 rfl) ?_
  refine lv_iload_n hx hb dX8_isEvent_73 rfl (lv_at hl 2 rfl) ?_
  refine zr_ci hP hS (va_runV (As := [.int (nI (x / 10))]) (rest := []) ⟨hx, hb, hml, hown, hts⟩ (c_X8_isTeam l D E m0 w0 w1 w2 w3 w4 w5 w6 w7 w8 w9 ik tx he fa cl wv N (nI (x / 10)) (hvn) (hN)) (cwV 1 hts gX8_isEvent_X8_isTeam rfl rfl rfl (by decide +kernel) ⟨Nat.le_of_ble_eq_true rfl, Nat.le_of_ble_eq_true rfl⟩) (zr_V hK (hP.sub (ws' := [(m0, .inr (6, [.ref w0, .ref w1, .ref w2, .int ik, .ref w3, .int (nI tx), .int he, .int fa, .ref w4, .ref w5, .int (nI cl), .ref w6, .ref w7, .ref w8, .ref w9])), (w0, .inl (E 0, 137, .inl wv))]) [0, 1] rfl) (ci := 6) (q0 := 0) rfl rfl) rfl rfl hl.1 rfl (lv_room (Nat.le_of_ble_eq_true rfl)) dX8_isEvent_74 ⟨Nat.zero_le _, Nat.zero_le _⟩) (fun r_1 H locs hw_2 hP hS => ?_)
  rcases hw_2 with ⟨rfl, hw_2⟩ | ⟨rfl, hw_2⟩
  · skip
    obtain ⟨tqa, hqa1, hqa2⟩ := hw_2
    have hqa3 := (nI_eq (by omega) (by omega)).mp hqa2
    have qa : x / 10 < N := by omega
    refine zr_ti (y := nI 1) rfl ?_
    refine lv_if_eq (tgt := 92) hx hb dX8_isEvent_77 (by decide) (fun cn_3 => ?_) (fun cn_3 => ?_)
    · skip
      exact absurd cn_3 (by decide)
    · skip
      refine lv_aload_n hx hb dX8_isEvent_80 rfl (lv_at hl 0 rfl) ?_
      refine lv_iload_n hx hb dX8_isEvent_81 rfl (lv_at hl 3 rfl) ?_
      refine zr_ci hP hS (va_runV (As := [.int (nI (x % 10))]) (rest := []) ⟨hx, hb, hml, hown, hts⟩ (c_X8_isTeam l D E m0 w0 w1 w2 w3 w4 w5 w6 w7 w8 w9 ik tx he fa cl wv N (nI (x % 10)) (hvn) (hN)) (cwV 1 hts gX8_isEvent_X8_isTeam rfl rfl rfl (by decide +kernel) ⟨Nat.le_of_ble_eq_true rfl, Nat.le_of_ble_eq_true rfl⟩) (zr_V hK (hP.sub (ws' := [(m0, .inr (6, [.ref w0, .ref w1, .ref w2, .int ik, .ref w3, .int (nI tx), .int he, .int fa, .ref w4, .ref w5, .int (nI cl), .ref w6, .ref w7, .ref w8, .ref w9])), (w0, .inl (E 0, 137, .inl wv))]) [0, 1] rfl) (ci := 6) (q0 := 0) rfl rfl) rfl rfl hl.1 rfl (lv_room (Nat.le_of_ble_eq_true rfl)) dX8_isEvent_82 ⟨Nat.zero_le _, Nat.zero_le _⟩) (fun r_4 H locs hw_5 hP hS => ?_)
      rcases hw_5 with ⟨rfl, hw_5⟩ | ⟨rfl, hw_5⟩
      · skip
        obtain ⟨tqb, hqb1, hqb2⟩ := hw_5
        have hqb3 := (nI_eq (by omega) (by omega)).mp hqb2
        have qb : x % 10 < N := by omega
        refine zr_ti (y := nI 1) rfl ?_
        refine lv_if_eq (tgt := 92) hx hb dX8_isEvent_85 (by decide) (fun cn_6 => ?_) (fun cn_6 => ?_)
        · skip
          exact absurd cn_6 (by decide)
        · skip
          refine lv_iconst (v := nI 1) hx hb dX8_isEvent_88 (by rfl) ?_
          refine lv_goto (tgt := 93) hx hb dX8_isEvent_89 (by decide) ?_
          subst hQ
          exact W.zret (v := nI 1) hx hb hr (by decide) (fun tz htz hWz => ⟨⟨nI 1, (), rfl, Or.inl ⟨rfl, zc_k2_t qa qb⟩, trivial⟩, hS.F htz⟩) hS.2.2 dX8_isEvent_93
      · skip
        have nqb : ¬ x % 10 < N := fun q => hw_5 _ q rfl
        refine zr_ti (y := nI 0) rfl ?_
        refine lv_if_eq (tgt := 92) hx hb dX8_isEvent_85 (by decide) (fun cn_7 => ?_) (fun cn_7 => ?_)
        · skip
          refine lv_iconst (v := nI 0) hx hb dX8_isEvent_92 (by rfl) ?_
          subst hQ
          exact W.zret (v := nI 0) hx hb hr (by decide) (fun tz htz hWz => ⟨⟨nI 0, (), rfl, by first | exact Or.inr ⟨rfl, zc_k2_f (fun q => nqa q.1)⟩ | exact Or.inr ⟨rfl, zc_k2_f (fun q => nqb q.2)⟩, trivial⟩, hS.F htz⟩) hS.2.2 dX8_isEvent_93
        · skip
          exact absurd cn_7 (by decide)
  · skip
    have nqa : ¬ x / 10 < N := fun q => hw_2 _ q rfl
    refine zr_ti (y := nI 0) rfl ?_
    refine lv_if_eq (tgt := 92) hx hb dX8_isEvent_77 (by decide) (fun cn_8 => ?_) (fun cn_8 => ?_)
    · skip
      refine lv_iconst (v := nI 0) hx hb dX8_isEvent_92 (by rfl) ?_
      subst hQ
      exact W.zret (v := nI 0) hx hb hr (by decide) (fun tz htz hWz => ⟨⟨nI 0, (), rfl, by first | exact Or.inr ⟨rfl, zc_k2_f (fun q => nqa q.1)⟩ | exact Or.inr ⟨rfl, zc_k2_f (fun q => nqb q.2)⟩, trivial⟩, hS.F htz⟩) hS.2.2 dX8_isEvent_93
    · skip
      exact absurd cn_8 (by decide)

set_option maxHeartbeats 4000000 in
set_option maxRecDepth 100000 in
theorem c_X8_isEvent_3 (l : Launch) (D : va_G) (E : Nat → ClassId) (m0 : Nat) (w0 : Nat) (w1 : Nat) (w2 : Nat) (w3 : Nat) (w4 : Nat) (w5 : Nat) (w6 : Nat) (w7 : Nat) (w8 : Nat) (w9 : Nat) (ik : Int32) (tx : Nat) (he : Int32) (fa : Int32) (cl : Nat) (wv : Nat → Int32) (N : Nat) (x : Nat) (hvn : wv 0 = nI N) (hN : N = 4 ∨ N = 6) (hx9 : x < 2147483648) : Met l yX8_isEvent wsX8_isEvent ({ frames := 2, cells := 0, slots := 0, locals := 43 }) (zr_P D E [.ref m0, .int (nI 3), .int (nI (x / 10)), .int (nI (x % 10))] [(m0, .inr (6, [.ref w0, .ref w1, .ref w2, .int ik, .ref w3, .int (nI tx), .int he, .int fa, .ref w4, .ref w5, .int (nI cl), .ref w6, .ref w7, .ref w8, .ref w9])), (w0, .inl (E 0, 137, .inl wv))]) (zr_Qi (fun zv => (zv = 1 ∧ (zc_k N 3 x = true)) ∨ (zv = 0 ∧ (zc_k N 3 x = false)))) 0 0 (fun _ => False) := by
  refine Met.ofW (cc := cX8_isEvent) (maxL := 4) (ret := (some .boolean)) (by decide) rfl ?_
  intro p e s m args below meth c s₁ Bz hml hv
  obtain ⟨rfl, hP, hK⟩ := hv
  have hx := Bz.exec
  have hb := Bz.bytes
  have hr := Bz.returns
  have hts := atoms_spec (ws := wsX8_isEvent) Bz.pre
  have hown : s.vm.findClass RX8 = some m.cls := findClass_of_methodNamed Bz.named
  have hlocks := Bz.notSynchronized
  have hP : va_P D vwCl [(m0, .inr (6, [.ref w0, .ref w1, .ref w2, .int ik, .ref w3, .int (nI tx), .int he, .int fa, .ref w4, .ref w5, .int (nI cl), .ref w6, .ref w7, .ref w8, .ref w9])), (w0, .inl (E 0, 137, .inl wv))] s.heap := hP
  have hS : va_S (fun _ : Nat => False) s.heap s.heap [] := va_S.rf
  have hl := lv_entry ([.ref m0, .int (nI 3), .int (nI (x / 10)), .int (nI (x % 10))]) (n := 4) (Nat.le_of_ble_eq_true rfl)
  rw [lg_entry_eq]
  generalize (lg_sl ([.ref m0, .int (nI 3), .int (nI (x / 10)), .int (nI (x % 10))]) ++ List.replicate (4 - (lg_sl ([.ref m0, .int (nI 3), .int (nI (x / 10)), .int (nI (x % 10))])).length) Slot.unset).toArray = ls at hl ⊢
  have hl : lv_has ls 4 [(0, .ref m0), (1, .int (nI 3)), (2, .int (nI (x / 10))), (3, .int (nI (x % 10)))] := hl
  refine zr_nQ (fun Q hQ => ?_)
  refine lv_iload_n hx hb dX8_isEvent_0 rfl (lv_at hl 1 rfl) ?_
  refine lv_tableOut (x := nI 3) (tgt := 94) hx hb dX8_isEvent_1 (by decide +kernel) (by decide) ?_
  refine lv_iload_n hx hb dX8_isEvent_94 rfl (lv_at hl 2 rfl) ?_
  refine lv_iconst (v := nI 0) hx hb dX8_isEvent_95 (by rfl) ?_
  refine lv_iconst (v := nI 3) hx hb dX8_isEvent_96 (by rfl) ?_
  refine zr_ci hP hS (va_runS (As := [.int (nI (x / 10)), .int (nI 0), .int (nI 3)]) (rest := []) ⟨hx, hb, hml, hown, hts⟩ (c_X8_isIn l D E (nI (x / 10)) (nI 0) (nI 3) ) (va_cwS 3 hts gX8_isEvent_X8_isIn rfl rfl rfl (by decide +kernel) ⟨Nat.le_of_ble_eq_true rfl, Nat.le_of_ble_eq_true rfl⟩) (zr_S hK (hP.sub (ws' := []) [] rfl)) rfl rfl hl.1 rfl (lv_room (Nat.le_of_ble_eq_true rfl)) dX8_isEvent_97 ⟨Nat.zero_le _, Nat.zero_le _⟩) (fun r_1 H locs hw_2 hP hS => ?_)
  rcases hw_2 with ⟨rfl, hw_2⟩ | ⟨rfl, hw_2⟩
  · skip
    obtain ⟨tq, hq1, hq2⟩ := zn_in3 (n := 4) (by omega) (by omega) hw_2.1 hw_2.2
    have hq3 := (nI_eq (by omega) (by omega)).mp hq2
    refine zr_ti (y := nI 1) rfl ?_
    subst hQ
    exact W.zret (v := nI 1) hx hb hr (by decide) (fun tz htz hWz => ⟨⟨nI 1, (), rfl, Or.inl ⟨rfl, decide_eq_true (by omega)⟩, trivial⟩, hS.F htz⟩) hS.2.2 dX8_isEvent_100
  · skip
    have hnq := zn_out3 (n := 4) (by omega) hw_2
    refine zr_ti (y := nI 0) rfl ?_
    subst hQ
    exact W.zret (v := nI 0) hx hb hr (by decide) (fun tz htz hWz => ⟨⟨nI 0, (), rfl, Or.inr ⟨rfl, decide_eq_false (fun q => hnq _ q rfl)⟩, trivial⟩, hS.F htz⟩) hS.2.2 dX8_isEvent_100

set_option maxHeartbeats 4000000 in
set_option maxRecDepth 100000 in
theorem c_X8_event (l : Launch) (D : va_G) (E : Nat → ClassId) (m0 : Nat) (w0 : Nat) (w1 : Nat) (w2 : Nat) (w3 : Nat) (w4 : Nat) (w5 : Nat) (w6 : Nat) (w7 : Nat) (w8 : Nat) (w9 : Nat) (ik : Int32) (tx : Nat) (he : Int32) (fa : Int32) (cl : Nat) (wv : Nat → Int32) (N : Nat) (G : Nat → Nat → Nat) (P : Nat → Nat → Nat) (X : Nat → Nat) (Y : Nat → Nat) (B : Nat → Nat → Nat) (R : Nat → Nat) (kd : Nat) (sn : Nat) (sT : Nat → Nat) (sR : Nat → Nat) (sH : Nat → Nat) (en : Nat) (eW : Nat → Nat) (eN : Nat → Nat) (bn : Nat) (bT : Nat → Nat) (bN : Nat → Nat) (v : Int32) (w : Int32) (hva : zv_all N G P X Y B R kd sn sT sR sH en eW eN bn bT bN wv) (hzs : zs_all N kd sn sT sR sH en eW eN bn bT bN) : Met l yX8_event wsX8_event ({ frames := 3, cells := 0, slots := 0, locals := 66 }) (zw_P D E [.ref m0, .int v, .int w] [(m0, .inr (6, [.ref w0, .ref w1, .ref w2, .int ik, .ref w3, .int (nI tx), .int he, .int fa, .ref w4, .ref w5, .int (nI cl), .ref w6, .ref w7, .ref w8, .ref w9])), (w0, .inl (E 0, 137, .inl wv))]) (zw_Qi D [(m0, .inr (6, [.ref w0, .ref w1, .ref w2, .int ik, .ref w3, .int (nI tx), .int he, .int fa, .ref w4, .ref w5, .int (nI cl), .ref w6, .ref w7, .ref w8, .ref w9])), (w0, .inl (E 0, 137, .inl wv))] (fun zv (u : (Nat → Int32)) => zv = zo_event N en v w ∧ zv_all N G P X Y B R kd sn sT sR sH (cond (decide (v = -1)) 0 (cond ((zc_ev N v w) && decide (en < 8)) (en + 1) en)) (cond ((zc_ev N v w) && decide (en < 8)) (zm_up eW en (zq v)) eW) (cond ((zc_ev N v w) && decide (en < 8)) (zm_up eN en (zq w)) eN) bn bT bN u) (fun (u : (Nat → Int32)) => [(m0, .inr (6, [.ref w0, .ref w1, .ref w2, .int ik, .ref w3, .int (nI tx), .int he, .int fa, .ref w4, .ref w5, .int (nI cl), .ref w6, .ref w7, .ref w8, .ref w9])), (w0, .inl (E 0, 137, .inl u))])) 0 0 (zw_A [(m0, .inr (6, [.ref w0, .ref w1, .ref w2, .int ik, .ref w3, .int (nI tx), .int he, .int fa, .ref w4, .ref w5, .int (nI cl), .ref w6, .ref w7, .ref w8, .ref w9])), (w0, .inl (E 0, 137, .inl wv))]) := by
  refine Met.ofW (cc := cX8_event) (maxL := 3) (ret := (some .int)) (by decide) rfl ?_
  intro p e s m args below meth c s₁ Bz hml hv
  obtain ⟨rfl, hP, hK, hD0⟩ := hv
  have hx := Bz.exec
  have hb := Bz.bytes
  have hr := Bz.returns
  have hts := atoms_spec (ws := wsX8_event) Bz.pre
  have hown : s.vm.findClass RX8 = some m.cls := findClass_of_methodNamed Bz.named
  have hlocks := Bz.notSynchronized
  have hP : va_P D vwCl [(m0, .inr (6, [.ref w0, .ref w1, .ref w2, .int ik, .ref w3, .int (nI tx), .int he, .int fa, .ref w4, .ref w5, .int (nI cl), .ref w6, .ref w7, .ref w8, .ref w9])), (w0, .inl (E 0, 137, .inl wv))] s.heap := hP
  obtain ⟨A, hAe⟩ : ∃ A : Nat → Prop, A = zw_A [(m0, .inr (6, [.ref w0, .ref w1, .ref w2, .int ik, .ref w3, .int (nI tx), .int he, .int fa, .ref w4, .ref w5, .int (nI cl), .ref w6, .ref w7, .ref w8, .ref w9])), (w0, .inl (E 0, 137, .inl wv))] := ⟨_, rfl⟩
  have hD : va_D A [(m0, .inr (6, [.ref w0, .ref w1, .ref w2, .int ik, .ref w3, .int (nI tx), .int he, .int fa, .ref w4, .ref w5, .int (nI cl), .ref w6, .ref w7, .ref w8, .ref w9])), (w0, .inl (E 0, 137, .inl wv))] := hAe ▸ zw_own hD0
  have hS : va_S A s.heap s.heap [] := va_S.rf
  have hl := lv_entry ([.ref m0, .int v, .int w]) (n := 3) (Nat.le_of_ble_eq_true rfl)
  rw [lg_entry_eq]
  generalize (lg_sl ([.ref m0, .int v, .int w]) ++ List.replicate (3 - (lg_sl ([.ref m0, .int v, .int w])).length) Slot.unset).toArray = ls at hl ⊢
  have hl : lv_has ls 3 [(0, .ref m0), (1, .int v), (2, .int w)] := hl
  refine zr_nQ (fun Q hQ => ?_)
  obtain ⟨hvg, hxy, hvb, hvr, hkv, hzc, hze, hzb, hn6, hn8, hm8⟩ := id hva
  obtain ⟨hkd, hse, hev, hbo⟩ := id hzs
  have hok := hvg.1
  have hN := hok.1
  have hvn := hvg.2.1
  have hgr := zm_gr_of hxy
  have hs0 := hse.1
  have hs1 := hev.1
  have hs2 := hbo.1
  refine lv_iload_n hx hb dX8_event_0 rfl (lv_at hl 1 rfl) ?_
  refine lv_iconst (v := (-1)) hx hb dX8_event_1 (by rfl) ?_
  refine lv_icmp_ne (tgt := 14) hx hb dX8_event_2 (by decide) (fun cn_1 => ?_) (fun cn_1 => ?_)
  · skip
    have d1 : decide (v = -1) = false := decide_eq_false cn_1
    refine lv_iload_n hx hb dX8_event_14 rfl (lv_at hl 1 rfl) ?_
    refine lv_iconst (v := nI 0) hx hb dX8_event_15 (by rfl) ?_
    refine lv_iconst (v := nI 3) hx hb dX8_event_16 (by rfl) ?_
    refine zr_ci hP hS (va_runS (As := [.int v, .int (nI 0), .int (nI 3)]) (rest := []) ⟨hx, hb, hml, hown, hts⟩ (c_X8_isIn l D E v (nI 0) (nI 3) ) (va_cwS 3 hts gX8_event_X8_isIn rfl rfl rfl (by decide +kernel) ⟨Nat.le_of_ble_eq_true rfl, Nat.le_of_ble_eq_true rfl⟩) (zr_S hK (hP.sub (ws' := []) [] rfl)) rfl rfl hl.1 rfl (lv_room (Nat.le_of_ble_eq_true rfl)) dX8_event_17 ⟨Nat.zero_le _, Nat.zero_le _⟩) (fun r_2 H locs hw_3 hP hS => ?_)
    rcases hw_3 with ⟨rfl, hw_3⟩ | ⟨rfl, hw_3⟩
    · skip
      obtain ⟨t, ht, v_e⟩ := zn_in3 (n := 4) (by omega) (by omega) hw_3.1 hw_3.2
      have e1 : zi 4 v = true := v_e ▸ zi_t ht (by omega)
      have q1 : zq v = t := v_e ▸ zq_t (by omega)
      rw [v_e] at hl
      refine zr_ti (y := nI 1) rfl ?_
      refine lv_if_eq (tgt := 43) hx hb dX8_event_20 (by decide) (fun cn_4 => ?_) (fun cn_4 => ?_)
      · skip
        exact absurd cn_4 (by decide)
      · skip
        refine lv_iload_n hx hb dX8_event_23 rfl (lv_at hl 2 rfl) ?_
        refine lv_if_lt (tgt := 43) hx hb dX8_event_24 (by decide) (fun cn_5 => ?_) (fun cn_5 => ?_)
        · skip
          have e2 : zc_ev N v w = false := zc_ev_w (zi_ng (by omega) cn_5)
          refine lv_iconst (v := (-1)) hx hb dX8_event_43 (by rfl) ?_
          subst hQ; subst hAe
          exact W.iret (v := (-1)) hx hb hr (fun tz htz hWz => ⟨⟨(-1), wv, rfl, ⟨by unfold zo_event; simp only [cond_true, cond_false, Bool.and_true, Bool.and_false, Bool.true_and, Bool.false_and, d1, e2], by simp only [cond_true, cond_false, Bool.and_true, Bool.and_false, Bool.true_and, Bool.false_and, d1, e2]; exact hva⟩, by rw [htz]; exact hP, hD⟩, hS.F htz⟩) hS.2.2 dX8_event_44
        · skip
          obtain ⟨x9, hx9, w_e⟩ := nI_of cn_5
          rw [w_e] at hl
          have ht4 : t = 0 ∨ t = 1 ∨ t = 2 ∨ t = 3 := by omega
          rcases ht4 with htk | htk | htk | htk
          · skip
            rw [htk] at hl q1 v_e
            refine lv_aload_n hx hb dX8_event_27 rfl (lv_at hl 0 rfl) ?_
            refine lv_iload_n hx hb dX8_event_28 rfl (lv_at hl 1 rfl) ?_
            refine lv_iload_n hx hb dX8_event_29 rfl (lv_at hl 2 rfl) ?_
            refine lv_bipush (v := nI 10) hx hb dX8_event_30 (by rfl) ?_
            refine lv_idiv hx hb dX8_event_32 (by decide) ?_
            refine zr_ti (y := nI (x9 / 10)) (pk_div (by omega) (by omega) (by omega)) ?_
            refine lv_iload_n hx hb dX8_event_33 rfl (lv_at hl 2 rfl) ?_
            refine lv_bipush (v := nI 10) hx hb dX8_event_34 (by rfl) ?_
            refine lv_irem hx hb dX8_event_36 (by decide) ?_
            refine zr_ti (y := nI (x9 % 10)) (pk_rem (by omega) (by omega) (by omega)) ?_
            refine zr_ci hP hS (va_runV (As := [.int (nI 0), .int (nI (x9 / 10)), .int (nI (x9 % 10))]) (rest := []) ⟨hx, hb, hml, hown, hts⟩ (c_X8_isEvent_0 l D E m0 w0 w1 w2 w3 w4 w5 w6 w7 w8 w9 ik tx he fa cl wv N x9 (hvn) (hN) (by omega)) (cwV 3 hts gX8_event_X8_isEvent rfl rfl rfl (by decide +kernel) ⟨Nat.le_of_ble_eq_true rfl, Nat.le_of_ble_eq_true rfl⟩) (zr_V hK (hP.sub (ws' := [(m0, .inr (6, [.ref w0, .ref w1, .ref w2, .int ik, .ref w3, .int (nI tx), .int he, .int fa, .ref w4, .ref w5, .int (nI cl), .ref w6, .ref w7, .ref w8, .ref w9])), (w0, .inl (E 0, 137, .inl wv))]) [0, 1] rfl) (ci := 6) (q0 := 0) rfl rfl) rfl rfl hl.1 rfl (lv_room (Nat.le_of_ble_eq_true rfl)) dX8_event_37 ⟨Nat.zero_le _, Nat.zero_le _⟩) (fun r_6 H locs hw_7 hP hS => ?_)
            rcases hw_7 with ⟨rfl, hw_7⟩ | ⟨rfl, hw_7⟩
            · skip
              have e2 : zc_ev N v w = true := zc_ev_t (x := x9) (by have h9 := of_decide_eq_true ((Bool.and_eq_true _ _).mp hw_7).1; omega) w_e (by omega) v_e hw_7
              have q2 : zq w = x9 := by rw [w_e]; exact zq_t (by omega)
              refine zr_ti (y := nI 1) rfl ?_
              refine lv_if_ne (tgt := 45) hx hb dX8_event_40 (by decide) (fun cn_8 => ?_) (fun cn_8 => ?_)
              · skip
                refine lv_aload_n hx hb dX8_event_45 rfl (lv_at hl 0 rfl) ?_
                refine va_get (D := D) (ci := 6) (v := .ref w0) (C := RX8) (T := TX8) (N := 15) hx hb hts (by decide +kernel) hown hK.1 hP 0 rfl rfl 0 (by decide) (hts (.fieldLink RX8 11 "HomeRoundsModel" "w" "[I") (by decide +kernel)) (fun _ h9 => h9) rfl dX8_event_46 ?_
                refine lv_iconst (v := nI 3) hx hb dX8_event_49 (by rfl) ?_
                refine va_iald hx hb hK.1 hP 1 0 rfl rfl (vp_in_nI (by omega) (by omega)) dX8_event_50 ?_
                refine zr_ti (y := nI en) ((congrArg wv (nI_clamp (by omega))).trans (hze.1)) ?_
                refine lv_bipush (v := nI 8) hx hb dX8_event_51 (by rfl) ?_
                refine lv_icmp_ne (tgt := 59) hx hb dX8_event_53 (by decide) (fun cn_9 => ?_) (fun cn_9 => ?_)
                · skip
                  have cn_9 : ¬ (en = 8) := fun hz => cn_9 ((nI_eq (a := en) (b := 8) (by omega) (by omega)).mpr hz)
                  have e3 : decide (en < 8) = true := decide_eq_true (by omega)
                  refine lv_aload_n hx hb dX8_event_59 rfl (lv_at hl 0 rfl) ?_
                  refine va_get (D := D) (ci := 6) (v := .ref w0) (C := RX8) (T := TX8) (N := 15) hx hb hts (by decide +kernel) hown hK.1 hP 0 rfl rfl 0 (by decide) (hts (.fieldLink RX8 11 "HomeRoundsModel" "w" "[I") (by decide +kernel)) (fun _ h9 => h9) rfl dX8_event_60 ?_
                  refine lv_bipush (v := nI 105) hx hb dX8_event_63 (by rfl) ?_
                  refine lv_iconst (v := nI 2) hx hb dX8_event_65 (by rfl) ?_
                  refine lv_aload_n hx hb dX8_event_66 rfl (lv_at hl 0 rfl) ?_
                  refine va_get (D := D) (ci := 6) (v := .ref w0) (C := RX8) (T := TX8) (N := 15) hx hb hts (by decide +kernel) hown hK.1 hP 0 rfl rfl 0 (by decide) (hts (.fieldLink RX8 11 "HomeRoundsModel" "w" "[I") (by decide +kernel)) (fun _ h9 => h9) rfl dX8_event_67 ?_
                  refine lv_iconst (v := nI 3) hx hb dX8_event_70 (by rfl) ?_
                  refine va_iald hx hb hK.1 hP 1 0 rfl rfl (vp_in_nI (by omega) (by omega)) dX8_event_71 ?_
                  refine zr_ti (y := nI en) ((congrArg wv (nI_clamp (by omega))).trans (hze.1)) ?_
                  refine lv_imul hx hb dX8_event_72 ?_
                  refine zr_ti (y := nI (2 * en)) (pk_mul _ _) ?_
                  refine lv_iadd hx hb dX8_event_73 ?_
                  refine zr_ti (y := nI (105 + (2 * en))) (nI_add _ _) ?_
                  refine lv_iload_n hx hb dX8_event_74 rfl (lv_at hl 1 rfl) ?_
                  refine va_iast hx hb hK.1 hP hD hS 1 0 rfl rfl (vp_in_nI (by omega) (by omega)) dX8_event_75 (fun H locs hP hD hS => ?_)
                  have hP : va_P D vwCl [(m0, .inr (6, [.ref w0, .ref w1, .ref w2, .int ik, .ref w3, .int (nI tx), .int he, .int fa, .ref w4, .ref w5, .int (nI cl), .ref w6, .ref w7, .ref w8, .ref w9])), (w0, .inl (E 0, 137, .inl (upd wv (nI (105 + (2 * en))).toNatClampNeg (nI 0))))] H := hP
                  have hD : va_D A [(m0, .inr (6, [.ref w0, .ref w1, .ref w2, .int ik, .ref w3, .int (nI tx), .int he, .int fa, .ref w4, .ref w5, .int (nI cl), .ref w6, .ref w7, .ref w8, .ref w9])), (w0, .inl (E 0, 137, .inl (upd wv (nI (105 + (2 * en))).toNatClampNeg (nI 0))))] := hD
                  have hcz : (upd wv (nI (105 + (2 * en))).toNatClampNeg (nI 0)) = (upd wv (105 + (2 * en)) (nI 0)) := by rw [nI_clamp (n := 105 + (2 * en)) (by omega)]
                  rw [hcz] at hP hD
                  refine lv_aload_n hx hb dX8_event_76 rfl (lv_at hl 0 rfl) ?_
                  refine va_get (D := D) (ci := 6) (v := .ref w0) (C := RX8) (T := TX8) (N := 15) hx hb hts (by decide +kernel) hown hK.1 hP 0 rfl rfl 0 (by decide) (hts (.fieldLink RX8 11 "HomeRoundsModel" "w" "[I") (by decide +kernel)) (fun _ h9 => h9) rfl dX8_event_77 ?_
                  refine lv_bipush (v := nI 105) hx hb dX8_event_80 (by rfl) ?_
                  refine lv_iconst (v := nI 2) hx hb dX8_event_82 (by rfl) ?_
                  refine lv_aload_n hx hb dX8_event_83 rfl (lv_at hl 0 rfl) ?_
                  refine va_get (D := D) (ci := 6) (v := .ref w0) (C := RX8) (T := TX8) (N := 15) hx hb hts (by decide +kernel) hown hK.1 hP 0 rfl rfl 0 (by decide) (hts (.fieldLink RX8 11 "HomeRoundsModel" "w" "[I") (by decide +kernel)) (fun _ h9 => h9) rfl dX8_event_84 ?_
                  refine lv_iconst (v := nI 3) hx hb dX8_event_87 (by rfl) ?_
                  refine va_iald hx hb hK.1 hP 1 0 rfl rfl (vp_in_nI (by omega) (by omega)) dX8_event_88 ?_
                  refine zr_ti (y := nI en) ((congrArg (upd wv (105 + (2 * en)) (nI 0)) (nI_clamp (by omega))).trans (by rw [zn_un (by omega)]; exact hze.1)) ?_
                  refine lv_imul hx hb dX8_event_89 ?_
                  refine zr_ti (y := nI (2 * en)) (pk_mul _ _) ?_
                  refine lv_iadd hx hb dX8_event_90 ?_
                  refine zr_ti (y := nI (105 + (2 * en))) (nI_add _ _) ?_
                  refine lv_iconst (v := nI 1) hx hb dX8_event_91 (by rfl) ?_
                  refine lv_iadd hx hb dX8_event_92 ?_
                  refine zr_ti (y := nI ((105 + (2 * en)) + 1)) (nI_add _ _) ?_
                  refine lv_iload_n hx hb dX8_event_93 rfl (lv_at hl 2 rfl) ?_
                  refine va_iast hx hb hK.1 hP hD hS 1 0 rfl rfl (vp_in_nI (by omega) (by omega)) dX8_event_94 (fun H locs hP hD hS => ?_)
                  have hP : va_P D vwCl [(m0, .inr (6, [.ref w0, .ref w1, .ref w2, .int ik, .ref w3, .int (nI tx), .int he, .int fa, .ref w4, .ref w5, .int (nI cl), .ref w6, .ref w7, .ref w8, .ref w9])), (w0, .inl (E 0, 137, .inl (upd (upd wv (105 + (2 * en)) (nI 0)) (nI ((105 + (2 * en)) + 1)).toNatClampNeg (nI x9))))] H := hP
                  have hD : va_D A [(m0, .inr (6, [.ref w0, .ref w1, .ref w2, .int ik, .ref w3, .int (nI tx), .int he, .int fa, .ref w4, .ref w5, .int (nI cl), .ref w6, .ref w7, .ref w8, .ref w9])), (w0, .inl (E 0, 137, .inl (upd (upd wv (105 + (2 * en)) (nI 0)) (nI ((105 + (2 * en)) + 1)).toNatClampNeg (nI x9))))] := hD
                  have hcz : (upd (upd wv (105 + (2 * en)) (nI 0)) (nI ((105 + (2 * en)) + 1)).toNatClampNeg (nI x9)) = (upd (upd wv (105 + (2 * en)) (nI 0)) ((105 + (2 * en)) + 1) (nI x9)) := by rw [nI_clamp (n := (105 + (2 * en)) + 1) (by omega)]
                  rw [hcz] at hP hD
                  refine lv_aload_n hx hb dX8_event_95 rfl (lv_at hl 0 rfl) ?_
                  refine va_get (D := D) (ci := 6) (v := .ref w0) (C := RX8) (T := TX8) (N := 15) hx hb hts (by decide +kernel) hown hK.1 hP 0 rfl rfl 0 (by decide) (hts (.fieldLink RX8 11 "HomeRoundsModel" "w" "[I") (by decide +kernel)) (fun _ h9 => h9) rfl dX8_event_96 ?_
                  refine lv_iconst (v := nI 3) hx hb dX8_event_99 (by rfl) ?_
                  refine lv_dup2_11 hx hb dX8_event_100 rfl rfl ?_
                  refine va_iald hx hb hK.1 hP 1 0 rfl rfl (vp_in_nI (by omega) (by omega)) dX8_event_101 ?_
                  refine zr_ti (y := nI en) ((congrArg (upd (upd wv (105 + (2 * en)) (nI 0)) ((105 + (2 * en)) + 1) (nI x9)) (nI_clamp (by omega))).trans (by rw [zn_un (by omega), zn_un (by omega)]; exact hze.1)) ?_
                  refine lv_iconst (v := nI 1) hx hb dX8_event_102 (by rfl) ?_
                  refine lv_iadd hx hb dX8_event_103 ?_
                  refine zr_ti (y := nI (en + 1)) (nI_add _ _) ?_
                  refine va_iast hx hb hK.1 hP hD hS 1 0 rfl rfl (vp_in_nI (by omega) (by omega)) dX8_event_104 (fun H locs hP hD hS => ?_)
                  have hP : va_P D vwCl [(m0, .inr (6, [.ref w0, .ref w1, .ref w2, .int ik, .ref w3, .int (nI tx), .int he, .int fa, .ref w4, .ref w5, .int (nI cl), .ref w6, .ref w7, .ref w8, .ref w9])), (w0, .inl (E 0, 137, .inl (upd (upd (upd wv (105 + (2 * en)) (nI 0)) ((105 + (2 * en)) + 1) (nI x9)) (nI 3).toNatClampNeg (nI (en + 1)))))] H := hP
                  have hD : va_D A [(m0, .inr (6, [.ref w0, .ref w1, .ref w2, .int ik, .ref w3, .int (nI tx), .int he, .int fa, .ref w4, .ref w5, .int (nI cl), .ref w6, .ref w7, .ref w8, .ref w9])), (w0, .inl (E 0, 137, .inl (upd (upd (upd wv (105 + (2 * en)) (nI 0)) ((105 + (2 * en)) + 1) (nI x9)) (nI 3).toNatClampNeg (nI (en + 1)))))] := hD
                  have hcz : (upd (upd (upd wv (105 + (2 * en)) (nI 0)) ((105 + (2 * en)) + 1) (nI x9)) (nI 3).toNatClampNeg (nI (en + 1))) = (upd (upd (upd wv (105 + (2 * en)) (nI 0)) ((105 + (2 * en)) + 1) (nI x9)) 3 (nI (en + 1))) := by rw [nI_clamp (n := 3) (by omega)]
                  rw [hcz] at hP hD
                  refine lv_aload_n hx hb dX8_event_105 rfl (lv_at hl 0 rfl) ?_
                  refine va_get (D := D) (ci := 6) (v := .ref w0) (C := RX8) (T := TX8) (N := 15) hx hb hts (by decide +kernel) hown hK.1 hP 0 rfl rfl 0 (by decide) (hts (.fieldLink RX8 11 "HomeRoundsModel" "w" "[I") (by decide +kernel)) (fun _ h9 => h9) rfl dX8_event_106 ?_
                  refine lv_iconst (v := nI 3) hx hb dX8_event_109 (by rfl) ?_
                  refine va_iald hx hb hK.1 hP 1 0 rfl rfl (vp_in_nI (by omega) (by omega)) dX8_event_110 ?_
                  refine zr_ti (y := nI (en + 1)) ((congrArg (upd (upd (upd wv (105 + (2 * en)) (nI 0)) ((105 + (2 * en)) + 1) (nI x9)) 3 (nI (en + 1))) (nI_clamp (by omega))).trans (zn_ue)) ?_
                  subst hQ; subst hAe
                  exact W.iret (v := nI (en + 1)) hx hb hr (fun tz htz hWz => ⟨⟨nI (en + 1), (upd (upd (upd wv (105 + (2 * en)) (nI 0)) ((105 + (2 * en)) + 1) (nI x9)) 3 (nI (en + 1))), rfl, ⟨by unfold zo_event; simp only [cond_true, cond_false, Bool.and_true, Bool.and_false, Bool.true_and, Bool.false_and, d1, e2, e3, q1, q2], by simp only [cond_true, cond_false, Bool.and_true, Bool.and_false, Bool.true_and, Bool.false_and, d1, e2, e3, q1, q2]; exact (zv_all_e1 hva (by omega))⟩, by rw [htz]; exact hP, hD⟩, hS.F htz⟩) hS.2.2 dX8_event_111
                · skip
                  have cn_9 : en = 8 := (nI_eq (a := en) (b := 8) (by omega) (by omega)).mp cn_9
                  have e3 : decide (en < 8) = false := decide_eq_false (by omega)
                  refine lv_bipush (v := (-4)) hx hb dX8_event_56 (by rfl) ?_
                  subst hQ; subst hAe
                  exact W.iret (v := (-4)) hx hb hr (fun tz htz hWz => ⟨⟨(-4), wv, rfl, ⟨by unfold zo_event; simp only [cond_true, cond_false, Bool.and_true, Bool.and_false, Bool.true_and, Bool.false_and, d1, e2, e3], by simp only [cond_true, cond_false, Bool.and_true, Bool.and_false, Bool.true_and, Bool.false_and, d1, e2, e3]; exact hva⟩, by rw [htz]; exact hP, hD⟩, hS.F htz⟩) hS.2.2 dX8_event_58
              · skip
                exact absurd cn_8 (by decide)
            · skip
              have e2 : zc_ev N v w = false := zc_ev_f hx9 w_e (by omega) v_e hw_7
              refine zr_ti (y := nI 0) rfl ?_
              refine lv_if_ne (tgt := 45) hx hb dX8_event_40 (by decide) (fun cn_10 => ?_) (fun cn_10 => ?_)
              · skip
                exact absurd cn_10 (by decide)
              · skip
                refine lv_iconst (v := (-1)) hx hb dX8_event_43 (by rfl) ?_
                subst hQ; subst hAe
                exact W.iret (v := (-1)) hx hb hr (fun tz htz hWz => ⟨⟨(-1), wv, rfl, ⟨by unfold zo_event; simp only [cond_true, cond_false, Bool.and_true, Bool.and_false, Bool.true_and, Bool.false_and, d1, e2], by simp only [cond_true, cond_false, Bool.and_true, Bool.and_false, Bool.true_and, Bool.false_and, d1, e2]; exact hva⟩, by rw [htz]; exact hP, hD⟩, hS.F htz⟩) hS.2.2 dX8_event_44
          · skip
            rw [htk] at hl q1 v_e
            refine lv_aload_n hx hb dX8_event_27 rfl (lv_at hl 0 rfl) ?_
            refine lv_iload_n hx hb dX8_event_28 rfl (lv_at hl 1 rfl) ?_
            refine lv_iload_n hx hb dX8_event_29 rfl (lv_at hl 2 rfl) ?_
            refine lv_bipush (v := nI 10) hx hb dX8_event_30 (by rfl) ?_
            refine lv_idiv hx hb dX8_event_32 (by decide) ?_
            refine zr_ti (y := nI (x9 / 10)) (pk_div (by omega) (by omega) (by omega)) ?_
            refine lv_iload_n hx hb dX8_event_33 rfl (lv_at hl 2 rfl) ?_
            refine lv_bipush (v := nI 10) hx hb dX8_event_34 (by rfl) ?_
            refine lv_irem hx hb dX8_event_36 (by decide) ?_
            refine zr_ti (y := nI (x9 % 10)) (pk_rem (by omega) (by omega) (by omega)) ?_
            refine zr_ci hP hS (va_runV (As := [.int (nI 1), .int (nI (x9 / 10)), .int (nI (x9 % 10))]) (rest := []) ⟨hx, hb, hml, hown, hts⟩ (c_X8_isEvent_1 l D E m0 w0 w1 w2 w3 w4 w5 w6 w7 w8 w9 ik tx he fa cl wv N x9 (hvn) (hN) (by omega)) (cwV 3 hts gX8_event_X8_isEvent rfl rfl rfl (by decide +kernel) ⟨Nat.le_of_ble_eq_true rfl, Nat.le_of_ble_eq_true rfl⟩) (zr_V hK (hP.sub (ws' := [(m0, .inr (6, [.ref w0, .ref w1, .ref w2, .int ik, .ref w3, .int (nI tx), .int he, .int fa, .ref w4, .ref w5, .int (nI cl), .ref w6, .ref w7, .ref w8, .ref w9])), (w0, .inl (E 0, 137, .inl wv))]) [0, 1] rfl) (ci := 6) (q0 := 0) rfl rfl) rfl rfl hl.1 rfl (lv_room (Nat.le_of_ble_eq_true rfl)) dX8_event_37 ⟨Nat.zero_le _, Nat.zero_le _⟩) (fun r_11 H locs hw_12 hP hS => ?_)
            rcases hw_12 with ⟨rfl, hw_12⟩ | ⟨rfl, hw_12⟩
            · skip
              have e2 : zc_ev N v w = true := zc_ev_t (x := x9) (by have h9 := of_decide_eq_true ((Bool.and_eq_true _ _).mp hw_12).1; omega) w_e (by omega) v_e hw_12
              have q2 : zq w = x9 := by rw [w_e]; exact zq_t (by omega)
              refine zr_ti (y := nI 1) rfl ?_
              refine lv_if_ne (tgt := 45) hx hb dX8_event_40 (by decide) (fun cn_13 => ?_) (fun cn_13 => ?_)
              · skip
                refine lv_aload_n hx hb dX8_event_45 rfl (lv_at hl 0 rfl) ?_
                refine va_get (D := D) (ci := 6) (v := .ref w0) (C := RX8) (T := TX8) (N := 15) hx hb hts (by decide +kernel) hown hK.1 hP 0 rfl rfl 0 (by decide) (hts (.fieldLink RX8 11 "HomeRoundsModel" "w" "[I") (by decide +kernel)) (fun _ h9 => h9) rfl dX8_event_46 ?_
                refine lv_iconst (v := nI 3) hx hb dX8_event_49 (by rfl) ?_
                refine va_iald hx hb hK.1 hP 1 0 rfl rfl (vp_in_nI (by omega) (by omega)) dX8_event_50 ?_
                refine zr_ti (y := nI en) ((congrArg wv (nI_clamp (by omega))).trans (hze.1)) ?_
                refine lv_bipush (v := nI 8) hx hb dX8_event_51 (by rfl) ?_
                refine lv_icmp_ne (tgt := 59) hx hb dX8_event_53 (by decide) (fun cn_14 => ?_) (fun cn_14 => ?_)
                · skip
                  have cn_14 : ¬ (en = 8) := fun hz => cn_14 ((nI_eq (a := en) (b := 8) (by omega) (by omega)).mpr hz)
                  have e3 : decide (en < 8) = true := decide_eq_true (by omega)
                  refine lv_aload_n hx hb dX8_event_59 rfl (lv_at hl 0 rfl) ?_
                  refine va_get (D := D) (ci := 6) (v := .ref w0) (C := RX8) (T := TX8) (N := 15) hx hb hts (by decide +kernel) hown hK.1 hP 0 rfl rfl 0 (by decide) (hts (.fieldLink RX8 11 "HomeRoundsModel" "w" "[I") (by decide +kernel)) (fun _ h9 => h9) rfl dX8_event_60 ?_
                  refine lv_bipush (v := nI 105) hx hb dX8_event_63 (by rfl) ?_
                  refine lv_iconst (v := nI 2) hx hb dX8_event_65 (by rfl) ?_
                  refine lv_aload_n hx hb dX8_event_66 rfl (lv_at hl 0 rfl) ?_
                  refine va_get (D := D) (ci := 6) (v := .ref w0) (C := RX8) (T := TX8) (N := 15) hx hb hts (by decide +kernel) hown hK.1 hP 0 rfl rfl 0 (by decide) (hts (.fieldLink RX8 11 "HomeRoundsModel" "w" "[I") (by decide +kernel)) (fun _ h9 => h9) rfl dX8_event_67 ?_
                  refine lv_iconst (v := nI 3) hx hb dX8_event_70 (by rfl) ?_
                  refine va_iald hx hb hK.1 hP 1 0 rfl rfl (vp_in_nI (by omega) (by omega)) dX8_event_71 ?_
                  refine zr_ti (y := nI en) ((congrArg wv (nI_clamp (by omega))).trans (hze.1)) ?_
                  refine lv_imul hx hb dX8_event_72 ?_
                  refine zr_ti (y := nI (2 * en)) (pk_mul _ _) ?_
                  refine lv_iadd hx hb dX8_event_73 ?_
                  refine zr_ti (y := nI (105 + (2 * en))) (nI_add _ _) ?_
                  refine lv_iload_n hx hb dX8_event_74 rfl (lv_at hl 1 rfl) ?_
                  refine va_iast hx hb hK.1 hP hD hS 1 0 rfl rfl (vp_in_nI (by omega) (by omega)) dX8_event_75 (fun H locs hP hD hS => ?_)
                  have hP : va_P D vwCl [(m0, .inr (6, [.ref w0, .ref w1, .ref w2, .int ik, .ref w3, .int (nI tx), .int he, .int fa, .ref w4, .ref w5, .int (nI cl), .ref w6, .ref w7, .ref w8, .ref w9])), (w0, .inl (E 0, 137, .inl (upd wv (nI (105 + (2 * en))).toNatClampNeg (nI 1))))] H := hP
                  have hD : va_D A [(m0, .inr (6, [.ref w0, .ref w1, .ref w2, .int ik, .ref w3, .int (nI tx), .int he, .int fa, .ref w4, .ref w5, .int (nI cl), .ref w6, .ref w7, .ref w8, .ref w9])), (w0, .inl (E 0, 137, .inl (upd wv (nI (105 + (2 * en))).toNatClampNeg (nI 1))))] := hD
                  have hcz : (upd wv (nI (105 + (2 * en))).toNatClampNeg (nI 1)) = (upd wv (105 + (2 * en)) (nI 1)) := by rw [nI_clamp (n := 105 + (2 * en)) (by omega)]
                  rw [hcz] at hP hD
                  refine lv_aload_n hx hb dX8_event_76 rfl (lv_at hl 0 rfl) ?_
                  refine va_get (D := D) (ci := 6) (v := .ref w0) (C := RX8) (T := TX8) (N := 15) hx hb hts (by decide +kernel) hown hK.1 hP 0 rfl rfl 0 (by decide) (hts (.fieldLink RX8 11 "HomeRoundsModel" "w" "[I") (by decide +kernel)) (fun _ h9 => h9) rfl dX8_event_77 ?_
                  refine lv_bipush (v := nI 105) hx hb dX8_event_80 (by rfl) ?_
                  refine lv_iconst (v := nI 2) hx hb dX8_event_82 (by rfl) ?_
                  refine lv_aload_n hx hb dX8_event_83 rfl (lv_at hl 0 rfl) ?_
                  refine va_get (D := D) (ci := 6) (v := .ref w0) (C := RX8) (T := TX8) (N := 15) hx hb hts (by decide +kernel) hown hK.1 hP 0 rfl rfl 0 (by decide) (hts (.fieldLink RX8 11 "HomeRoundsModel" "w" "[I") (by decide +kernel)) (fun _ h9 => h9) rfl dX8_event_84 ?_
                  refine lv_iconst (v := nI 3) hx hb dX8_event_87 (by rfl) ?_
                  refine va_iald hx hb hK.1 hP 1 0 rfl rfl (vp_in_nI (by omega) (by omega)) dX8_event_88 ?_
                  refine zr_ti (y := nI en) ((congrArg (upd wv (105 + (2 * en)) (nI 1)) (nI_clamp (by omega))).trans (by rw [zn_un (by omega)]; exact hze.1)) ?_
                  refine lv_imul hx hb dX8_event_89 ?_
                  refine zr_ti (y := nI (2 * en)) (pk_mul _ _) ?_
                  refine lv_iadd hx hb dX8_event_90 ?_
                  refine zr_ti (y := nI (105 + (2 * en))) (nI_add _ _) ?_
                  refine lv_iconst (v := nI 1) hx hb dX8_event_91 (by rfl) ?_
                  refine lv_iadd hx hb dX8_event_92 ?_
                  refine zr_ti (y := nI ((105 + (2 * en)) + 1)) (nI_add _ _) ?_
                  refine lv_iload_n hx hb dX8_event_93 rfl (lv_at hl 2 rfl) ?_
                  refine va_iast hx hb hK.1 hP hD hS 1 0 rfl rfl (vp_in_nI (by omega) (by omega)) dX8_event_94 (fun H locs hP hD hS => ?_)
                  have hP : va_P D vwCl [(m0, .inr (6, [.ref w0, .ref w1, .ref w2, .int ik, .ref w3, .int (nI tx), .int he, .int fa, .ref w4, .ref w5, .int (nI cl), .ref w6, .ref w7, .ref w8, .ref w9])), (w0, .inl (E 0, 137, .inl (upd (upd wv (105 + (2 * en)) (nI 1)) (nI ((105 + (2 * en)) + 1)).toNatClampNeg (nI x9))))] H := hP
                  have hD : va_D A [(m0, .inr (6, [.ref w0, .ref w1, .ref w2, .int ik, .ref w3, .int (nI tx), .int he, .int fa, .ref w4, .ref w5, .int (nI cl), .ref w6, .ref w7, .ref w8, .ref w9])), (w0, .inl (E 0, 137, .inl (upd (upd wv (105 + (2 * en)) (nI 1)) (nI ((105 + (2 * en)) + 1)).toNatClampNeg (nI x9))))] := hD
                  have hcz : (upd (upd wv (105 + (2 * en)) (nI 1)) (nI ((105 + (2 * en)) + 1)).toNatClampNeg (nI x9)) = (upd (upd wv (105 + (2 * en)) (nI 1)) ((105 + (2 * en)) + 1) (nI x9)) := by rw [nI_clamp (n := (105 + (2 * en)) + 1) (by omega)]
                  rw [hcz] at hP hD
                  refine lv_aload_n hx hb dX8_event_95 rfl (lv_at hl 0 rfl) ?_
                  refine va_get (D := D) (ci := 6) (v := .ref w0) (C := RX8) (T := TX8) (N := 15) hx hb hts (by decide +kernel) hown hK.1 hP 0 rfl rfl 0 (by decide) (hts (.fieldLink RX8 11 "HomeRoundsModel" "w" "[I") (by decide +kernel)) (fun _ h9 => h9) rfl dX8_event_96 ?_
                  refine lv_iconst (v := nI 3) hx hb dX8_event_99 (by rfl) ?_
                  refine lv_dup2_11 hx hb dX8_event_100 rfl rfl ?_
                  refine va_iald hx hb hK.1 hP 1 0 rfl rfl (vp_in_nI (by omega) (by omega)) dX8_event_101 ?_
                  refine zr_ti (y := nI en) ((congrArg (upd (upd wv (105 + (2 * en)) (nI 1)) ((105 + (2 * en)) + 1) (nI x9)) (nI_clamp (by omega))).trans (by rw [zn_un (by omega), zn_un (by omega)]; exact hze.1)) ?_
                  refine lv_iconst (v := nI 1) hx hb dX8_event_102 (by rfl) ?_
                  refine lv_iadd hx hb dX8_event_103 ?_
                  refine zr_ti (y := nI (en + 1)) (nI_add _ _) ?_
                  refine va_iast hx hb hK.1 hP hD hS 1 0 rfl rfl (vp_in_nI (by omega) (by omega)) dX8_event_104 (fun H locs hP hD hS => ?_)
                  have hP : va_P D vwCl [(m0, .inr (6, [.ref w0, .ref w1, .ref w2, .int ik, .ref w3, .int (nI tx), .int he, .int fa, .ref w4, .ref w5, .int (nI cl), .ref w6, .ref w7, .ref w8, .ref w9])), (w0, .inl (E 0, 137, .inl (upd (upd (upd wv (105 + (2 * en)) (nI 1)) ((105 + (2 * en)) + 1) (nI x9)) (nI 3).toNatClampNeg (nI (en + 1)))))] H := hP
                  have hD : va_D A [(m0, .inr (6, [.ref w0, .ref w1, .ref w2, .int ik, .ref w3, .int (nI tx), .int he, .int fa, .ref w4, .ref w5, .int (nI cl), .ref w6, .ref w7, .ref w8, .ref w9])), (w0, .inl (E 0, 137, .inl (upd (upd (upd wv (105 + (2 * en)) (nI 1)) ((105 + (2 * en)) + 1) (nI x9)) (nI 3).toNatClampNeg (nI (en + 1)))))] := hD
                  have hcz : (upd (upd (upd wv (105 + (2 * en)) (nI 1)) ((105 + (2 * en)) + 1) (nI x9)) (nI 3).toNatClampNeg (nI (en + 1))) = (upd (upd (upd wv (105 + (2 * en)) (nI 1)) ((105 + (2 * en)) + 1) (nI x9)) 3 (nI (en + 1))) := by rw [nI_clamp (n := 3) (by omega)]
                  rw [hcz] at hP hD
                  refine lv_aload_n hx hb dX8_event_105 rfl (lv_at hl 0 rfl) ?_
                  refine va_get (D := D) (ci := 6) (v := .ref w0) (C := RX8) (T := TX8) (N := 15) hx hb hts (by decide +kernel) hown hK.1 hP 0 rfl rfl 0 (by decide) (hts (.fieldLink RX8 11 "HomeRoundsModel" "w" "[I") (by decide +kernel)) (fun _ h9 => h9) rfl dX8_event_106 ?_
                  refine lv_iconst (v := nI 3) hx hb dX8_event_109 (by rfl) ?_
                  refine va_iald hx hb hK.1 hP 1 0 rfl rfl (vp_in_nI (by omega) (by omega)) dX8_event_110 ?_
                  refine zr_ti (y := nI (en + 1)) ((congrArg (upd (upd (upd wv (105 + (2 * en)) (nI 1)) ((105 + (2 * en)) + 1) (nI x9)) 3 (nI (en + 1))) (nI_clamp (by omega))).trans (zn_ue)) ?_
                  subst hQ; subst hAe
                  exact W.iret (v := nI (en + 1)) hx hb hr (fun tz htz hWz => ⟨⟨nI (en + 1), (upd (upd (upd wv (105 + (2 * en)) (nI 1)) ((105 + (2 * en)) + 1) (nI x9)) 3 (nI (en + 1))), rfl, ⟨by unfold zo_event; simp only [cond_true, cond_false, Bool.and_true, Bool.and_false, Bool.true_and, Bool.false_and, d1, e2, e3, q1, q2], by simp only [cond_true, cond_false, Bool.and_true, Bool.and_false, Bool.true_and, Bool.false_and, d1, e2, e3, q1, q2]; exact (zv_all_e1 hva (by omega))⟩, by rw [htz]; exact hP, hD⟩, hS.F htz⟩) hS.2.2 dX8_event_111
                · skip
                  have cn_14 : en = 8 := (nI_eq (a := en) (b := 8) (by omega) (by omega)).mp cn_14
                  have e3 : decide (en < 8) = false := decide_eq_false (by omega)
                  refine lv_bipush (v := (-4)) hx hb dX8_event_56 (by rfl) ?_
                  subst hQ; subst hAe
                  exact W.iret (v := (-4)) hx hb hr (fun tz htz hWz => ⟨⟨(-4), wv, rfl, ⟨by unfold zo_event; simp only [cond_true, cond_false, Bool.and_true, Bool.and_false, Bool.true_and, Bool.false_and, d1, e2, e3], by simp only [cond_true, cond_false, Bool.and_true, Bool.and_false, Bool.true_and, Bool.false_and, d1, e2, e3]; exact hva⟩, by rw [htz]; exact hP, hD⟩, hS.F htz⟩) hS.2.2 dX8_event_58
              · skip
                exact absurd cn_13 (by decide)
            · skip
              have e2 : zc_ev N v w = false := zc_ev_f hx9 w_e (by omega) v_e hw_12
              refine zr_ti (y := nI 0) rfl ?_
              refine lv_if_ne (tgt := 45) hx hb dX8_event_40 (by decide) (fun cn_15 => ?_) (fun cn_15 => ?_)
              · skip
                exact absurd cn_15 (by decide)
              · skip
                refine lv_iconst (v := (-1)) hx hb dX8_event_43 (by rfl) ?_
                subst hQ; subst hAe
                exact W.iret (v := (-1)) hx hb hr (fun tz htz hWz => ⟨⟨(-1), wv, rfl, ⟨by unfold zo_event; simp only [cond_true, cond_false, Bool.and_true, Bool.and_false, Bool.true_and, Bool.false_and, d1, e2], by simp only [cond_true, cond_false, Bool.and_true, Bool.and_false, Bool.true_and, Bool.false_and, d1, e2]; exact hva⟩, by rw [htz]; exact hP, hD⟩, hS.F htz⟩) hS.2.2 dX8_event_44
          · skip
            rw [htk] at hl q1 v_e
            refine lv_aload_n hx hb dX8_event_27 rfl (lv_at hl 0 rfl) ?_
            refine lv_iload_n hx hb dX8_event_28 rfl (lv_at hl 1 rfl) ?_
            refine lv_iload_n hx hb dX8_event_29 rfl (lv_at hl 2 rfl) ?_
            refine lv_bipush (v := nI 10) hx hb dX8_event_30 (by rfl) ?_
            refine lv_idiv hx hb dX8_event_32 (by decide) ?_
            refine zr_ti (y := nI (x9 / 10)) (pk_div (by omega) (by omega) (by omega)) ?_
            refine lv_iload_n hx hb dX8_event_33 rfl (lv_at hl 2 rfl) ?_
            refine lv_bipush (v := nI 10) hx hb dX8_event_34 (by rfl) ?_
            refine lv_irem hx hb dX8_event_36 (by decide) ?_
            refine zr_ti (y := nI (x9 % 10)) (pk_rem (by omega) (by omega) (by omega)) ?_
            refine zr_ci hP hS (va_runV (As := [.int (nI 2), .int (nI (x9 / 10)), .int (nI (x9 % 10))]) (rest := []) ⟨hx, hb, hml, hown, hts⟩ (c_X8_isEvent_2 l D E m0 w0 w1 w2 w3 w4 w5 w6 w7 w8 w9 ik tx he fa cl wv N x9 (hvn) (hN) (by omega)) (cwV 3 hts gX8_event_X8_isEvent rfl rfl rfl (by decide +kernel) ⟨Nat.le_of_ble_eq_true rfl, Nat.le_of_ble_eq_true rfl⟩) (zr_V hK (hP.sub (ws' := [(m0, .inr (6, [.ref w0, .ref w1, .ref w2, .int ik, .ref w3, .int (nI tx), .int he, .int fa, .ref w4, .ref w5, .int (nI cl), .ref w6, .ref w7, .ref w8, .ref w9])), (w0, .inl (E 0, 137, .inl wv))]) [0, 1] rfl) (ci := 6) (q0 := 0) rfl rfl) rfl rfl hl.1 rfl (lv_room (Nat.le_of_ble_eq_true rfl)) dX8_event_37 ⟨Nat.zero_le _, Nat.zero_le _⟩) (fun r_16 H locs hw_17 hP hS => ?_)
            rcases hw_17 with ⟨rfl, hw_17⟩ | ⟨rfl, hw_17⟩
            · skip
              have e2 : zc_ev N v w = true := zc_ev_t (x := x9) (by have h9 := of_decide_eq_true ((Bool.and_eq_true _ _).mp hw_17).1; omega) w_e (by omega) v_e hw_17
              have q2 : zq w = x9 := by rw [w_e]; exact zq_t (by omega)
              refine zr_ti (y := nI 1) rfl ?_
              refine lv_if_ne (tgt := 45) hx hb dX8_event_40 (by decide) (fun cn_18 => ?_) (fun cn_18 => ?_)
              · skip
                refine lv_aload_n hx hb dX8_event_45 rfl (lv_at hl 0 rfl) ?_
                refine va_get (D := D) (ci := 6) (v := .ref w0) (C := RX8) (T := TX8) (N := 15) hx hb hts (by decide +kernel) hown hK.1 hP 0 rfl rfl 0 (by decide) (hts (.fieldLink RX8 11 "HomeRoundsModel" "w" "[I") (by decide +kernel)) (fun _ h9 => h9) rfl dX8_event_46 ?_
                refine lv_iconst (v := nI 3) hx hb dX8_event_49 (by rfl) ?_
                refine va_iald hx hb hK.1 hP 1 0 rfl rfl (vp_in_nI (by omega) (by omega)) dX8_event_50 ?_
                refine zr_ti (y := nI en) ((congrArg wv (nI_clamp (by omega))).trans (hze.1)) ?_
                refine lv_bipush (v := nI 8) hx hb dX8_event_51 (by rfl) ?_
                refine lv_icmp_ne (tgt := 59) hx hb dX8_event_53 (by decide) (fun cn_19 => ?_) (fun cn_19 => ?_)
                · skip
                  have cn_19 : ¬ (en = 8) := fun hz => cn_19 ((nI_eq (a := en) (b := 8) (by omega) (by omega)).mpr hz)
                  have e3 : decide (en < 8) = true := decide_eq_true (by omega)
                  refine lv_aload_n hx hb dX8_event_59 rfl (lv_at hl 0 rfl) ?_
                  refine va_get (D := D) (ci := 6) (v := .ref w0) (C := RX8) (T := TX8) (N := 15) hx hb hts (by decide +kernel) hown hK.1 hP 0 rfl rfl 0 (by decide) (hts (.fieldLink RX8 11 "HomeRoundsModel" "w" "[I") (by decide +kernel)) (fun _ h9 => h9) rfl dX8_event_60 ?_
                  refine lv_bipush (v := nI 105) hx hb dX8_event_63 (by rfl) ?_
                  refine lv_iconst (v := nI 2) hx hb dX8_event_65 (by rfl) ?_
                  refine lv_aload_n hx hb dX8_event_66 rfl (lv_at hl 0 rfl) ?_
                  refine va_get (D := D) (ci := 6) (v := .ref w0) (C := RX8) (T := TX8) (N := 15) hx hb hts (by decide +kernel) hown hK.1 hP 0 rfl rfl 0 (by decide) (hts (.fieldLink RX8 11 "HomeRoundsModel" "w" "[I") (by decide +kernel)) (fun _ h9 => h9) rfl dX8_event_67 ?_
                  refine lv_iconst (v := nI 3) hx hb dX8_event_70 (by rfl) ?_
                  refine va_iald hx hb hK.1 hP 1 0 rfl rfl (vp_in_nI (by omega) (by omega)) dX8_event_71 ?_
                  refine zr_ti (y := nI en) ((congrArg wv (nI_clamp (by omega))).trans (hze.1)) ?_
                  refine lv_imul hx hb dX8_event_72 ?_
                  refine zr_ti (y := nI (2 * en)) (pk_mul _ _) ?_
                  refine lv_iadd hx hb dX8_event_73 ?_
                  refine zr_ti (y := nI (105 + (2 * en))) (nI_add _ _) ?_
                  refine lv_iload_n hx hb dX8_event_74 rfl (lv_at hl 1 rfl) ?_
                  refine va_iast hx hb hK.1 hP hD hS 1 0 rfl rfl (vp_in_nI (by omega) (by omega)) dX8_event_75 (fun H locs hP hD hS => ?_)
                  have hP : va_P D vwCl [(m0, .inr (6, [.ref w0, .ref w1, .ref w2, .int ik, .ref w3, .int (nI tx), .int he, .int fa, .ref w4, .ref w5, .int (nI cl), .ref w6, .ref w7, .ref w8, .ref w9])), (w0, .inl (E 0, 137, .inl (upd wv (nI (105 + (2 * en))).toNatClampNeg (nI 2))))] H := hP
                  have hD : va_D A [(m0, .inr (6, [.ref w0, .ref w1, .ref w2, .int ik, .ref w3, .int (nI tx), .int he, .int fa, .ref w4, .ref w5, .int (nI cl), .ref w6, .ref w7, .ref w8, .ref w9])), (w0, .inl (E 0, 137, .inl (upd wv (nI (105 + (2 * en))).toNatClampNeg (nI 2))))] := hD
                  have hcz : (upd wv (nI (105 + (2 * en))).toNatClampNeg (nI 2)) = (upd wv (105 + (2 * en)) (nI 2)) := by rw [nI_clamp (n := 105 + (2 * en)) (by omega)]
                  rw [hcz] at hP hD
                  refine lv_aload_n hx hb dX8_event_76 rfl (lv_at hl 0 rfl) ?_
                  refine va_get (D := D) (ci := 6) (v := .ref w0) (C := RX8) (T := TX8) (N := 15) hx hb hts (by decide +kernel) hown hK.1 hP 0 rfl rfl 0 (by decide) (hts (.fieldLink RX8 11 "HomeRoundsModel" "w" "[I") (by decide +kernel)) (fun _ h9 => h9) rfl dX8_event_77 ?_
                  refine lv_bipush (v := nI 105) hx hb dX8_event_80 (by rfl) ?_
                  refine lv_iconst (v := nI 2) hx hb dX8_event_82 (by rfl) ?_
                  refine lv_aload_n hx hb dX8_event_83 rfl (lv_at hl 0 rfl) ?_
                  refine va_get (D := D) (ci := 6) (v := .ref w0) (C := RX8) (T := TX8) (N := 15) hx hb hts (by decide +kernel) hown hK.1 hP 0 rfl rfl 0 (by decide) (hts (.fieldLink RX8 11 "HomeRoundsModel" "w" "[I") (by decide +kernel)) (fun _ h9 => h9) rfl dX8_event_84 ?_
                  refine lv_iconst (v := nI 3) hx hb dX8_event_87 (by rfl) ?_
                  refine va_iald hx hb hK.1 hP 1 0 rfl rfl (vp_in_nI (by omega) (by omega)) dX8_event_88 ?_
                  refine zr_ti (y := nI en) ((congrArg (upd wv (105 + (2 * en)) (nI 2)) (nI_clamp (by omega))).trans (by rw [zn_un (by omega)]; exact hze.1)) ?_
                  refine lv_imul hx hb dX8_event_89 ?_
                  refine zr_ti (y := nI (2 * en)) (pk_mul _ _) ?_
                  refine lv_iadd hx hb dX8_event_90 ?_
                  refine zr_ti (y := nI (105 + (2 * en))) (nI_add _ _) ?_
                  refine lv_iconst (v := nI 1) hx hb dX8_event_91 (by rfl) ?_
                  refine lv_iadd hx hb dX8_event_92 ?_
                  refine zr_ti (y := nI ((105 + (2 * en)) + 1)) (nI_add _ _) ?_
                  refine lv_iload_n hx hb dX8_event_93 rfl (lv_at hl 2 rfl) ?_
                  refine va_iast hx hb hK.1 hP hD hS 1 0 rfl rfl (vp_in_nI (by omega) (by omega)) dX8_event_94 (fun H locs hP hD hS => ?_)
                  have hP : va_P D vwCl [(m0, .inr (6, [.ref w0, .ref w1, .ref w2, .int ik, .ref w3, .int (nI tx), .int he, .int fa, .ref w4, .ref w5, .int (nI cl), .ref w6, .ref w7, .ref w8, .ref w9])), (w0, .inl (E 0, 137, .inl (upd (upd wv (105 + (2 * en)) (nI 2)) (nI ((105 + (2 * en)) + 1)).toNatClampNeg (nI x9))))] H := hP
                  have hD : va_D A [(m0, .inr (6, [.ref w0, .ref w1, .ref w2, .int ik, .ref w3, .int (nI tx), .int he, .int fa, .ref w4, .ref w5, .int (nI cl), .ref w6, .ref w7, .ref w8, .ref w9])), (w0, .inl (E 0, 137, .inl (upd (upd wv (105 + (2 * en)) (nI 2)) (nI ((105 + (2 * en)) + 1)).toNatClampNeg (nI x9))))] := hD
                  have hcz : (upd (upd wv (105 + (2 * en)) (nI 2)) (nI ((105 + (2 * en)) + 1)).toNatClampNeg (nI x9)) = (upd (upd wv (105 + (2 * en)) (nI 2)) ((105 + (2 * en)) + 1) (nI x9)) := by rw [nI_clamp (n := (105 + (2 * en)) + 1) (by omega)]
                  rw [hcz] at hP hD
                  refine lv_aload_n hx hb dX8_event_95 rfl (lv_at hl 0 rfl) ?_
                  refine va_get (D := D) (ci := 6) (v := .ref w0) (C := RX8) (T := TX8) (N := 15) hx hb hts (by decide +kernel) hown hK.1 hP 0 rfl rfl 0 (by decide) (hts (.fieldLink RX8 11 "HomeRoundsModel" "w" "[I") (by decide +kernel)) (fun _ h9 => h9) rfl dX8_event_96 ?_
                  refine lv_iconst (v := nI 3) hx hb dX8_event_99 (by rfl) ?_
                  refine lv_dup2_11 hx hb dX8_event_100 rfl rfl ?_
                  refine va_iald hx hb hK.1 hP 1 0 rfl rfl (vp_in_nI (by omega) (by omega)) dX8_event_101 ?_
                  refine zr_ti (y := nI en) ((congrArg (upd (upd wv (105 + (2 * en)) (nI 2)) ((105 + (2 * en)) + 1) (nI x9)) (nI_clamp (by omega))).trans (by rw [zn_un (by omega), zn_un (by omega)]; exact hze.1)) ?_
                  refine lv_iconst (v := nI 1) hx hb dX8_event_102 (by rfl) ?_
                  refine lv_iadd hx hb dX8_event_103 ?_
                  refine zr_ti (y := nI (en + 1)) (nI_add _ _) ?_
                  refine va_iast hx hb hK.1 hP hD hS 1 0 rfl rfl (vp_in_nI (by omega) (by omega)) dX8_event_104 (fun H locs hP hD hS => ?_)
                  have hP : va_P D vwCl [(m0, .inr (6, [.ref w0, .ref w1, .ref w2, .int ik, .ref w3, .int (nI tx), .int he, .int fa, .ref w4, .ref w5, .int (nI cl), .ref w6, .ref w7, .ref w8, .ref w9])), (w0, .inl (E 0, 137, .inl (upd (upd (upd wv (105 + (2 * en)) (nI 2)) ((105 + (2 * en)) + 1) (nI x9)) (nI 3).toNatClampNeg (nI (en + 1)))))] H := hP
                  have hD : va_D A [(m0, .inr (6, [.ref w0, .ref w1, .ref w2, .int ik, .ref w3, .int (nI tx), .int he, .int fa, .ref w4, .ref w5, .int (nI cl), .ref w6, .ref w7, .ref w8, .ref w9])), (w0, .inl (E 0, 137, .inl (upd (upd (upd wv (105 + (2 * en)) (nI 2)) ((105 + (2 * en)) + 1) (nI x9)) (nI 3).toNatClampNeg (nI (en + 1)))))] := hD
                  have hcz : (upd (upd (upd wv (105 + (2 * en)) (nI 2)) ((105 + (2 * en)) + 1) (nI x9)) (nI 3).toNatClampNeg (nI (en + 1))) = (upd (upd (upd wv (105 + (2 * en)) (nI 2)) ((105 + (2 * en)) + 1) (nI x9)) 3 (nI (en + 1))) := by rw [nI_clamp (n := 3) (by omega)]
                  rw [hcz] at hP hD
                  refine lv_aload_n hx hb dX8_event_105 rfl (lv_at hl 0 rfl) ?_
                  refine va_get (D := D) (ci := 6) (v := .ref w0) (C := RX8) (T := TX8) (N := 15) hx hb hts (by decide +kernel) hown hK.1 hP 0 rfl rfl 0 (by decide) (hts (.fieldLink RX8 11 "HomeRoundsModel" "w" "[I") (by decide +kernel)) (fun _ h9 => h9) rfl dX8_event_106 ?_
                  refine lv_iconst (v := nI 3) hx hb dX8_event_109 (by rfl) ?_
                  refine va_iald hx hb hK.1 hP 1 0 rfl rfl (vp_in_nI (by omega) (by omega)) dX8_event_110 ?_
                  refine zr_ti (y := nI (en + 1)) ((congrArg (upd (upd (upd wv (105 + (2 * en)) (nI 2)) ((105 + (2 * en)) + 1) (nI x9)) 3 (nI (en + 1))) (nI_clamp (by omega))).trans (zn_ue)) ?_
                  subst hQ; subst hAe
                  exact W.iret (v := nI (en + 1)) hx hb hr (fun tz htz hWz => ⟨⟨nI (en + 1), (upd (upd (upd wv (105 + (2 * en)) (nI 2)) ((105 + (2 * en)) + 1) (nI x9)) 3 (nI (en + 1))), rfl, ⟨by unfold zo_event; simp only [cond_true, cond_false, Bool.and_true, Bool.and_false, Bool.true_and, Bool.false_and, d1, e2, e3, q1, q2], by simp only [cond_true, cond_false, Bool.and_true, Bool.and_false, Bool.true_and, Bool.false_and, d1, e2, e3, q1, q2]; exact (zv_all_e1 hva (by omega))⟩, by rw [htz]; exact hP, hD⟩, hS.F htz⟩) hS.2.2 dX8_event_111
                · skip
                  have cn_19 : en = 8 := (nI_eq (a := en) (b := 8) (by omega) (by omega)).mp cn_19
                  have e3 : decide (en < 8) = false := decide_eq_false (by omega)
                  refine lv_bipush (v := (-4)) hx hb dX8_event_56 (by rfl) ?_
                  subst hQ; subst hAe
                  exact W.iret (v := (-4)) hx hb hr (fun tz htz hWz => ⟨⟨(-4), wv, rfl, ⟨by unfold zo_event; simp only [cond_true, cond_false, Bool.and_true, Bool.and_false, Bool.true_and, Bool.false_and, d1, e2, e3], by simp only [cond_true, cond_false, Bool.and_true, Bool.and_false, Bool.true_and, Bool.false_and, d1, e2, e3]; exact hva⟩, by rw [htz]; exact hP, hD⟩, hS.F htz⟩) hS.2.2 dX8_event_58
              · skip
                exact absurd cn_18 (by decide)
            · skip
              have e2 : zc_ev N v w = false := zc_ev_f hx9 w_e (by omega) v_e hw_17
              refine zr_ti (y := nI 0) rfl ?_
              refine lv_if_ne (tgt := 45) hx hb dX8_event_40 (by decide) (fun cn_20 => ?_) (fun cn_20 => ?_)
              · skip
                exact absurd cn_20 (by decide)
              · skip
                refine lv_iconst (v := (-1)) hx hb dX8_event_43 (by rfl) ?_
                subst hQ; subst hAe
                exact W.iret (v := (-1)) hx hb hr (fun tz htz hWz => ⟨⟨(-1), wv, rfl, ⟨by unfold zo_event; simp only [cond_true, cond_false, Bool.and_true, Bool.and_false, Bool.true_and, Bool.false_and, d1, e2], by simp only [cond_true, cond_false, Bool.and_true, Bool.and_false, Bool.true_and, Bool.false_and, d1, e2]; exact hva⟩, by rw [htz]; exact hP, hD⟩, hS.F htz⟩) hS.2.2 dX8_event_44
          · skip
            rw [htk] at hl q1 v_e
            refine lv_aload_n hx hb dX8_event_27 rfl (lv_at hl 0 rfl) ?_
            refine lv_iload_n hx hb dX8_event_28 rfl (lv_at hl 1 rfl) ?_
            refine lv_iload_n hx hb dX8_event_29 rfl (lv_at hl 2 rfl) ?_
            refine lv_bipush (v := nI 10) hx hb dX8_event_30 (by rfl) ?_
            refine lv_idiv hx hb dX8_event_32 (by decide) ?_
            refine zr_ti (y := nI (x9 / 10)) (pk_div (by omega) (by omega) (by omega)) ?_
            refine lv_iload_n hx hb dX8_event_33 rfl (lv_at hl 2 rfl) ?_
            refine lv_bipush (v := nI 10) hx hb dX8_event_34 (by rfl) ?_
            refine lv_irem hx hb dX8_event_36 (by decide) ?_
            refine zr_ti (y := nI (x9 % 10)) (pk_rem (by omega) (by omega) (by omega)) ?_
            refine zr_ci hP hS (va_runV (As := [.int (nI 3), .int (nI (x9 / 10)), .int (nI (x9 % 10))]) (rest := []) ⟨hx, hb, hml, hown, hts⟩ (c_X8_isEvent_3 l D E m0 w0 w1 w2 w3 w4 w5 w6 w7 w8 w9 ik tx he fa cl wv N x9 (hvn) (hN) (by omega)) (cwV 3 hts gX8_event_X8_isEvent rfl rfl rfl (by decide +kernel) ⟨Nat.le_of_ble_eq_true rfl, Nat.le_of_ble_eq_true rfl⟩) (zr_V hK (hP.sub (ws' := [(m0, .inr (6, [.ref w0, .ref w1, .ref w2, .int ik, .ref w3, .int (nI tx), .int he, .int fa, .ref w4, .ref w5, .int (nI cl), .ref w6, .ref w7, .ref w8, .ref w9])), (w0, .inl (E 0, 137, .inl wv))]) [0, 1] rfl) (ci := 6) (q0 := 0) rfl rfl) rfl rfl hl.1 rfl (lv_room (Nat.le_of_ble_eq_true rfl)) dX8_event_37 ⟨Nat.zero_le _, Nat.zero_le _⟩) (fun r_21 H locs hw_22 hP hS => ?_)
            rcases hw_22 with ⟨rfl, hw_22⟩ | ⟨rfl, hw_22⟩
            · skip
              have e2 : zc_ev N v w = true := zc_ev_t (x := x9) (by have h9 := of_decide_eq_true hw_22; omega) w_e (by omega) v_e hw_22
              have q2 : zq w = x9 := by rw [w_e]; exact zq_t (by omega)
              refine zr_ti (y := nI 1) rfl ?_
              refine lv_if_ne (tgt := 45) hx hb dX8_event_40 (by decide) (fun cn_23 => ?_) (fun cn_23 => ?_)
              · skip
                refine lv_aload_n hx hb dX8_event_45 rfl (lv_at hl 0 rfl) ?_
                refine va_get (D := D) (ci := 6) (v := .ref w0) (C := RX8) (T := TX8) (N := 15) hx hb hts (by decide +kernel) hown hK.1 hP 0 rfl rfl 0 (by decide) (hts (.fieldLink RX8 11 "HomeRoundsModel" "w" "[I") (by decide +kernel)) (fun _ h9 => h9) rfl dX8_event_46 ?_
                refine lv_iconst (v := nI 3) hx hb dX8_event_49 (by rfl) ?_
                refine va_iald hx hb hK.1 hP 1 0 rfl rfl (vp_in_nI (by omega) (by omega)) dX8_event_50 ?_
                refine zr_ti (y := nI en) ((congrArg wv (nI_clamp (by omega))).trans (hze.1)) ?_
                refine lv_bipush (v := nI 8) hx hb dX8_event_51 (by rfl) ?_
                refine lv_icmp_ne (tgt := 59) hx hb dX8_event_53 (by decide) (fun cn_24 => ?_) (fun cn_24 => ?_)
                · skip
                  have cn_24 : ¬ (en = 8) := fun hz => cn_24 ((nI_eq (a := en) (b := 8) (by omega) (by omega)).mpr hz)
                  have e3 : decide (en < 8) = true := decide_eq_true (by omega)
                  refine lv_aload_n hx hb dX8_event_59 rfl (lv_at hl 0 rfl) ?_
                  refine va_get (D := D) (ci := 6) (v := .ref w0) (C := RX8) (T := TX8) (N := 15) hx hb hts (by decide +kernel) hown hK.1 hP 0 rfl rfl 0 (by decide) (hts (.fieldLink RX8 11 "HomeRoundsModel" "w" "[I") (by decide +kernel)) (fun _ h9 => h9) rfl dX8_event_60 ?_
                  refine lv_bipush (v := nI 105) hx hb dX8_event_63 (by rfl) ?_
                  refine lv_iconst (v := nI 2) hx hb dX8_event_65 (by rfl) ?_
                  refine lv_aload_n hx hb dX8_event_66 rfl (lv_at hl 0 rfl) ?_
                  refine va_get (D := D) (ci := 6) (v := .ref w0) (C := RX8) (T := TX8) (N := 15) hx hb hts (by decide +kernel) hown hK.1 hP 0 rfl rfl 0 (by decide) (hts (.fieldLink RX8 11 "HomeRoundsModel" "w" "[I") (by decide +kernel)) (fun _ h9 => h9) rfl dX8_event_67 ?_
                  refine lv_iconst (v := nI 3) hx hb dX8_event_70 (by rfl) ?_
                  refine va_iald hx hb hK.1 hP 1 0 rfl rfl (vp_in_nI (by omega) (by omega)) dX8_event_71 ?_
                  refine zr_ti (y := nI en) ((congrArg wv (nI_clamp (by omega))).trans (hze.1)) ?_
                  refine lv_imul hx hb dX8_event_72 ?_
                  refine zr_ti (y := nI (2 * en)) (pk_mul _ _) ?_
                  refine lv_iadd hx hb dX8_event_73 ?_
                  refine zr_ti (y := nI (105 + (2 * en))) (nI_add _ _) ?_
                  refine lv_iload_n hx hb dX8_event_74 rfl (lv_at hl 1 rfl) ?_
                  refine va_iast hx hb hK.1 hP hD hS 1 0 rfl rfl (vp_in_nI (by omega) (by omega)) dX8_event_75 (fun H locs hP hD hS => ?_)
                  have hP : va_P D vwCl [(m0, .inr (6, [.ref w0, .ref w1, .ref w2, .int ik, .ref w3, .int (nI tx), .int he, .int fa, .ref w4, .ref w5, .int (nI cl), .ref w6, .ref w7, .ref w8, .ref w9])), (w0, .inl (E 0, 137, .inl (upd wv (nI (105 + (2 * en))).toNatClampNeg (nI 3))))] H := hP
                  have hD : va_D A [(m0, .inr (6, [.ref w0, .ref w1, .ref w2, .int ik, .ref w3, .int (nI tx), .int he, .int fa, .ref w4, .ref w5, .int (nI cl), .ref w6, .ref w7, .ref w8, .ref w9])), (w0, .inl (E 0, 137, .inl (upd wv (nI (105 + (2 * en))).toNatClampNeg (nI 3))))] := hD
                  have hcz : (upd wv (nI (105 + (2 * en))).toNatClampNeg (nI 3)) = (upd wv (105 + (2 * en)) (nI 3)) := by rw [nI_clamp (n := 105 + (2 * en)) (by omega)]
                  rw [hcz] at hP hD
                  refine lv_aload_n hx hb dX8_event_76 rfl (lv_at hl 0 rfl) ?_
                  refine va_get (D := D) (ci := 6) (v := .ref w0) (C := RX8) (T := TX8) (N := 15) hx hb hts (by decide +kernel) hown hK.1 hP 0 rfl rfl 0 (by decide) (hts (.fieldLink RX8 11 "HomeRoundsModel" "w" "[I") (by decide +kernel)) (fun _ h9 => h9) rfl dX8_event_77 ?_
                  refine lv_bipush (v := nI 105) hx hb dX8_event_80 (by rfl) ?_
                  refine lv_iconst (v := nI 2) hx hb dX8_event_82 (by rfl) ?_
                  refine lv_aload_n hx hb dX8_event_83 rfl (lv_at hl 0 rfl) ?_
                  refine va_get (D := D) (ci := 6) (v := .ref w0) (C := RX8) (T := TX8) (N := 15) hx hb hts (by decide +kernel) hown hK.1 hP 0 rfl rfl 0 (by decide) (hts (.fieldLink RX8 11 "HomeRoundsModel" "w" "[I") (by decide +kernel)) (fun _ h9 => h9) rfl dX8_event_84 ?_
                  refine lv_iconst (v := nI 3) hx hb dX8_event_87 (by rfl) ?_
                  refine va_iald hx hb hK.1 hP 1 0 rfl rfl (vp_in_nI (by omega) (by omega)) dX8_event_88 ?_
                  refine zr_ti (y := nI en) ((congrArg (upd wv (105 + (2 * en)) (nI 3)) (nI_clamp (by omega))).trans (by rw [zn_un (by omega)]; exact hze.1)) ?_
                  refine lv_imul hx hb dX8_event_89 ?_
                  refine zr_ti (y := nI (2 * en)) (pk_mul _ _) ?_
                  refine lv_iadd hx hb dX8_event_90 ?_
                  refine zr_ti (y := nI (105 + (2 * en))) (nI_add _ _) ?_
                  refine lv_iconst (v := nI 1) hx hb dX8_event_91 (by rfl) ?_
                  refine lv_iadd hx hb dX8_event_92 ?_
                  refine zr_ti (y := nI ((105 + (2 * en)) + 1)) (nI_add _ _) ?_
                  refine lv_iload_n hx hb dX8_event_93 rfl (lv_at hl 2 rfl) ?_
                  refine va_iast hx hb hK.1 hP hD hS 1 0 rfl rfl (vp_in_nI (by omega) (by omega)) dX8_event_94 (fun H locs hP hD hS => ?_)
                  have hP : va_P D vwCl [(m0, .inr (6, [.ref w0, .ref w1, .ref w2, .int ik, .ref w3, .int (nI tx), .int he, .int fa, .ref w4, .ref w5, .int (nI cl), .ref w6, .ref w7, .ref w8, .ref w9])), (w0, .inl (E 0, 137, .inl (upd (upd wv (105 + (2 * en)) (nI 3)) (nI ((105 + (2 * en)) + 1)).toNatClampNeg (nI x9))))] H := hP
                  have hD : va_D A [(m0, .inr (6, [.ref w0, .ref w1, .ref w2, .int ik, .ref w3, .int (nI tx), .int he, .int fa, .ref w4, .ref w5, .int (nI cl), .ref w6, .ref w7, .ref w8, .ref w9])), (w0, .inl (E 0, 137, .inl (upd (upd wv (105 + (2 * en)) (nI 3)) (nI ((105 + (2 * en)) + 1)).toNatClampNeg (nI x9))))] := hD
                  have hcz : (upd (upd wv (105 + (2 * en)) (nI 3)) (nI ((105 + (2 * en)) + 1)).toNatClampNeg (nI x9)) = (upd (upd wv (105 + (2 * en)) (nI 3)) ((105 + (2 * en)) + 1) (nI x9)) := by rw [nI_clamp (n := (105 + (2 * en)) + 1) (by omega)]
                  rw [hcz] at hP hD
                  refine lv_aload_n hx hb dX8_event_95 rfl (lv_at hl 0 rfl) ?_
                  refine va_get (D := D) (ci := 6) (v := .ref w0) (C := RX8) (T := TX8) (N := 15) hx hb hts (by decide +kernel) hown hK.1 hP 0 rfl rfl 0 (by decide) (hts (.fieldLink RX8 11 "HomeRoundsModel" "w" "[I") (by decide +kernel)) (fun _ h9 => h9) rfl dX8_event_96 ?_
                  refine lv_iconst (v := nI 3) hx hb dX8_event_99 (by rfl) ?_
                  refine lv_dup2_11 hx hb dX8_event_100 rfl rfl ?_
                  refine va_iald hx hb hK.1 hP 1 0 rfl rfl (vp_in_nI (by omega) (by omega)) dX8_event_101 ?_
                  refine zr_ti (y := nI en) ((congrArg (upd (upd wv (105 + (2 * en)) (nI 3)) ((105 + (2 * en)) + 1) (nI x9)) (nI_clamp (by omega))).trans (by rw [zn_un (by omega), zn_un (by omega)]; exact hze.1)) ?_
                  refine lv_iconst (v := nI 1) hx hb dX8_event_102 (by rfl) ?_
                  refine lv_iadd hx hb dX8_event_103 ?_
                  refine zr_ti (y := nI (en + 1)) (nI_add _ _) ?_
                  refine va_iast hx hb hK.1 hP hD hS 1 0 rfl rfl (vp_in_nI (by omega) (by omega)) dX8_event_104 (fun H locs hP hD hS => ?_)
                  have hP : va_P D vwCl [(m0, .inr (6, [.ref w0, .ref w1, .ref w2, .int ik, .ref w3, .int (nI tx), .int he, .int fa, .ref w4, .ref w5, .int (nI cl), .ref w6, .ref w7, .ref w8, .ref w9])), (w0, .inl (E 0, 137, .inl (upd (upd (upd wv (105 + (2 * en)) (nI 3)) ((105 + (2 * en)) + 1) (nI x9)) (nI 3).toNatClampNeg (nI (en + 1)))))] H := hP
                  have hD : va_D A [(m0, .inr (6, [.ref w0, .ref w1, .ref w2, .int ik, .ref w3, .int (nI tx), .int he, .int fa, .ref w4, .ref w5, .int (nI cl), .ref w6, .ref w7, .ref w8, .ref w9])), (w0, .inl (E 0, 137, .inl (upd (upd (upd wv (105 + (2 * en)) (nI 3)) ((105 + (2 * en)) + 1) (nI x9)) (nI 3).toNatClampNeg (nI (en + 1)))))] := hD
                  have hcz : (upd (upd (upd wv (105 + (2 * en)) (nI 3)) ((105 + (2 * en)) + 1) (nI x9)) (nI 3).toNatClampNeg (nI (en + 1))) = (upd (upd (upd wv (105 + (2 * en)) (nI 3)) ((105 + (2 * en)) + 1) (nI x9)) 3 (nI (en + 1))) := by rw [nI_clamp (n := 3) (by omega)]
                  rw [hcz] at hP hD
                  refine lv_aload_n hx hb dX8_event_105 rfl (lv_at hl 0 rfl) ?_
                  refine va_get (D := D) (ci := 6) (v := .ref w0) (C := RX8) (T := TX8) (N := 15) hx hb hts (by decide +kernel) hown hK.1 hP 0 rfl rfl 0 (by decide) (hts (.fieldLink RX8 11 "HomeRoundsModel" "w" "[I") (by decide +kernel)) (fun _ h9 => h9) rfl dX8_event_106 ?_
                  refine lv_iconst (v := nI 3) hx hb dX8_event_109 (by rfl) ?_
                  refine va_iald hx hb hK.1 hP 1 0 rfl rfl (vp_in_nI (by omega) (by omega)) dX8_event_110 ?_
                  refine zr_ti (y := nI (en + 1)) ((congrArg (upd (upd (upd wv (105 + (2 * en)) (nI 3)) ((105 + (2 * en)) + 1) (nI x9)) 3 (nI (en + 1))) (nI_clamp (by omega))).trans (zn_ue)) ?_
                  subst hQ; subst hAe
                  exact W.iret (v := nI (en + 1)) hx hb hr (fun tz htz hWz => ⟨⟨nI (en + 1), (upd (upd (upd wv (105 + (2 * en)) (nI 3)) ((105 + (2 * en)) + 1) (nI x9)) 3 (nI (en + 1))), rfl, ⟨by unfold zo_event; simp only [cond_true, cond_false, Bool.and_true, Bool.and_false, Bool.true_and, Bool.false_and, d1, e2, e3, q1, q2], by simp only [cond_true, cond_false, Bool.and_true, Bool.and_false, Bool.true_and, Bool.false_and, d1, e2, e3, q1, q2]; exact (zv_all_e1 hva (by omega))⟩, by rw [htz]; exact hP, hD⟩, hS.F htz⟩) hS.2.2 dX8_event_111
                · skip
                  have cn_24 : en = 8 := (nI_eq (a := en) (b := 8) (by omega) (by omega)).mp cn_24
                  have e3 : decide (en < 8) = false := decide_eq_false (by omega)
                  refine lv_bipush (v := (-4)) hx hb dX8_event_56 (by rfl) ?_
                  subst hQ; subst hAe
                  exact W.iret (v := (-4)) hx hb hr (fun tz htz hWz => ⟨⟨(-4), wv, rfl, ⟨by unfold zo_event; simp only [cond_true, cond_false, Bool.and_true, Bool.and_false, Bool.true_and, Bool.false_and, d1, e2, e3], by simp only [cond_true, cond_false, Bool.and_true, Bool.and_false, Bool.true_and, Bool.false_and, d1, e2, e3]; exact hva⟩, by rw [htz]; exact hP, hD⟩, hS.F htz⟩) hS.2.2 dX8_event_58
              · skip
                exact absurd cn_23 (by decide)
            · skip
              have e2 : zc_ev N v w = false := zc_ev_f hx9 w_e (by omega) v_e hw_22
              refine zr_ti (y := nI 0) rfl ?_
              refine lv_if_ne (tgt := 45) hx hb dX8_event_40 (by decide) (fun cn_25 => ?_) (fun cn_25 => ?_)
              · skip
                exact absurd cn_25 (by decide)
              · skip
                refine lv_iconst (v := (-1)) hx hb dX8_event_43 (by rfl) ?_
                subst hQ; subst hAe
                exact W.iret (v := (-1)) hx hb hr (fun tz htz hWz => ⟨⟨(-1), wv, rfl, ⟨by unfold zo_event; simp only [cond_true, cond_false, Bool.and_true, Bool.and_false, Bool.true_and, Bool.false_and, d1, e2], by simp only [cond_true, cond_false, Bool.and_true, Bool.and_false, Bool.true_and, Bool.false_and, d1, e2]; exact hva⟩, by rw [htz]; exact hP, hD⟩, hS.F htz⟩) hS.2.2 dX8_event_44
    · skip
      have e1 : zi 4 v = false := zi_f (zn_out3 (n := 4) (by omega) hw_3)
      have e2 : zc_ev N v w = false := zc_ev_v e1
      refine zr_ti (y := nI 0) rfl ?_
      refine lv_if_eq (tgt := 43) hx hb dX8_event_20 (by decide) (fun cn_26 => ?_) (fun cn_26 => ?_)
      · skip
        refine lv_iconst (v := (-1)) hx hb dX8_event_43 (by rfl) ?_
        subst hQ; subst hAe
        exact W.iret (v := (-1)) hx hb hr (fun tz htz hWz => ⟨⟨(-1), wv, rfl, ⟨by unfold zo_event; simp only [cond_true, cond_false, Bool.and_true, Bool.and_false, Bool.true_and, Bool.false_and, d1, e2], by simp only [cond_true, cond_false, Bool.and_true, Bool.and_false, Bool.true_and, Bool.false_and, d1, e2]; exact hva⟩, by rw [htz]; exact hP, hD⟩, hS.F htz⟩) hS.2.2 dX8_event_44
      · skip
        exact absurd cn_26 (by decide)
  · skip
    have d1 : decide (v = -1) = true := decide_eq_true cn_1
    have e2 : zc_ev N v w = false := zc_ev_v (zi_m1 (by omega) cn_1)
    refine lv_aload_n hx hb dX8_event_5 rfl (lv_at hl 0 rfl) ?_
    refine va_get (D := D) (ci := 6) (v := .ref w0) (C := RX8) (T := TX8) (N := 15) hx hb hts (by decide +kernel) hown hK.1 hP 0 rfl rfl 0 (by decide) (hts (.fieldLink RX8 11 "HomeRoundsModel" "w" "[I") (by decide +kernel)) (fun _ h9 => h9) rfl dX8_event_6 ?_
    refine lv_iconst (v := nI 3) hx hb dX8_event_9 (by rfl) ?_
    refine lv_iconst (v := nI 0) hx hb dX8_event_10 (by rfl) ?_
    refine va_iast hx hb hK.1 hP hD hS 1 0 rfl rfl (vp_in_nI (by omega) (by omega)) dX8_event_11 (fun H locs hP hD hS => ?_)
    have hP : va_P D vwCl [(m0, .inr (6, [.ref w0, .ref w1, .ref w2, .int ik, .ref w3, .int (nI tx), .int he, .int fa, .ref w4, .ref w5, .int (nI cl), .ref w6, .ref w7, .ref w8, .ref w9])), (w0, .inl (E 0, 137, .inl (upd wv (nI 3).toNatClampNeg (nI 0))))] H := hP
    have hD : va_D A [(m0, .inr (6, [.ref w0, .ref w1, .ref w2, .int ik, .ref w3, .int (nI tx), .int he, .int fa, .ref w4, .ref w5, .int (nI cl), .ref w6, .ref w7, .ref w8, .ref w9])), (w0, .inl (E 0, 137, .inl (upd wv (nI 3).toNatClampNeg (nI 0))))] := hD
    have hcz : (upd wv (nI 3).toNatClampNeg (nI 0)) = (upd wv 3 (nI 0)) := by rw [nI_clamp (n := 3) (by omega)]
    rw [hcz] at hP hD
    refine lv_iconst (v := nI 0) hx hb dX8_event_12 (by rfl) ?_
    subst hQ; subst hAe
    exact W.iret (v := nI 0) hx hb hr (fun tz htz hWz => ⟨⟨nI 0, (upd wv 3 (nI 0)), rfl, ⟨by unfold zo_event; simp only [cond_true, cond_false, Bool.and_true, Bool.and_false, Bool.true_and, Bool.false_and, d1, e2], by simp only [cond_true, cond_false, Bool.and_true, Bool.and_false, Bool.true_and, Bool.false_and, d1, e2]; exact (zv_all_e0 hva)⟩, by rw [htz]; exact hP, hD⟩, hS.F htz⟩) hS.2.2 dX8_event_13

set_option maxHeartbeats 4000000 in
set_option maxRecDepth 100000 in
theorem c_X8_book (l : Launch) (D : va_G) (E : Nat → ClassId) (m0 : Nat) (w0 : Nat) (w1 : Nat) (w2 : Nat) (w3 : Nat) (w4 : Nat) (w5 : Nat) (w6 : Nat) (w7 : Nat) (w8 : Nat) (w9 : Nat) (ik : Int32) (tx : Nat) (he : Int32) (fa : Int32) (cl : Nat) (wv : Nat → Int32) (N : Nat) (G : Nat → Nat → Nat) (P : Nat → Nat → Nat) (X : Nat → Nat) (Y : Nat → Nat) (B : Nat → Nat → Nat) (R : Nat → Nat) (kd : Nat) (sn : Nat) (sT : Nat → Nat) (sR : Nat → Nat) (sH : Nat → Nat) (en : Nat) (eW : Nat → Nat) (eN : Nat → Nat) (bn : Nat) (bT : Nat → Nat) (bN : Nat → Nat) (v : Int32) (w : Int32) (hva : zv_all N G P X Y B R kd sn sT sR sH en eW eN bn bT bN wv) (hzs : zs_all N kd sn sT sR sH en eW eN bn bT bN) : Met l yX8_book wsX8_book ({ frames := 2, cells := 0, slots := 0, locals := 43 }) (zw_P D E [.ref m0, .int v, .int w] [(m0, .inr (6, [.ref w0, .ref w1, .ref w2, .int ik, .ref w3, .int (nI tx), .int he, .int fa, .ref w4, .ref w5, .int (nI cl), .ref w6, .ref w7, .ref w8, .ref w9])), (w0, .inl (E 0, 137, .inl wv))]) (zw_Qi D [(m0, .inr (6, [.ref w0, .ref w1, .ref w2, .int ik, .ref w3, .int (nI tx), .int he, .int fa, .ref w4, .ref w5, .int (nI cl), .ref w6, .ref w7, .ref w8, .ref w9])), (w0, .inl (E 0, 137, .inl wv))] (fun zv (u : (Nat → Int32)) => zv = zo_book N bn v w ∧ zv_all N G P X Y B R kd sn sT sR sH en eW eN (cond (decide (v = -1)) 0 (cond (zc_book N bn v w) (bn + 1) bn)) (cond (zc_book N bn v w) (zm_up bT bn (zq v)) bT) (cond (zc_book N bn v w) (zm_up bN bn (zq w)) bN) u) (fun (u : (Nat → Int32)) => [(m0, .inr (6, [.ref w0, .ref w1, .ref w2, .int ik, .ref w3, .int (nI tx), .int he, .int fa, .ref w4, .ref w5, .int (nI cl), .ref w6, .ref w7, .ref w8, .ref w9])), (w0, .inl (E 0, 137, .inl u))])) 0 0 (zw_A [(m0, .inr (6, [.ref w0, .ref w1, .ref w2, .int ik, .ref w3, .int (nI tx), .int he, .int fa, .ref w4, .ref w5, .int (nI cl), .ref w6, .ref w7, .ref w8, .ref w9])), (w0, .inl (E 0, 137, .inl wv))]) := by
  refine Met.ofW (cc := cX8_book) (maxL := 3) (ret := (some .int)) (by decide) rfl ?_
  intro p e s m args below meth c s₁ Bz hml hv
  obtain ⟨rfl, hP, hK, hD0⟩ := hv
  have hx := Bz.exec
  have hb := Bz.bytes
  have hr := Bz.returns
  have hts := atoms_spec (ws := wsX8_book) Bz.pre
  have hown : s.vm.findClass RX8 = some m.cls := findClass_of_methodNamed Bz.named
  have hlocks := Bz.notSynchronized
  have hP : va_P D vwCl [(m0, .inr (6, [.ref w0, .ref w1, .ref w2, .int ik, .ref w3, .int (nI tx), .int he, .int fa, .ref w4, .ref w5, .int (nI cl), .ref w6, .ref w7, .ref w8, .ref w9])), (w0, .inl (E 0, 137, .inl wv))] s.heap := hP
  obtain ⟨A, hAe⟩ : ∃ A : Nat → Prop, A = zw_A [(m0, .inr (6, [.ref w0, .ref w1, .ref w2, .int ik, .ref w3, .int (nI tx), .int he, .int fa, .ref w4, .ref w5, .int (nI cl), .ref w6, .ref w7, .ref w8, .ref w9])), (w0, .inl (E 0, 137, .inl wv))] := ⟨_, rfl⟩
  have hD : va_D A [(m0, .inr (6, [.ref w0, .ref w1, .ref w2, .int ik, .ref w3, .int (nI tx), .int he, .int fa, .ref w4, .ref w5, .int (nI cl), .ref w6, .ref w7, .ref w8, .ref w9])), (w0, .inl (E 0, 137, .inl wv))] := hAe ▸ zw_own hD0
  have hS : va_S A s.heap s.heap [] := va_S.rf
  have hl := lv_entry ([.ref m0, .int v, .int w]) (n := 3) (Nat.le_of_ble_eq_true rfl)
  rw [lg_entry_eq]
  generalize (lg_sl ([.ref m0, .int v, .int w]) ++ List.replicate (3 - (lg_sl ([.ref m0, .int v, .int w])).length) Slot.unset).toArray = ls at hl ⊢
  have hl : lv_has ls 3 [(0, .ref m0), (1, .int v), (2, .int w)] := hl
  refine zr_nQ (fun Q hQ => ?_)
  obtain ⟨hvg, hxy, hvb, hvr, hkv, hzc, hze, hzb, hn6, hn8, hm8⟩ := id hva
  obtain ⟨hkd, hse, hev, hbo⟩ := id hzs
  have hok := hvg.1
  have hN := hok.1
  have hvn := hvg.2.1
  have hgr := zm_gr_of hxy
  have hs0 := hse.1
  have hs1 := hev.1
  have hs2 := hbo.1
  refine lv_iload_n hx hb dX8_book_0 rfl (lv_at hl 1 rfl) ?_
  refine lv_iconst (v := (-1)) hx hb dX8_book_1 (by rfl) ?_
  refine lv_icmp_ne (tgt := 14) hx hb dX8_book_2 (by decide) (fun cn_1 => ?_) (fun cn_1 => ?_)
  · skip
    have d1 : decide (v = -1) = false := decide_eq_false cn_1
    refine lv_aload_n hx hb dX8_book_14 rfl (lv_at hl 0 rfl) ?_
    refine lv_iload_n hx hb dX8_book_15 rfl (lv_at hl 1 rfl) ?_
    refine zr_ci hP hS (va_runV (As := [.int v]) (rest := []) ⟨hx, hb, hml, hown, hts⟩ (c_X8_isTeam l D E m0 w0 w1 w2 w3 w4 w5 w6 w7 w8 w9 ik tx he fa cl wv N v (hvn) (hN)) (cwV 1 hts gX8_book_X8_isTeam rfl rfl rfl (by decide +kernel) ⟨Nat.le_of_ble_eq_true rfl, Nat.le_of_ble_eq_true rfl⟩) (zr_V hK (hP.sub (ws' := [(m0, .inr (6, [.ref w0, .ref w1, .ref w2, .int ik, .ref w3, .int (nI tx), .int he, .int fa, .ref w4, .ref w5, .int (nI cl), .ref w6, .ref w7, .ref w8, .ref w9])), (w0, .inl (E 0, 137, .inl wv))]) [0, 1] rfl) (ci := 6) (q0 := 0) rfl rfl) rfl rfl hl.1 rfl (lv_room (Nat.le_of_ble_eq_true rfl)) dX8_book_16 ⟨Nat.zero_le _, Nat.zero_le _⟩) (fun r_2 H locs hw_3 hP hS => ?_)
    rcases hw_3 with ⟨rfl, hw_3⟩ | ⟨rfl, hw_3⟩
    · skip
      obtain ⟨t, ht, v_e⟩ := hw_3
      have e1 : zi N v = true := v_e ▸ zi_t ht (by omega)
      have q1 : zq v = t := v_e ▸ zq_t (by omega)
      rw [v_e] at hl
      refine zr_ti (y := nI 1) rfl ?_
      refine lv_if_ne (tgt := 24) hx hb dX8_book_19 (by decide) (fun cn_4 => ?_) (fun cn_4 => ?_)
      · skip
        refine lv_iload_n hx hb dX8_book_24 rfl (lv_at hl 2 rfl) ?_
        refine lv_iconst (v := nI 0) hx hb dX8_book_25 (by rfl) ?_
        refine lv_iconst (v := nI 4) hx hb dX8_book_26 (by rfl) ?_
        refine zr_ci hP hS (va_runS (As := [.int w, .int (nI 0), .int (nI 4)]) (rest := []) ⟨hx, hb, hml, hown, hts⟩ (c_X8_isIn l D E w (nI 0) (nI 4) ) (va_cwS 3 hts gX8_book_X8_isIn rfl rfl rfl (by decide +kernel) ⟨Nat.le_of_ble_eq_true rfl, Nat.le_of_ble_eq_true rfl⟩) (zr_S hK (hP.sub (ws' := []) [] rfl)) rfl rfl hl.1 rfl (lv_room (Nat.le_of_ble_eq_true rfl)) dX8_book_27 ⟨Nat.zero_le _, Nat.zero_le _⟩) (fun r_5 H locs hw_6 hP hS => ?_)
        rcases hw_6 with ⟨rfl, hw_6⟩ | ⟨rfl, hw_6⟩
        · skip
          obtain ⟨u, hu, w_e⟩ := zn_in3 (n := 5) (by omega) (by omega) hw_6.1 hw_6.2
          have e2 : zi 5 w = true := w_e ▸ zi_t hu (by omega)
          have q2 : zq w = u := w_e ▸ zq_t (by omega)
          rw [w_e] at hl
          refine zr_ti (y := nI 1) rfl ?_
          refine lv_if_ne (tgt := 36) hx hb dX8_book_30 (by decide) (fun cn_7 => ?_) (fun cn_7 => ?_)
          · skip
            refine lv_aload_n hx hb dX8_book_36 rfl (lv_at hl 0 rfl) ?_
            refine va_get (D := D) (ci := 6) (v := .ref w0) (C := RX8) (T := TX8) (N := 15) hx hb hts (by decide +kernel) hown hK.1 hP 0 rfl rfl 0 (by decide) (hts (.fieldLink RX8 11 "HomeRoundsModel" "w" "[I") (by decide +kernel)) (fun _ h9 => h9) rfl dX8_book_37 ?_
            refine lv_iconst (v := nI 4) hx hb dX8_book_40 (by rfl) ?_
            refine va_iald hx hb hK.1 hP 1 0 rfl rfl (vp_in_nI (by omega) (by omega)) dX8_book_41 ?_
            refine zr_ti (y := nI bn) ((congrArg wv (nI_clamp (by omega))).trans (hzb.1)) ?_
            refine lv_bipush (v := nI 8) hx hb dX8_book_42 (by rfl) ?_
            refine lv_icmp_ne (tgt := 50) hx hb dX8_book_44 (by decide) (fun cn_8 => ?_) (fun cn_8 => ?_)
            · skip
              have cn_8 : ¬ (bn = 8) := fun hz => cn_8 ((nI_eq (a := bn) (b := 8) (by omega) (by omega)).mpr hz)
              have e3 : decide (bn < 8) = true := decide_eq_true (by omega)
              refine lv_aload_n hx hb dX8_book_50 rfl (lv_at hl 0 rfl) ?_
              refine va_get (D := D) (ci := 6) (v := .ref w0) (C := RX8) (T := TX8) (N := 15) hx hb hts (by decide +kernel) hown hK.1 hP 0 rfl rfl 0 (by decide) (hts (.fieldLink RX8 11 "HomeRoundsModel" "w" "[I") (by decide +kernel)) (fun _ h9 => h9) rfl dX8_book_51 ?_
              refine lv_bipush (v := nI 121) hx hb dX8_book_54 (by rfl) ?_
              refine lv_iconst (v := nI 2) hx hb dX8_book_56 (by rfl) ?_
              refine lv_aload_n hx hb dX8_book_57 rfl (lv_at hl 0 rfl) ?_
              refine va_get (D := D) (ci := 6) (v := .ref w0) (C := RX8) (T := TX8) (N := 15) hx hb hts (by decide +kernel) hown hK.1 hP 0 rfl rfl 0 (by decide) (hts (.fieldLink RX8 11 "HomeRoundsModel" "w" "[I") (by decide +kernel)) (fun _ h9 => h9) rfl dX8_book_58 ?_
              refine lv_iconst (v := nI 4) hx hb dX8_book_61 (by rfl) ?_
              refine va_iald hx hb hK.1 hP 1 0 rfl rfl (vp_in_nI (by omega) (by omega)) dX8_book_62 ?_
              refine zr_ti (y := nI bn) ((congrArg wv (nI_clamp (by omega))).trans (hzb.1)) ?_
              refine lv_imul hx hb dX8_book_63 ?_
              refine zr_ti (y := nI (2 * bn)) (pk_mul _ _) ?_
              refine lv_iadd hx hb dX8_book_64 ?_
              refine zr_ti (y := nI (121 + (2 * bn))) (nI_add _ _) ?_
              refine lv_iload_n hx hb dX8_book_65 rfl (lv_at hl 1 rfl) ?_
              refine va_iast hx hb hK.1 hP hD hS 1 0 rfl rfl (vp_in_nI (by omega) (by omega)) dX8_book_66 (fun H locs hP hD hS => ?_)
              have hP : va_P D vwCl [(m0, .inr (6, [.ref w0, .ref w1, .ref w2, .int ik, .ref w3, .int (nI tx), .int he, .int fa, .ref w4, .ref w5, .int (nI cl), .ref w6, .ref w7, .ref w8, .ref w9])), (w0, .inl (E 0, 137, .inl (upd wv (nI (121 + (2 * bn))).toNatClampNeg (nI t))))] H := hP
              have hD : va_D A [(m0, .inr (6, [.ref w0, .ref w1, .ref w2, .int ik, .ref w3, .int (nI tx), .int he, .int fa, .ref w4, .ref w5, .int (nI cl), .ref w6, .ref w7, .ref w8, .ref w9])), (w0, .inl (E 0, 137, .inl (upd wv (nI (121 + (2 * bn))).toNatClampNeg (nI t))))] := hD
              have hcz : (upd wv (nI (121 + (2 * bn))).toNatClampNeg (nI t)) = (upd wv (121 + (2 * bn)) (nI t)) := by rw [nI_clamp (n := 121 + (2 * bn)) (by omega)]
              rw [hcz] at hP hD
              refine lv_aload_n hx hb dX8_book_67 rfl (lv_at hl 0 rfl) ?_
              refine va_get (D := D) (ci := 6) (v := .ref w0) (C := RX8) (T := TX8) (N := 15) hx hb hts (by decide +kernel) hown hK.1 hP 0 rfl rfl 0 (by decide) (hts (.fieldLink RX8 11 "HomeRoundsModel" "w" "[I") (by decide +kernel)) (fun _ h9 => h9) rfl dX8_book_68 ?_
              refine lv_bipush (v := nI 121) hx hb dX8_book_71 (by rfl) ?_
              refine lv_iconst (v := nI 2) hx hb dX8_book_73 (by rfl) ?_
              refine lv_aload_n hx hb dX8_book_74 rfl (lv_at hl 0 rfl) ?_
              refine va_get (D := D) (ci := 6) (v := .ref w0) (C := RX8) (T := TX8) (N := 15) hx hb hts (by decide +kernel) hown hK.1 hP 0 rfl rfl 0 (by decide) (hts (.fieldLink RX8 11 "HomeRoundsModel" "w" "[I") (by decide +kernel)) (fun _ h9 => h9) rfl dX8_book_75 ?_
              refine lv_iconst (v := nI 4) hx hb dX8_book_78 (by rfl) ?_
              refine va_iald hx hb hK.1 hP 1 0 rfl rfl (vp_in_nI (by omega) (by omega)) dX8_book_79 ?_
              refine zr_ti (y := nI bn) ((congrArg (upd wv (121 + (2 * bn)) (nI t)) (nI_clamp (by omega))).trans (by rw [zn_un (by omega)]; exact hzb.1)) ?_
              refine lv_imul hx hb dX8_book_80 ?_
              refine zr_ti (y := nI (2 * bn)) (pk_mul _ _) ?_
              refine lv_iadd hx hb dX8_book_81 ?_
              refine zr_ti (y := nI (121 + (2 * bn))) (nI_add _ _) ?_
              refine lv_iconst (v := nI 1) hx hb dX8_book_82 (by rfl) ?_
              refine lv_iadd hx hb dX8_book_83 ?_
              refine zr_ti (y := nI ((121 + (2 * bn)) + 1)) (nI_add _ _) ?_
              refine lv_iload_n hx hb dX8_book_84 rfl (lv_at hl 2 rfl) ?_
              refine va_iast hx hb hK.1 hP hD hS 1 0 rfl rfl (vp_in_nI (by omega) (by omega)) dX8_book_85 (fun H locs hP hD hS => ?_)
              have hP : va_P D vwCl [(m0, .inr (6, [.ref w0, .ref w1, .ref w2, .int ik, .ref w3, .int (nI tx), .int he, .int fa, .ref w4, .ref w5, .int (nI cl), .ref w6, .ref w7, .ref w8, .ref w9])), (w0, .inl (E 0, 137, .inl (upd (upd wv (121 + (2 * bn)) (nI t)) (nI ((121 + (2 * bn)) + 1)).toNatClampNeg (nI u))))] H := hP
              have hD : va_D A [(m0, .inr (6, [.ref w0, .ref w1, .ref w2, .int ik, .ref w3, .int (nI tx), .int he, .int fa, .ref w4, .ref w5, .int (nI cl), .ref w6, .ref w7, .ref w8, .ref w9])), (w0, .inl (E 0, 137, .inl (upd (upd wv (121 + (2 * bn)) (nI t)) (nI ((121 + (2 * bn)) + 1)).toNatClampNeg (nI u))))] := hD
              have hcz : (upd (upd wv (121 + (2 * bn)) (nI t)) (nI ((121 + (2 * bn)) + 1)).toNatClampNeg (nI u)) = (upd (upd wv (121 + (2 * bn)) (nI t)) ((121 + (2 * bn)) + 1) (nI u)) := by rw [nI_clamp (n := (121 + (2 * bn)) + 1) (by omega)]
              rw [hcz] at hP hD
              refine lv_aload_n hx hb dX8_book_86 rfl (lv_at hl 0 rfl) ?_
              refine va_get (D := D) (ci := 6) (v := .ref w0) (C := RX8) (T := TX8) (N := 15) hx hb hts (by decide +kernel) hown hK.1 hP 0 rfl rfl 0 (by decide) (hts (.fieldLink RX8 11 "HomeRoundsModel" "w" "[I") (by decide +kernel)) (fun _ h9 => h9) rfl dX8_book_87 ?_
              refine lv_iconst (v := nI 4) hx hb dX8_book_90 (by rfl) ?_
              refine lv_dup2_11 hx hb dX8_book_91 rfl rfl ?_
              refine va_iald hx hb hK.1 hP 1 0 rfl rfl (vp_in_nI (by omega) (by omega)) dX8_book_92 ?_
              refine zr_ti (y := nI bn) ((congrArg (upd (upd wv (121 + (2 * bn)) (nI t)) ((121 + (2 * bn)) + 1) (nI u)) (nI_clamp (by omega))).trans (by rw [zn_un (by omega), zn_un (by omega)]; exact hzb.1)) ?_
              refine lv_iconst (v := nI 1) hx hb dX8_book_93 (by rfl) ?_
              refine lv_iadd hx hb dX8_book_94 ?_
              refine zr_ti (y := nI (bn + 1)) (nI_add _ _) ?_
              refine va_iast hx hb hK.1 hP hD hS 1 0 rfl rfl (vp_in_nI (by omega) (by omega)) dX8_book_95 (fun H locs hP hD hS => ?_)
              have hP : va_P D vwCl [(m0, .inr (6, [.ref w0, .ref w1, .ref w2, .int ik, .ref w3, .int (nI tx), .int he, .int fa, .ref w4, .ref w5, .int (nI cl), .ref w6, .ref w7, .ref w8, .ref w9])), (w0, .inl (E 0, 137, .inl (upd (upd (upd wv (121 + (2 * bn)) (nI t)) ((121 + (2 * bn)) + 1) (nI u)) (nI 4).toNatClampNeg (nI (bn + 1)))))] H := hP
              have hD : va_D A [(m0, .inr (6, [.ref w0, .ref w1, .ref w2, .int ik, .ref w3, .int (nI tx), .int he, .int fa, .ref w4, .ref w5, .int (nI cl), .ref w6, .ref w7, .ref w8, .ref w9])), (w0, .inl (E 0, 137, .inl (upd (upd (upd wv (121 + (2 * bn)) (nI t)) ((121 + (2 * bn)) + 1) (nI u)) (nI 4).toNatClampNeg (nI (bn + 1)))))] := hD
              have hcz : (upd (upd (upd wv (121 + (2 * bn)) (nI t)) ((121 + (2 * bn)) + 1) (nI u)) (nI 4).toNatClampNeg (nI (bn + 1))) = (upd (upd (upd wv (121 + (2 * bn)) (nI t)) ((121 + (2 * bn)) + 1) (nI u)) 4 (nI (bn + 1))) := by rw [nI_clamp (n := 4) (by omega)]
              rw [hcz] at hP hD
              refine lv_aload_n hx hb dX8_book_96 rfl (lv_at hl 0 rfl) ?_
              refine va_get (D := D) (ci := 6) (v := .ref w0) (C := RX8) (T := TX8) (N := 15) hx hb hts (by decide +kernel) hown hK.1 hP 0 rfl rfl 0 (by decide) (hts (.fieldLink RX8 11 "HomeRoundsModel" "w" "[I") (by decide +kernel)) (fun _ h9 => h9) rfl dX8_book_97 ?_
              refine lv_iconst (v := nI 4) hx hb dX8_book_100 (by rfl) ?_
              refine va_iald hx hb hK.1 hP 1 0 rfl rfl (vp_in_nI (by omega) (by omega)) dX8_book_101 ?_
              refine zr_ti (y := nI (bn + 1)) ((congrArg (upd (upd (upd wv (121 + (2 * bn)) (nI t)) ((121 + (2 * bn)) + 1) (nI u)) 4 (nI (bn + 1))) (nI_clamp (by omega))).trans (zn_ue)) ?_
              subst hQ; subst hAe
              exact W.iret (v := nI (bn + 1)) hx hb hr (fun tz htz hWz => ⟨⟨nI (bn + 1), (upd (upd (upd wv (121 + (2 * bn)) (nI t)) ((121 + (2 * bn)) + 1) (nI u)) 4 (nI (bn + 1))), rfl, ⟨by unfold zo_book; simp only [cond_true, cond_false, Bool.and_true, Bool.and_false, Bool.true_and, Bool.false_and, d1, e1, e2, e3, q1, q2], by unfold zc_book; simp only [cond_true, cond_false, Bool.and_true, Bool.and_false, Bool.true_and, Bool.false_and, d1, e1, e2, e3, q1, q2]; exact (zv_all_b1 hva (by omega))⟩, by rw [htz]; exact hP, hD⟩, hS.F htz⟩) hS.2.2 dX8_book_102
            · skip
              have cn_8 : bn = 8 := (nI_eq (a := bn) (b := 8) (by omega) (by omega)).mp cn_8
              have e3 : decide (bn < 8) = false := decide_eq_false (by omega)
              refine lv_bipush (v := (-4)) hx hb dX8_book_47 (by rfl) ?_
              subst hQ; subst hAe
              exact W.iret (v := (-4)) hx hb hr (fun tz htz hWz => ⟨⟨(-4), wv, rfl, ⟨by unfold zo_book; simp only [cond_true, cond_false, Bool.and_true, Bool.and_false, Bool.true_and, Bool.false_and, d1, e1, e2, e3], by unfold zc_book; simp only [cond_true, cond_false, Bool.and_true, Bool.and_false, Bool.true_and, Bool.false_and, d1, e1, e2, e3]; exact hva⟩, by rw [htz]; exact hP, hD⟩, hS.F htz⟩) hS.2.2 dX8_book_49
          · skip
            exact absurd cn_7 (by decide)
        · skip
          have e2 : zi 5 w = false := zi_f (zn_out3 (n := 5) (by omega) hw_6)
          refine zr_ti (y := nI 0) rfl ?_
          refine lv_if_ne (tgt := 36) hx hb dX8_book_30 (by decide) (fun cn_9 => ?_) (fun cn_9 => ?_)
          · skip
            exact absurd cn_9 (by decide)
          · skip
            refine lv_bipush (v := (-2)) hx hb dX8_book_33 (by rfl) ?_
            subst hQ; subst hAe
            exact W.iret (v := (-2)) hx hb hr (fun tz htz hWz => ⟨⟨(-2), wv, rfl, ⟨by unfold zo_book; simp only [cond_true, cond_false, Bool.and_true, Bool.and_false, Bool.true_and, Bool.false_and, d1, e1, e2], by unfold zc_book; simp only [cond_true, cond_false, Bool.and_true, Bool.and_false, Bool.true_and, Bool.false_and, d1, e1, e2]; exact hva⟩, by rw [htz]; exact hP, hD⟩, hS.F htz⟩) hS.2.2 dX8_book_35
      · skip
        exact absurd cn_4 (by decide)
    · skip
      have e1 : zi N v = false := zi_f hw_3
      refine zr_ti (y := nI 0) rfl ?_
      refine lv_if_ne (tgt := 24) hx hb dX8_book_19 (by decide) (fun cn_10 => ?_) (fun cn_10 => ?_)
      · skip
        exact absurd cn_10 (by decide)
      · skip
        refine lv_iconst (v := (-1)) hx hb dX8_book_22 (by rfl) ?_
        subst hQ; subst hAe
        exact W.iret (v := (-1)) hx hb hr (fun tz htz hWz => ⟨⟨(-1), wv, rfl, ⟨by unfold zo_book; simp only [cond_true, cond_false, Bool.and_true, Bool.and_false, Bool.true_and, Bool.false_and, d1, e1], by unfold zc_book; simp only [cond_true, cond_false, Bool.and_true, Bool.and_false, Bool.true_and, Bool.false_and, d1, e1]; exact hva⟩, by rw [htz]; exact hP, hD⟩, hS.F htz⟩) hS.2.2 dX8_book_23
  · skip
    have d1 : decide (v = -1) = true := decide_eq_true cn_1
    have e1 : zi N v = false := zi_m1 (by omega) cn_1
    refine lv_aload_n hx hb dX8_book_5 rfl (lv_at hl 0 rfl) ?_
    refine va_get (D := D) (ci := 6) (v := .ref w0) (C := RX8) (T := TX8) (N := 15) hx hb hts (by decide +kernel) hown hK.1 hP 0 rfl rfl 0 (by decide) (hts (.fieldLink RX8 11 "HomeRoundsModel" "w" "[I") (by decide +kernel)) (fun _ h9 => h9) rfl dX8_book_6 ?_
    refine lv_iconst (v := nI 4) hx hb dX8_book_9 (by rfl) ?_
    refine lv_iconst (v := nI 0) hx hb dX8_book_10 (by rfl) ?_
    refine va_iast hx hb hK.1 hP hD hS 1 0 rfl rfl (vp_in_nI (by omega) (by omega)) dX8_book_11 (fun H locs hP hD hS => ?_)
    have hP : va_P D vwCl [(m0, .inr (6, [.ref w0, .ref w1, .ref w2, .int ik, .ref w3, .int (nI tx), .int he, .int fa, .ref w4, .ref w5, .int (nI cl), .ref w6, .ref w7, .ref w8, .ref w9])), (w0, .inl (E 0, 137, .inl (upd wv (nI 4).toNatClampNeg (nI 0))))] H := hP
    have hD : va_D A [(m0, .inr (6, [.ref w0, .ref w1, .ref w2, .int ik, .ref w3, .int (nI tx), .int he, .int fa, .ref w4, .ref w5, .int (nI cl), .ref w6, .ref w7, .ref w8, .ref w9])), (w0, .inl (E 0, 137, .inl (upd wv (nI 4).toNatClampNeg (nI 0))))] := hD
    have hcz : (upd wv (nI 4).toNatClampNeg (nI 0)) = (upd wv 4 (nI 0)) := by rw [nI_clamp (n := 4) (by omega)]
    rw [hcz] at hP hD
    refine lv_iconst (v := nI 0) hx hb dX8_book_12 (by rfl) ?_
    subst hQ; subst hAe
    exact W.iret (v := nI 0) hx hb hr (fun tz htz hWz => ⟨⟨nI 0, (upd wv 4 (nI 0)), rfl, ⟨by unfold zo_book; simp only [cond_true, cond_false, Bool.and_true, Bool.and_false, Bool.true_and, Bool.false_and, d1, e1], by unfold zc_book; simp only [cond_true, cond_false, Bool.and_true, Bool.and_false, Bool.true_and, Bool.false_and, d1, e1]; exact (zv_all_b0 hva)⟩, by rw [htz]; exact hP, hD⟩, hS.F htz⟩) hS.2.2 dX8_book_13

set_option maxHeartbeats 4000000 in
set_option maxRecDepth 100000 in
theorem c_X8_looked (l : Launch) (D : va_G) (E : Nat → ClassId) (m0 : Nat) (w0 : Nat) (w1 : Nat) (w2 : Nat) (w3 : Nat) (w4 : Nat) (w5 : Nat) (w6 : Nat) (w7 : Nat) (w8 : Nat) (w9 : Nat) (ik : Int32) (tx : Nat) (he : Int32) (fa : Int32) (cl : Nat) (wv : Nat → Int32) (N : Nat) (G : Nat → Nat → Nat) (P : Nat → Nat → Nat) (X : Nat → Nat) (Y : Nat → Nat) (B : Nat → Nat → Nat) (R : Nat → Nat) (kd : Nat) (sn : Nat) (sT : Nat → Nat) (sR : Nat → Nat) (sH : Nat → Nat) (en : Nat) (eW : Nat → Nat) (eN : Nat → Nat) (bn : Nat) (bT : Nat → Nat) (bN : Nat → Nat) (hva : zv_all N G P X Y B R kd sn sT sR sH en eW eN bn bT bN wv) (hzs : zs_all N kd sn sT sR sH en eW eN bn bT bN) : Met l yX8_looked wsX8_looked ({ frames := 3, cells := 0, slots := 0, locals := 68 }) (zr_P D E [.ref m0] [(m0, .inr (6, [.ref w0, .ref w1, .ref w2, .int ik, .ref w3, .int (nI tx), .int he, .int fa, .ref w4, .ref w5, .int (nI cl), .ref w6, .ref w7, .ref w8, .ref w9])), (w0, .inl (E 0, 137, .inl wv))]) (zr_Qi (fun zv => zv = zm_look N P bT bN bn 0)) 0 0 (fun _ => False) := by
  refine Met.ofW (cc := cX8_looked) (maxL := 2) (ret := (some .int)) (by decide) rfl ?_
  intro p e s m args below meth c s₁ Bz hml hv
  obtain ⟨rfl, hP, hK⟩ := hv
  have hx := Bz.exec
  have hb := Bz.bytes
  have hr := Bz.returns
  have hts := atoms_spec (ws := wsX8_looked) Bz.pre
  have hown : s.vm.findClass RX8 = some m.cls := findClass_of_methodNamed Bz.named
  have hlocks := Bz.notSynchronized
  have hP : va_P D vwCl [(m0, .inr (6, [.ref w0, .ref w1, .ref w2, .int ik, .ref w3, .int (nI tx), .int he, .int fa, .ref w4, .ref w5, .int (nI cl), .ref w6, .ref w7, .ref w8, .ref w9])), (w0, .inl (E 0, 137, .inl wv))] s.heap := hP
  have hS : va_S (fun _ : Nat => False) s.heap s.heap [] := va_S.rf
  have hl := lv_entry ([.ref m0]) (n := 2) (Nat.le_of_ble_eq_true rfl)
  rw [lg_entry_eq]
  generalize (lg_sl ([.ref m0]) ++ List.replicate (2 - (lg_sl ([.ref m0])).length) Slot.unset).toArray = ls at hl ⊢
  have hl : lv_has ls 2 [(0, .ref m0)] := hl
  refine zr_nQ (fun Q hQ => ?_)
  obtain ⟨hvg, hxy, hvb, hvr, hkv, hzc, hze, hzb, hn6, hn8, hm8⟩ := id hva
  obtain ⟨hkd, hse, hev, hbo⟩ := id hzs
  have hok := hvg.1
  have hN := hok.1
  have hvn := hvg.2.1
  have hgr := zm_gr_of hxy
  have hs0 := hse.1
  have hs1 := hev.1
  have hs2 := hbo.1
  refine lv_iconst (v := nI 0) hx hb dX8_looked_0 (by rfl) ?_
  refine lv_istore_n (lv' := [(1, .int (nI 0)), (0, .ref m0)]) hx hb dX8_looked_1 rfl hl (by decide) rfl (fun ls hl => ?_)
  suffices KL2 : ∀ (kz : Nat) (i : Nat) (H : Heap) (locs : List Loc) (ls : Array Slot), (bn - i) < kz → (zm_look N P bT bN bn 0 = zm_look N P bT bN (bn - i) i) → (i ≤ bn) → va_P D vwCl [(m0, .inr (6, [.ref w0, .ref w1, .ref w2, .int ik, .ref w3, .int (nI tx), .int he, .int fa, .ref w4, .ref w5, .int (nI cl), .ref w6, .ref w7, .ref w8, .ref w9])), (w0, .inl (E 0, 137, .inl wv))] H → va_S (fun _ : Nat => False) s.heap H locs → lv_has ls 2 [(0, .ref m0), (1, .int (nI i))] → W p l e (headSpec wsX8_looked ({ frames := 3, cells := 0, slots := 0, locals := 68 })).room s m ([.ref m0] : List Value).toArray below meth c H locs 0 0 Q (F0 m 2 ls []) from
    KL2 _ 0 _ _ ls (Nat.lt_succ_self _) (rfl) (by omega) hP hS (lv_sub hl [1, 0] rfl)
  clear hP hS hl
  intro kz
  induction kz with
  | zero => intro i H locs ls hkz; exact absurd hkz (Nat.not_lt_zero _)
  | succ kz ih2 =>
    intro i H locs ls hkz hI hi hP hS hl
    refine lv_iload_n hx hb dX8_looked_2 rfl (lv_at hl 1 rfl) ?_
    refine lv_aload_n hx hb dX8_looked_3 rfl (lv_at hl 0 rfl) ?_
    refine va_get (D := D) (ci := 6) (v := .ref w0) (C := RX8) (T := TX8) (N := 15) hx hb hts (by decide +kernel) hown hK.1 hP 0 rfl rfl 0 (by decide) (hts (.fieldLink RX8 11 "HomeRoundsModel" "w" "[I") (by decide +kernel)) (fun _ h9 => h9) rfl dX8_looked_4 ?_
    refine lv_iconst (v := nI 4) hx hb dX8_looked_7 (by rfl) ?_
    refine va_iald hx hb hK.1 hP 1 0 rfl rfl (vp_in_nI (by omega) (by omega)) dX8_looked_8 ?_
    refine zr_ti (y := nI bn) ((congrArg wv (nI_clamp (by omega))).trans (hzb.1)) ?_
    refine lv_icmp_ge (tgt := 51) hx hb dX8_looked_9 (by decide) (fun cn_1 => ?_) (fun cn_1 => ?_)
    · skip
      have cn_1 : bn ≤ i := (nI_leI (a := bn) (b := i) (by omega) (by omega)).mp cn_1
      have hie : i = bn := by omega
      refine lv_bipush (v := (-5)) hx hb dX8_looked_51 (by rfl) ?_
      subst hQ
      exact W.iret (v := (-5)) hx hb hr (fun tz htz hWz => ⟨⟨(-5), (), rfl, by rw [hI, hie, Nat.sub_self]; rfl, trivial⟩, hS.F htz⟩) hS.2.2 dX8_looked_53
    · skip
      have cn_1 : ¬ (bn ≤ i) := fun hz => cn_1 ((nI_leI (a := bn) (b := i) (by omega) (by omega)).mpr hz)
      have hin : i < bn := by omega
      obtain ⟨hb1, hb2⟩ := hbo.2 i hin
      obtain ⟨hc1, hc2⟩ := hzb.2 i hin
      have hbl := zm_br_le (P := P) (t := bT i) hN
      refine lv_aload_n hx hb dX8_looked_12 rfl (lv_at hl 0 rfl) ?_
      refine lv_aload_n hx hb dX8_looked_13 rfl (lv_at hl 0 rfl) ?_
      refine va_get (D := D) (ci := 6) (v := .ref w0) (C := RX8) (T := TX8) (N := 15) hx hb hts (by decide +kernel) hown hK.1 hP 0 rfl rfl 0 (by decide) (hts (.fieldLink RX8 11 "HomeRoundsModel" "w" "[I") (by decide +kernel)) (fun _ h9 => h9) rfl dX8_looked_14 ?_
      refine lv_bipush (v := nI 121) hx hb dX8_looked_17 (by rfl) ?_
      refine lv_iconst (v := nI 2) hx hb dX8_looked_19 (by rfl) ?_
      refine lv_iload_n hx hb dX8_looked_20 rfl (lv_at hl 1 rfl) ?_
      refine lv_imul hx hb dX8_looked_21 ?_
      refine zr_ti (y := nI (2 * i)) (pk_mul _ _) ?_
      refine lv_iadd hx hb dX8_looked_22 ?_
      refine zr_ti (y := nI (121 + (2 * i))) (nI_add _ _) ?_
      refine va_iald hx hb hK.1 hP 1 0 rfl rfl (vp_in_nI (by omega) (by omega)) dX8_looked_23 ?_
      refine zr_ti (y := nI (bT i)) ((congrArg wv (nI_clamp (by omega))).trans (hc1)) ?_
      refine zr_ci hP hS (va_runV (As := [.int (nI (bT i))]) (rest := []) ⟨hx, hb, hml, hown, hts⟩ (c_X8_breaksOf l D E m0 w0 w1 w2 w3 w4 w5 w6 w7 w8 w9 ik tx he fa cl wv N G P (bT i) (hvg) (by omega)) (cwV 1 hts gX8_looked_X8_breaksOf rfl rfl rfl (by decide +kernel) ⟨Nat.le_of_ble_eq_true rfl, Nat.le_of_ble_eq_true rfl⟩) (zr_V hK (hP.sub (ws' := [(m0, .inr (6, [.ref w0, .ref w1, .ref w2, .int ik, .ref w3, .int (nI tx), .int he, .int fa, .ref w4, .ref w5, .int (nI cl), .ref w6, .ref w7, .ref w8, .ref w9])), (w0, .inl (E 0, 137, .inl wv))]) [0, 1] rfl) (ci := 6) (q0 := 0) rfl rfl) rfl rfl hl.1 rfl (lv_room (Nat.le_of_ble_eq_true rfl)) dX8_looked_24 ⟨Nat.zero_le _, Nat.zero_le _⟩) (fun r_2 H locs hw_3 hP hS => ?_)
      subst hw_3
      refine lv_aload_n hx hb dX8_looked_27 rfl (lv_at hl 0 rfl) ?_
      refine va_get (D := D) (ci := 6) (v := .ref w0) (C := RX8) (T := TX8) (N := 15) hx hb hts (by decide +kernel) hown hK.1 hP 0 rfl rfl 0 (by decide) (hts (.fieldLink RX8 11 "HomeRoundsModel" "w" "[I") (by decide +kernel)) (fun _ h9 => h9) rfl dX8_looked_28 ?_
      refine lv_bipush (v := nI 121) hx hb dX8_looked_31 (by rfl) ?_
      refine lv_iconst (v := nI 2) hx hb dX8_looked_33 (by rfl) ?_
      refine lv_iload_n hx hb dX8_looked_34 rfl (lv_at hl 1 rfl) ?_
      refine lv_imul hx hb dX8_looked_35 ?_
      refine zr_ti (y := nI (2 * i)) (pk_mul _ _) ?_
      refine lv_iadd hx hb dX8_looked_36 ?_
      refine zr_ti (y := nI (121 + (2 * i))) (nI_add _ _) ?_
      refine lv_iconst (v := nI 1) hx hb dX8_looked_37 (by rfl) ?_
      refine lv_iadd hx hb dX8_looked_38 ?_
      refine zr_ti (y := nI ((121 + (2 * i)) + 1)) (nI_add _ _) ?_
      refine va_iald hx hb hK.1 hP 1 0 rfl rfl (vp_in_nI (by omega) (by omega)) dX8_looked_39 ?_
      refine zr_ti (y := nI (bN i)) ((congrArg wv (nI_clamp (by omega))).trans (hc2)) ?_
      refine lv_icmp_eq (tgt := 45) hx hb dX8_looked_40 (by decide) (fun cn_4 => ?_) (fun cn_4 => ?_)
      · skip
        have cn_4 : zm_br N P (bT i) = bN i := (nI_eq (a := zm_br N P (bT i)) (b := bN i) (by omega) (by omega)).mp cn_4
        have hbr := cn_4
        refine lv_iinc (v := nI (i + 1)) (lv' := [(1, .int (nI (i + 1))), (0, .ref m0)]) hx hb dX8_looked_45 hl (k := 1) rfl (nI_add _ _) (by decide) rfl (fun ls hl => ?_)
        refine lv_goto (tgt := 2) hx hb dX8_looked_48 (by decide) ?_
        have hl : lv_has ls 2 [(0, .ref m0), (1, .int (nI (i + 1)))] := lv_sub hl [1, 0] rfl
        exact ih2 (i + 1) H locs ls (by omega) (by rw [hI, zm_look_s hin, if_pos hbr]) (by omega) hP hS hl
      · skip
        have cn_4 : ¬ (zm_br N P (bT i) = bN i) := fun hz => cn_4 ((nI_eq (a := zm_br N P (bT i)) (b := bN i) (by omega) (by omega)).mpr hz)
        have hbr := cn_4
        refine lv_iload_n hx hb dX8_looked_43 rfl (lv_at hl 1 rfl) ?_
        subst hQ
        exact W.iret (v := nI i) hx hb hr (fun tz htz hWz => ⟨⟨nI i, (), rfl, by rw [hI, zm_look_s hin, if_neg hbr], trivial⟩, hS.F htz⟩) hS.2.2 dX8_looked_44

