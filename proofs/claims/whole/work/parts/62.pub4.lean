set_option maxHeartbeats 4000000 in
set_option maxRecDepth 100000 in
theorem c_X7_step (l : Launch) (D : va_G) (E : Nat → ClassId) (x0 : Nat) (xk : Nat) (xt : Nat) (xx : Nat) (xp : Nat) (ik : Int32) (g0 : Nat) (g1 : Nat) (g2 : Nat) (g3 : Nat) (g4 : Nat) (g5 : Nat) (g6 : Nat) (g7 : Nat) (kd : Nat) (h0 : Nat) (h1 : Nat) (h2 : Nat) (h3 : Nat) (h4 : Nat) (h5 : Nat) (h6 : Nat) (N : Nat) (hm : Nat → Int32) (aw : Nat → Int32) (rv : Nat → Int32) (sd : Nat → Int32) (gm : Nat → Int32) (ca : Nat → Int32) (G : Nat → Nat → Nat) (P : Nat → Nat → Nat) (xs : Nat → Int32) (ys : Nat → Int32) (X : Nat → Nat) (Y : Nat → Nat) (bz : Nat → Int32) (B : Nat → Nat → Nat) (rt : Nat → Int32) (R : Nat → Nat) (v : Int32) (w : Int32) (hpl : zm_pl N G P hm aw rv sd gm) (hgr : zm_gr X Y xs ys) (hbz : zm_bz B bz) (hrt : zm_rt R rt) : Met l yX7_step wsX7_step ({ frames := 7, cells := 0, slots := 0, locals := 168 }) (zw_P D E [.ref x0, .int v, .int w] [(x0, .inr (5, [.ref g0, .ref xk, .ref xt, .ref xx, .ref xp, .int ik])), (g0, .inr (2, [.ref h0, .ref g1, .ref g2, .ref g3, .ref g4, .int (nI kd), .ref g5, .ref g6, .ref g7])), (h0, .inr (0, [.int (nI N), .ref h1, .ref h2, .ref h3, .ref h4, .ref h5, .ref h6])), (h1, .inl (E 0, 15, .inl hm)), (h2, .inl (E 0, 15, .inl aw)), (h3, .inl (E 0, 30, .inl rv)), (h4, .inl (E 0, 30, .inl sd)), (h5, .inl (E 0, 30, .inl gm)), (h6, .inl (E 0, 36, .inl ca)), (g1, .inl (E 0, 6, .inl xs)), (g2, .inl (E 0, 6, .inl ys)), (g3, .inl (E 1, 30, .inl bz)), (g4, .inl (E 0, 4, .inl rt))]) (zw_Qi D [(x0, .inr (5, [.ref g0, .ref xk, .ref xt, .ref xx, .ref xp, .int ik])), (g0, .inr (2, [.ref h0, .ref g1, .ref g2, .ref g3, .ref g4, .int (nI kd), .ref g5, .ref g6, .ref g7])), (h0, .inr (0, [.int (nI N), .ref h1, .ref h2, .ref h3, .ref h4, .ref h5, .ref h6])), (h1, .inl (E 0, 15, .inl hm)), (h2, .inl (E 0, 15, .inl aw)), (h3, .inl (E 0, 30, .inl rv)), (h4, .inl (E 0, 30, .inl sd)), (h5, .inl (E 0, 30, .inl gm)), (h6, .inl (E 0, 36, .inl ca)), (g1, .inl (E 0, 6, .inl xs)), (g2, .inl (E 0, 6, .inl ys)), (g3, .inl (E 1, 30, .inl bz)), (g4, .inl (E 0, 4, .inl rt))] (fun zv (u : (Nat → Int32) × (Nat → Int32) × (Nat → Int32) × (Nat → Int32) × (Nat → Int32) × (Nat → Int32)) => zv = cond (zi 3 v && zi 51 w) (nI (zm_steps (zm_deed (zq v)) R B X Y N (zq w) G P).1) (-2) ∧ zm_pl N (cond (zi 3 v && zi 51 w) (zm_steps (zm_deed (zq v)) R B X Y N (zq w) G P).2.1 G) (cond (zi 3 v && zi 51 w) (zm_steps (zm_deed (zq v)) R B X Y N (zq w) G P).2.2 P) u.1 u.2.1 u.2.2.1 u.2.2.2.1 u.2.2.2.2.1) (fun (u : (Nat → Int32) × (Nat → Int32) × (Nat → Int32) × (Nat → Int32) × (Nat → Int32) × (Nat → Int32)) => [(x0, .inr (5, [.ref g0, .ref xk, .ref xt, .ref xx, .ref xp, .int ik])), (g0, .inr (2, [.ref h0, .ref g1, .ref g2, .ref g3, .ref g4, .int (nI kd), .ref g5, .ref g6, .ref g7])), (h0, .inr (0, [.int (nI N), .ref h1, .ref h2, .ref h3, .ref h4, .ref h5, .ref h6])), (h1, .inl (E 0, 15, .inl u.1)), (h2, .inl (E 0, 15, .inl u.2.1)), (h3, .inl (E 0, 30, .inl u.2.2.1)), (h4, .inl (E 0, 30, .inl u.2.2.2.1)), (h5, .inl (E 0, 30, .inl u.2.2.2.2.1)), (h6, .inl (E 0, 36, .inl u.2.2.2.2.2)), (g1, .inl (E 0, 6, .inl xs)), (g2, .inl (E 0, 6, .inl ys)), (g3, .inl (E 1, 30, .inl bz)), (g4, .inl (E 0, 4, .inl rt))])) 0 0 (zw_A [(x0, .inr (5, [.ref g0, .ref xk, .ref xt, .ref xx, .ref xp, .int ik])), (g0, .inr (2, [.ref h0, .ref g1, .ref g2, .ref g3, .ref g4, .int (nI kd), .ref g5, .ref g6, .ref g7])), (h0, .inr (0, [.int (nI N), .ref h1, .ref h2, .ref h3, .ref h4, .ref h5, .ref h6])), (h1, .inl (E 0, 15, .inl hm)), (h2, .inl (E 0, 15, .inl aw)), (h3, .inl (E 0, 30, .inl rv)), (h4, .inl (E 0, 30, .inl sd)), (h5, .inl (E 0, 30, .inl gm)), (h6, .inl (E 0, 36, .inl ca)), (g1, .inl (E 0, 6, .inl xs)), (g2, .inl (E 0, 6, .inl ys)), (g3, .inl (E 1, 30, .inl bz)), (g4, .inl (E 0, 4, .inl rt))]) := by
  refine Met.ofW (cc := cX7_step) (maxL := 5) (ret := (some .int)) (by decide) rfl ?_
  intro p e s m args below meth c s₁ Bz hml hv
  obtain ⟨rfl, hP, hK, hD0⟩ := hv
  have hx := Bz.exec
  have hb := Bz.bytes
  have hr := Bz.returns
  have hts := atoms_spec (ws := wsX7_step) Bz.pre
  have hown : s.vm.findClass RX7 = some m.cls := findClass_of_methodNamed Bz.named
  have hlocks := Bz.notSynchronized
  have hP : va_P D vwCl [(x0, .inr (5, [.ref g0, .ref xk, .ref xt, .ref xx, .ref xp, .int ik])), (g0, .inr (2, [.ref h0, .ref g1, .ref g2, .ref g3, .ref g4, .int (nI kd), .ref g5, .ref g6, .ref g7])), (h0, .inr (0, [.int (nI N), .ref h1, .ref h2, .ref h3, .ref h4, .ref h5, .ref h6])), (h1, .inl (E 0, 15, .inl hm)), (h2, .inl (E 0, 15, .inl aw)), (h3, .inl (E 0, 30, .inl rv)), (h4, .inl (E 0, 30, .inl sd)), (h5, .inl (E 0, 30, .inl gm)), (h6, .inl (E 0, 36, .inl ca)), (g1, .inl (E 0, 6, .inl xs)), (g2, .inl (E 0, 6, .inl ys)), (g3, .inl (E 1, 30, .inl bz)), (g4, .inl (E 0, 4, .inl rt))] s.heap := hP
  obtain ⟨A, hAe⟩ : ∃ A : Nat → Prop, A = zw_A [(x0, .inr (5, [.ref g0, .ref xk, .ref xt, .ref xx, .ref xp, .int ik])), (g0, .inr (2, [.ref h0, .ref g1, .ref g2, .ref g3, .ref g4, .int (nI kd), .ref g5, .ref g6, .ref g7])), (h0, .inr (0, [.int (nI N), .ref h1, .ref h2, .ref h3, .ref h4, .ref h5, .ref h6])), (h1, .inl (E 0, 15, .inl hm)), (h2, .inl (E 0, 15, .inl aw)), (h3, .inl (E 0, 30, .inl rv)), (h4, .inl (E 0, 30, .inl sd)), (h5, .inl (E 0, 30, .inl gm)), (h6, .inl (E 0, 36, .inl ca)), (g1, .inl (E 0, 6, .inl xs)), (g2, .inl (E 0, 6, .inl ys)), (g3, .inl (E 1, 30, .inl bz)), (g4, .inl (E 0, 4, .inl rt))] := ⟨_, rfl⟩
  have hD : va_D A [(x0, .inr (5, [.ref g0, .ref xk, .ref xt, .ref xx, .ref xp, .int ik])), (g0, .inr (2, [.ref h0, .ref g1, .ref g2, .ref g3, .ref g4, .int (nI kd), .ref g5, .ref g6, .ref g7])), (h0, .inr (0, [.int (nI N), .ref h1, .ref h2, .ref h3, .ref h4, .ref h5, .ref h6])), (h1, .inl (E 0, 15, .inl hm)), (h2, .inl (E 0, 15, .inl aw)), (h3, .inl (E 0, 30, .inl rv)), (h4, .inl (E 0, 30, .inl sd)), (h5, .inl (E 0, 30, .inl gm)), (h6, .inl (E 0, 36, .inl ca)), (g1, .inl (E 0, 6, .inl xs)), (g2, .inl (E 0, 6, .inl ys)), (g3, .inl (E 1, 30, .inl bz)), (g4, .inl (E 0, 4, .inl rt))] := hAe ▸ zw_own hD0
  have hS : va_S A s.heap s.heap [] := va_S.rf
  have hl := lv_entry ([.ref x0, .int v, .int w]) (n := 5) (Nat.le_of_ble_eq_true rfl)
  rw [lg_entry_eq]
  generalize (lg_sl ([.ref x0, .int v, .int w]) ++ List.replicate (5 - (lg_sl ([.ref x0, .int v, .int w])).length) Slot.unset).toArray = ls at hl ⊢
  have hl : lv_has ls 5 [(0, .ref x0), (1, .int v), (2, .int w)] := hl
  refine zr_nQ (fun Q hQ => ?_)
  have hN := hpl.1.1
  refine lv_iload_n hx hb dX7_step_0 rfl (lv_at hl 1 rfl) ?_
  refine lv_if_lt (tgt := 19) hx hb dX7_step_1 (by decide) (fun cn_1 => ?_) (fun cn_1 => ?_)
  · skip
    have e1 : zi 3 v = false := zi_f (zn_lo (n := 3) cn_1 (by omega))
    refine lv_bipush (v := (-2)) hx hb dX7_step_19 (by rfl) ?_
    subst hQ; subst hAe
    exact W.iret (v := (-2)) hx hb hr (fun tz htz hWz => ⟨⟨(-2), (hm, aw, rv, sd, gm, ca), rfl, ⟨by first | (simp only [cond_true, cond_false, Bool.and_true, Bool.and_false, Bool.true_and, Bool.false_and, e1]; done) | (simp only [cond_true, cond_false, Bool.and_true, Bool.and_false, Bool.true_and, Bool.false_and, e1, e2]; done), by first | (simp only [cond_true, cond_false, Bool.and_true, Bool.and_false, Bool.true_and, Bool.false_and, e1]; exact hpl; done) | (simp only [cond_true, cond_false, Bool.and_true, Bool.and_false, Bool.true_and, Bool.false_and, e1, e2]; exact hpl; done)⟩, by rw [htz]; exact hP, hD⟩, hS.F htz⟩) hS.2.2 dX7_step_21
  · skip
    have gz1 := cn_1
    refine lv_iload_n hx hb dX7_step_4 rfl (lv_at hl 1 rfl) ?_
    refine lv_iconst (v := nI 3) hx hb dX7_step_5 (by rfl) ?_
    refine lv_icmp_ge (tgt := 19) hx hb dX7_step_6 (by decide) (fun cn_2 => ?_) (fun cn_2 => ?_)
    · skip
      have e1 : zi 3 v = false := zi_f (zn_hi (n := 3) cn_2 (by omega))
      refine lv_bipush (v := (-2)) hx hb dX7_step_19 (by rfl) ?_
      subst hQ; subst hAe
      exact W.iret (v := (-2)) hx hb hr (fun tz htz hWz => ⟨⟨(-2), (hm, aw, rv, sd, gm, ca), rfl, ⟨by first | (simp only [cond_true, cond_false, Bool.and_true, Bool.and_false, Bool.true_and, Bool.false_and, e1]; done) | (simp only [cond_true, cond_false, Bool.and_true, Bool.and_false, Bool.true_and, Bool.false_and, e1, e2]; done), by first | (simp only [cond_true, cond_false, Bool.and_true, Bool.and_false, Bool.true_and, Bool.false_and, e1]; exact hpl; done) | (simp only [cond_true, cond_false, Bool.and_true, Bool.and_false, Bool.true_and, Bool.false_and, e1, e2]; exact hpl; done)⟩, by rw [htz]; exact hP, hD⟩, hS.F htz⟩) hS.2.2 dX7_step_21
    · skip
      obtain ⟨t, ht, v_e⟩ := zn_in (n := 3) gz1 cn_2 (by omega)
      have e1 : zi 3 v = true := v_e ▸ zi_t ht (by omega)
      have q1 : zq v = t := v_e ▸ zq_t (by omega)
      rw [v_e] at hl
      refine lv_iload_n hx hb dX7_step_9 rfl (lv_at hl 2 rfl) ?_
      refine lv_if_lt (tgt := 19) hx hb dX7_step_10 (by decide) (fun cn_3 => ?_) (fun cn_3 => ?_)
      · skip
        have e2 : zi 51 w = false := zi_f (zn_lo (n := 51) cn_3 (by omega))
        refine lv_bipush (v := (-2)) hx hb dX7_step_19 (by rfl) ?_
        subst hQ; subst hAe
        exact W.iret (v := (-2)) hx hb hr (fun tz htz hWz => ⟨⟨(-2), (hm, aw, rv, sd, gm, ca), rfl, ⟨by first | (simp only [cond_true, cond_false, Bool.and_true, Bool.and_false, Bool.true_and, Bool.false_and, e1]; done) | (simp only [cond_true, cond_false, Bool.and_true, Bool.and_false, Bool.true_and, Bool.false_and, e1, e2]; done), by first | (simp only [cond_true, cond_false, Bool.and_true, Bool.and_false, Bool.true_and, Bool.false_and, e1]; exact hpl; done) | (simp only [cond_true, cond_false, Bool.and_true, Bool.and_false, Bool.true_and, Bool.false_and, e1, e2]; exact hpl; done)⟩, by rw [htz]; exact hP, hD⟩, hS.F htz⟩) hS.2.2 dX7_step_21
      · skip
        have gz2 := cn_3
        refine lv_iload_n hx hb dX7_step_13 rfl (lv_at hl 2 rfl) ?_
        refine lv_bipush (v := nI 50) hx hb dX7_step_14 (by rfl) ?_
        refine lv_icmp_le (tgt := 22) hx hb dX7_step_16 (by decide) (fun cn_4 => ?_) (fun cn_4 => ?_)
        · skip
          obtain ⟨u, hu, w_e⟩ := zn_in (n := 51) gz2 (fun q => absurd (zn_lt_of (n := 50) (by omega) q) (Int32.not_lt.mpr cn_4)) (by omega)
          have e2 : zi 51 w = true := w_e ▸ zi_t hu (by omega)
          have q2 : zq w = u := w_e ▸ zq_t (by omega)
          rw [w_e] at hl
          refine lv_iload_n hx hb dX7_step_22 rfl (lv_at hl 1 rfl) ?_
          refine lv_if_ne (tgt := 30) hx hb dX7_step_23 (by decide) (fun cn_5 => ?_) (fun cn_5 => ?_)
          · skip
            have cn_5 : ¬ (t = 0) := fun hz => cn_5 ((nI_eq (a := t) (b := 0) (by omega) (by omega)).mpr hz)
            refine lv_iload_n hx hb dX7_step_30 rfl (lv_at hl 1 rfl) ?_
            refine lv_iconst (v := nI 1) hx hb dX7_step_31 (by rfl) ?_
            refine lv_icmp_ne (tgt := 39) hx hb dX7_step_32 (by decide) (fun cn_6 => ?_) (fun cn_6 => ?_)
            · skip
              have cn_6 : ¬ (t = 1) := fun hz => cn_6 ((nI_eq (a := t) (b := 1) (by omega) (by omega)).mpr hz)
              have hdd : zm_deed t = 2 := by rw [show t = 2 from by omega]; rfl
              refine lv_iconst (v := nI 2) hx hb dX7_step_39 (by rfl) ?_
              refine lv_istore_n (lv' := [(3, .int (nI 2)), (0, .ref x0), (1, .int (nI t)), (2, .int (nI u))]) hx hb dX7_step_40 rfl hl (by decide) rfl (fun ls hl => ?_)
              refine lv_iconst (v := nI 0) hx hb dX7_step_41 (by rfl) ?_
              refine lv_istore (lv' := [(4, .int (nI 0)), (3, .int (nI 2)), (0, .ref x0), (1, .int (nI t)), (2, .int (nI u))]) hx hb dX7_step_42 hl (by decide) rfl (fun ls hl => ?_)
              suffices KL44 : ∀ (kz : Nat) (i : Nat) (Gi : Nat → Nat → Nat) (Pi : Nat → Nat → Nat) (hmv : Nat → Int32) (awv : Nat → Int32) (rvv : Nat → Int32) (sdv : Nat → Int32) (gmv : Nat → Int32) (cav : Nat → Int32) (H : Heap) (locs : List Loc) (ls : Array Slot), (u - i) < kz → (zm_steps 2 R B X Y N u G P = ((zm_steps 2 R B X Y N (u - i) Gi Pi).1 + i, (zm_steps 2 R B X Y N (u - i) Gi Pi).2)) → (zm_pl N Gi Pi hmv awv rvv sdv gmv) → (i ≤ u) → va_P D vwCl [(x0, .inr (5, [.ref g0, .ref xk, .ref xt, .ref xx, .ref xp, .int ik])), (g0, .inr (2, [.ref h0, .ref g1, .ref g2, .ref g3, .ref g4, .int (nI kd), .ref g5, .ref g6, .ref g7])), (h0, .inr (0, [.int (nI N), .ref h1, .ref h2, .ref h3, .ref h4, .ref h5, .ref h6])), (h1, .inl (E 0, 15, .inl hmv)), (h2, .inl (E 0, 15, .inl awv)), (h3, .inl (E 0, 30, .inl rvv)), (h4, .inl (E 0, 30, .inl sdv)), (h5, .inl (E 0, 30, .inl gmv)), (h6, .inl (E 0, 36, .inl cav)), (g1, .inl (E 0, 6, .inl xs)), (g2, .inl (E 0, 6, .inl ys)), (g3, .inl (E 1, 30, .inl bz)), (g4, .inl (E 0, 4, .inl rt))] H → va_D A [(x0, .inr (5, [.ref g0, .ref xk, .ref xt, .ref xx, .ref xp, .int ik])), (g0, .inr (2, [.ref h0, .ref g1, .ref g2, .ref g3, .ref g4, .int (nI kd), .ref g5, .ref g6, .ref g7])), (h0, .inr (0, [.int (nI N), .ref h1, .ref h2, .ref h3, .ref h4, .ref h5, .ref h6])), (h1, .inl (E 0, 15, .inl hmv)), (h2, .inl (E 0, 15, .inl awv)), (h3, .inl (E 0, 30, .inl rvv)), (h4, .inl (E 0, 30, .inl sdv)), (h5, .inl (E 0, 30, .inl gmv)), (h6, .inl (E 0, 36, .inl cav)), (g1, .inl (E 0, 6, .inl xs)), (g2, .inl (E 0, 6, .inl ys)), (g3, .inl (E 1, 30, .inl bz)), (g4, .inl (E 0, 4, .inl rt))] → va_S A s.heap H locs → lv_has ls 5 [(0, .ref x0), (1, .int (nI t)), (2, .int (nI u)), (3, .int (nI 2)), (4, .int (nI i))] → W p l e (headSpec wsX7_step ({ frames := 7, cells := 0, slots := 0, locals := 168 })).room s m ([.ref x0, .int v, .int w] : List Value).toArray below meth c H locs 0 0 Q (F0 m 44 ls []) from
                KL44 _ 0 G P hm aw rv sd gm ca _ _ ls (Nat.lt_succ_self _) (rfl) (hpl) (by omega) hP hD hS (lv_sub hl [2, 3, 4, 1, 0] rfl)
              clear hP hS hl hD
              intro kz
              induction kz with
              | zero => intro i Gi Pi hmv awv rvv sdv gmv cav H locs ls hkz; exact absurd hkz (Nat.not_lt_zero _)
              | succ kz ih44 =>
                intro i Gi Pi hmv awv rvv sdv gmv cav H locs ls hkz hI hpi hi hP hD hS hl
                refine lv_iload hx hb dX7_step_44 (lv_at hl 4 rfl) ?_
                refine lv_iload_n hx hb dX7_step_46 rfl (lv_at hl 2 rfl) ?_
                refine lv_icmp_ge (tgt := 67) hx hb dX7_step_47 (by decide) (fun cn_7 => ?_) (fun cn_7 => ?_)
                · skip
                  have cn_7 : u ≤ i := (nI_leI (a := u) (b := i) (by omega) (by omega)).mp cn_7
                  have hst := hI.trans (zk_s0 (by omega))
                  have hpf := hpi
                  refine lv_iload hx hb dX7_step_67 (lv_at hl 4 rfl) ?_
                  subst hQ; subst hAe
                  exact W.iret (v := nI i) hx hb hr (fun tz htz hWz => ⟨⟨nI i, (hmv, awv, rvv, sdv, gmv, cav), rfl, ⟨by simp only [cond_true, Bool.and_true, Bool.true_and, e1, e2, q1, q2, hdd, hst, Nat.zero_add], by simp only [cond_true, Bool.and_true, Bool.true_and, e1, e2, q1, q2, hdd, hst]; exact hpf⟩, by rw [htz]; exact hP, hD⟩, hS.F htz⟩) hS.2.2 dX7_step_69
                · skip
                  have cn_7 : ¬ (u ≤ i) := fun hz => cn_7 ((nI_leI (a := u) (b := i) (by omega) (by omega)).mpr hz)
                  refine lv_aload_n hx hb dX7_step_50 rfl (lv_at hl 0 rfl) ?_
                  refine va_get (D := D) (ci := 5) (v := .ref g0) (C := RX7) (T := TX7) (N := 6) hx hb hts (by decide +kernel) hown hK.1 hP 0 rfl rfl 0 (by decide) (hts (.fieldLink RX7 12 "HomeRounds" "now" "LHomeRounds$Setting;") (by decide +kernel)) (fun _ h9 => h9) rfl dX7_step_51 ?_
                  refine lv_iload_n hx hb dX7_step_54 rfl (lv_at hl 3 rfl) ?_
                  have hPc := hP.sub (ws' := [(g0, .inr (2, [.ref h0, .ref g1, .ref g2, .ref g3, .ref g4, .int (nI kd), .ref g5, .ref g6, .ref g7])), (h0, .inr (0, [.int (nI N), .ref h1, .ref h2, .ref h3, .ref h4, .ref h5, .ref h6])), (h1, .inl (E 0, 15, .inl hmv)), (h2, .inl (E 0, 15, .inl awv)), (h3, .inl (E 0, 30, .inl rvv)), (h4, .inl (E 0, 30, .inl sdv)), (h5, .inl (E 0, 30, .inl gmv)), (h6, .inl (E 0, 36, .inl cav)), (g1, .inl (E 0, 6, .inl xs)), (g2, .inl (E 0, 6, .inl ys)), (g3, .inl (E 1, 30, .inl bz)), (g4, .inl (E 0, 4, .inl rt))]) [1, 2, 3, 4, 5, 6, 7, 8, 9, 10, 11, 12] rfl
                  have hDc := hD.sub (ws' := [(g0, .inr (2, [.ref h0, .ref g1, .ref g2, .ref g3, .ref g4, .int (nI kd), .ref g5, .ref g6, .ref g7])), (h0, .inr (0, [.int (nI N), .ref h1, .ref h2, .ref h3, .ref h4, .ref h5, .ref h6])), (h1, .inl (E 0, 15, .inl hmv)), (h2, .inl (E 0, 15, .inl awv)), (h3, .inl (E 0, 30, .inl rvv)), (h4, .inl (E 0, 30, .inl sdv)), (h5, .inl (E 0, 30, .inl gmv)), (h6, .inl (E 0, 36, .inl cav)), (g1, .inl (E 0, 6, .inl xs)), (g2, .inl (E 0, 6, .inl ys)), (g3, .inl (E 1, 30, .inl bz)), (g4, .inl (E 0, 4, .inl rt))]) [1, 2, 3, 4, 5, 6, 7, 8, 9, 10, 11, 12] (by decide +kernel) rfl
                  have hAc := zw_AA (wc := [(g0, .inr (2, [.ref h0, .ref g1, .ref g2, .ref g3, .ref g4, .int (nI kd), .ref g5, .ref g6, .ref g7])), (h0, .inr (0, [.int (nI N), .ref h1, .ref h2, .ref h3, .ref h4, .ref h5, .ref h6])), (h1, .inl (E 0, 15, .inl hmv)), (h2, .inl (E 0, 15, .inl awv)), (h3, .inl (E 0, 30, .inl rvv)), (h4, .inl (E 0, 30, .inl sdv)), (h5, .inl (E 0, 30, .inl gmv)), (h6, .inl (E 0, 36, .inl cav)), (g1, .inl (E 0, 6, .inl xs)), (g2, .inl (E 0, 6, .inl ys)), (g3, .inl (E 1, 30, .inl bz)), (g4, .inl (E 0, 4, .inl rt))]) hD [1, 2, 3, 4, 5, 6, 7, 8, 9, 10, 11, 12] rfl
                  refine zw_ci hAc hS (va_runV (As := [.int (nI 2)]) (rest := []) ⟨hx, hb, hml, hown, hts⟩ (c_X3_takeStep_2 l D E g0 g1 g2 g3 g4 g5 g6 g7 kd h0 h1 h2 h3 h4 h5 h6 N hmv awv rvv sdv gmv cav Gi Pi xs ys X Y bz B rt R (hpi) (hgr) (hbz) (hrt)) (cwV 1 hts gX7_step_X3_takeStep rfl rfl rfl (by decide +kernel) ⟨Nat.le_of_ble_eq_true rfl, Nat.le_of_ble_eq_true rfl⟩) (zw_V hK hPc hDc (ci := 2) (q0 := 0) rfl rfl) rfl rfl hl.1 rfl (lv_room (Nat.le_of_ble_eq_true rfl)) dX7_step_55 ⟨Nat.zero_le _, Nat.zero_le _⟩) (fun r_8 u_10 H locs hw_9 hP1 hD1 hk1 hS => ?_)
                  obtain ⟨hm_11, aw_12, rv_13, sd_14, gm_15, ca_16⟩ := u_10
                  try dsimp only at hw_9 hP1 hD1
                  obtain ⟨hP, hD⟩ := zw_join (wr := [(x0, .inr (5, [.ref g0, .ref xk, .ref xt, .ref xx, .ref xp, .int ik]))]) (w1 := [(g0, .inr (2, [.ref h0, .ref g1, .ref g2, .ref g3, .ref g4, .int (nI kd), .ref g5, .ref g6, .ref g7])), (h0, .inr (0, [.int (nI N), .ref h1, .ref h2, .ref h3, .ref h4, .ref h5, .ref h6])), (h1, .inl (E 0, 15, .inl hm_11)), (h2, .inl (E 0, 15, .inl aw_12)), (h3, .inl (E 0, 30, .inl rv_13)), (h4, .inl (E 0, 30, .inl sd_14)), (h5, .inl (E 0, 30, .inl gm_15)), (h6, .inl (E 0, 36, .inl ca_16)), (g1, .inl (E 0, 6, .inl xs)), (g2, .inl (E 0, 6, .inl ys)), (g3, .inl (E 1, 30, .inl bz)), (g4, .inl (E 0, 4, .inl rt))]) (ws' := [(x0, .inr (5, [.ref g0, .ref xk, .ref xt, .ref xx, .ref xp, .int ik])), (g0, .inr (2, [.ref h0, .ref g1, .ref g2, .ref g3, .ref g4, .int (nI kd), .ref g5, .ref g6, .ref g7])), (h0, .inr (0, [.int (nI N), .ref h1, .ref h2, .ref h3, .ref h4, .ref h5, .ref h6])), (h1, .inl (E 0, 15, .inl hm_11)), (h2, .inl (E 0, 15, .inl aw_12)), (h3, .inl (E 0, 30, .inl rv_13)), (h4, .inl (E 0, 30, .inl sd_14)), (h5, .inl (E 0, 30, .inl gm_15)), (h6, .inl (E 0, 36, .inl ca_16)), (g1, .inl (E 0, 6, .inl xs)), (g2, .inl (E 0, 6, .inl ys)), (g3, .inl (E 1, 30, .inl bz)), (g4, .inl (E 0, 4, .inl rt))]) hP hD [1, 2, 3, 4, 5, 6, 7, 8, 9, 10, 11, 12] [0] [0, 1, 2, 3, 4, 5, 6, 7, 8, 9, 10, 11, 12] rfl rfl (by decide +kernel) (by decide +kernel) hAc hk1 hP1 hD1 (by decide +kernel) rfl
                  clear hP1 hD1 hk1 hPc hDc hAc
                  have hstep := hw_9
                  refine lv_if_eq (tgt := 67) hx hb dX7_step_58 (by decide) (fun cn_17 => ?_) (fun cn_17 => ?_)
                  · skip
                    obtain ⟨hno, -, hpf⟩ := Or.resolve_right hstep (fun ⟨a, b, _, q, _⟩ => absurd (q.symm.trans cn_17) (by decide))
                    have hst := hI.trans (zk_s1 hno)
                    refine lv_iload hx hb dX7_step_67 (lv_at hl 4 rfl) ?_
                    subst hQ; subst hAe
                    exact W.iret (v := nI i) hx hb hr (fun tz htz hWz => ⟨⟨nI i, (hm_11, aw_12, rv_13, sd_14, gm_15, ca_16), rfl, ⟨by simp only [cond_true, Bool.and_true, Bool.true_and, e1, e2, q1, q2, hdd, hst, Nat.zero_add], by simp only [cond_true, Bool.and_true, Bool.true_and, e1, e2, q1, q2, hdd, hst]; exact hpf⟩, by rw [htz]; exact hP, hD⟩, hS.F htz⟩) hS.2.2 dX7_step_69
                  · skip
                    obtain ⟨a9, b9, hso, -, hpn⟩ := Or.resolve_left hstep (fun q => cn_17 q.2.1)
                    refine lv_iinc (v := nI (i + 1)) (lv' := [(4, .int (nI (i + 1))), (0, .ref x0), (1, .int (nI t)), (2, .int (nI u)), (3, .int (nI 2))]) hx hb dX7_step_61 hl (k := 4) rfl (nI_add _ _) (by decide) rfl (fun ls hl => ?_)
                    refine lv_goto (tgt := 44) hx hb dX7_step_64 (by decide) ?_
                    have hl : lv_has ls 5 [(0, .ref x0), (1, .int (nI t)), (2, .int (nI u)), (3, .int (nI 2)), (4, .int (nI (i + 1)))] := lv_sub hl [1, 2, 3, 4, 0] rfl
                    exact ih44 (i + 1) (zm_opG 2 Gi a9 b9) (zm_opP 2 Pi a9 b9) hm_11 aw_12 rv_13 sd_14 gm_15 ca_16 H locs ls (by omega) (by rw [hI, show u - i = (u - (i + 1)) + 1 from by omega, zm_steps_s hso]; exact zk_st _ _ _) (hpn) (by omega) hP hD hS hl
            · skip
              have cn_6 : t = 1 := (nI_eq (a := t) (b := 1) (by omega) (by omega)).mp cn_6
              have hdd : zm_deed t = 0 := by rw [show t = 1 from by omega]; rfl
              refine lv_iconst (v := nI 0) hx hb dX7_step_35 (by rfl) ?_
              refine lv_goto (tgt := 40) hx hb dX7_step_36 (by decide) ?_
              refine lv_istore_n (lv' := [(3, .int (nI 0)), (0, .ref x0), (1, .int (nI t)), (2, .int (nI u))]) hx hb dX7_step_40 rfl hl (by decide) rfl (fun ls hl => ?_)
              refine lv_iconst (v := nI 0) hx hb dX7_step_41 (by rfl) ?_
              refine lv_istore (lv' := [(4, .int (nI 0)), (3, .int (nI 0)), (0, .ref x0), (1, .int (nI t)), (2, .int (nI u))]) hx hb dX7_step_42 hl (by decide) rfl (fun ls hl => ?_)
              suffices KL44 : ∀ (kz : Nat) (i : Nat) (Gi : Nat → Nat → Nat) (Pi : Nat → Nat → Nat) (hmv : Nat → Int32) (awv : Nat → Int32) (rvv : Nat → Int32) (sdv : Nat → Int32) (gmv : Nat → Int32) (cav : Nat → Int32) (H : Heap) (locs : List Loc) (ls : Array Slot), (u - i) < kz → (zm_steps 0 R B X Y N u G P = ((zm_steps 0 R B X Y N (u - i) Gi Pi).1 + i, (zm_steps 0 R B X Y N (u - i) Gi Pi).2)) → (zm_pl N Gi Pi hmv awv rvv sdv gmv) → (i ≤ u) → va_P D vwCl [(x0, .inr (5, [.ref g0, .ref xk, .ref xt, .ref xx, .ref xp, .int ik])), (g0, .inr (2, [.ref h0, .ref g1, .ref g2, .ref g3, .ref g4, .int (nI kd), .ref g5, .ref g6, .ref g7])), (h0, .inr (0, [.int (nI N), .ref h1, .ref h2, .ref h3, .ref h4, .ref h5, .ref h6])), (h1, .inl (E 0, 15, .inl hmv)), (h2, .inl (E 0, 15, .inl awv)), (h3, .inl (E 0, 30, .inl rvv)), (h4, .inl (E 0, 30, .inl sdv)), (h5, .inl (E 0, 30, .inl gmv)), (h6, .inl (E 0, 36, .inl cav)), (g1, .inl (E 0, 6, .inl xs)), (g2, .inl (E 0, 6, .inl ys)), (g3, .inl (E 1, 30, .inl bz)), (g4, .inl (E 0, 4, .inl rt))] H → va_D A [(x0, .inr (5, [.ref g0, .ref xk, .ref xt, .ref xx, .ref xp, .int ik])), (g0, .inr (2, [.ref h0, .ref g1, .ref g2, .ref g3, .ref g4, .int (nI kd), .ref g5, .ref g6, .ref g7])), (h0, .inr (0, [.int (nI N), .ref h1, .ref h2, .ref h3, .ref h4, .ref h5, .ref h6])), (h1, .inl (E 0, 15, .inl hmv)), (h2, .inl (E 0, 15, .inl awv)), (h3, .inl (E 0, 30, .inl rvv)), (h4, .inl (E 0, 30, .inl sdv)), (h5, .inl (E 0, 30, .inl gmv)), (h6, .inl (E 0, 36, .inl cav)), (g1, .inl (E 0, 6, .inl xs)), (g2, .inl (E 0, 6, .inl ys)), (g3, .inl (E 1, 30, .inl bz)), (g4, .inl (E 0, 4, .inl rt))] → va_S A s.heap H locs → lv_has ls 5 [(0, .ref x0), (1, .int (nI t)), (2, .int (nI u)), (3, .int (nI 0)), (4, .int (nI i))] → W p l e (headSpec wsX7_step ({ frames := 7, cells := 0, slots := 0, locals := 168 })).room s m ([.ref x0, .int v, .int w] : List Value).toArray below meth c H locs 0 0 Q (F0 m 44 ls []) from
                KL44 _ 0 G P hm aw rv sd gm ca _ _ ls (Nat.lt_succ_self _) (rfl) (hpl) (by omega) hP hD hS (lv_sub hl [2, 3, 4, 1, 0] rfl)
              clear hP hS hl hD
              intro kz
              induction kz with
              | zero => intro i Gi Pi hmv awv rvv sdv gmv cav H locs ls hkz; exact absurd hkz (Nat.not_lt_zero _)
              | succ kz ih44 =>
                intro i Gi Pi hmv awv rvv sdv gmv cav H locs ls hkz hI hpi hi hP hD hS hl
                refine lv_iload hx hb dX7_step_44 (lv_at hl 4 rfl) ?_
                refine lv_iload_n hx hb dX7_step_46 rfl (lv_at hl 2 rfl) ?_
                refine lv_icmp_ge (tgt := 67) hx hb dX7_step_47 (by decide) (fun cn_18 => ?_) (fun cn_18 => ?_)
                · skip
                  have cn_18 : u ≤ i := (nI_leI (a := u) (b := i) (by omega) (by omega)).mp cn_18
                  have hst := hI.trans (zk_s0 (by omega))
                  have hpf := hpi
                  refine lv_iload hx hb dX7_step_67 (lv_at hl 4 rfl) ?_
                  subst hQ; subst hAe
                  exact W.iret (v := nI i) hx hb hr (fun tz htz hWz => ⟨⟨nI i, (hmv, awv, rvv, sdv, gmv, cav), rfl, ⟨by simp only [cond_true, Bool.and_true, Bool.true_and, e1, e2, q1, q2, hdd, hst, Nat.zero_add], by simp only [cond_true, Bool.and_true, Bool.true_and, e1, e2, q1, q2, hdd, hst]; exact hpf⟩, by rw [htz]; exact hP, hD⟩, hS.F htz⟩) hS.2.2 dX7_step_69
                · skip
                  have cn_18 : ¬ (u ≤ i) := fun hz => cn_18 ((nI_leI (a := u) (b := i) (by omega) (by omega)).mpr hz)
                  refine lv_aload_n hx hb dX7_step_50 rfl (lv_at hl 0 rfl) ?_
                  refine va_get (D := D) (ci := 5) (v := .ref g0) (C := RX7) (T := TX7) (N := 6) hx hb hts (by decide +kernel) hown hK.1 hP 0 rfl rfl 0 (by decide) (hts (.fieldLink RX7 12 "HomeRounds" "now" "LHomeRounds$Setting;") (by decide +kernel)) (fun _ h9 => h9) rfl dX7_step_51 ?_
                  refine lv_iload_n hx hb dX7_step_54 rfl (lv_at hl 3 rfl) ?_
                  have hPc := hP.sub (ws' := [(g0, .inr (2, [.ref h0, .ref g1, .ref g2, .ref g3, .ref g4, .int (nI kd), .ref g5, .ref g6, .ref g7])), (h0, .inr (0, [.int (nI N), .ref h1, .ref h2, .ref h3, .ref h4, .ref h5, .ref h6])), (h1, .inl (E 0, 15, .inl hmv)), (h2, .inl (E 0, 15, .inl awv)), (h3, .inl (E 0, 30, .inl rvv)), (h4, .inl (E 0, 30, .inl sdv)), (h5, .inl (E 0, 30, .inl gmv)), (h6, .inl (E 0, 36, .inl cav)), (g1, .inl (E 0, 6, .inl xs)), (g2, .inl (E 0, 6, .inl ys)), (g3, .inl (E 1, 30, .inl bz)), (g4, .inl (E 0, 4, .inl rt))]) [1, 2, 3, 4, 5, 6, 7, 8, 9, 10, 11, 12] rfl
                  have hDc := hD.sub (ws' := [(g0, .inr (2, [.ref h0, .ref g1, .ref g2, .ref g3, .ref g4, .int (nI kd), .ref g5, .ref g6, .ref g7])), (h0, .inr (0, [.int (nI N), .ref h1, .ref h2, .ref h3, .ref h4, .ref h5, .ref h6])), (h1, .inl (E 0, 15, .inl hmv)), (h2, .inl (E 0, 15, .inl awv)), (h3, .inl (E 0, 30, .inl rvv)), (h4, .inl (E 0, 30, .inl sdv)), (h5, .inl (E 0, 30, .inl gmv)), (h6, .inl (E 0, 36, .inl cav)), (g1, .inl (E 0, 6, .inl xs)), (g2, .inl (E 0, 6, .inl ys)), (g3, .inl (E 1, 30, .inl bz)), (g4, .inl (E 0, 4, .inl rt))]) [1, 2, 3, 4, 5, 6, 7, 8, 9, 10, 11, 12] (by decide +kernel) rfl
                  have hAc := zw_AA (wc := [(g0, .inr (2, [.ref h0, .ref g1, .ref g2, .ref g3, .ref g4, .int (nI kd), .ref g5, .ref g6, .ref g7])), (h0, .inr (0, [.int (nI N), .ref h1, .ref h2, .ref h3, .ref h4, .ref h5, .ref h6])), (h1, .inl (E 0, 15, .inl hmv)), (h2, .inl (E 0, 15, .inl awv)), (h3, .inl (E 0, 30, .inl rvv)), (h4, .inl (E 0, 30, .inl sdv)), (h5, .inl (E 0, 30, .inl gmv)), (h6, .inl (E 0, 36, .inl cav)), (g1, .inl (E 0, 6, .inl xs)), (g2, .inl (E 0, 6, .inl ys)), (g3, .inl (E 1, 30, .inl bz)), (g4, .inl (E 0, 4, .inl rt))]) hD [1, 2, 3, 4, 5, 6, 7, 8, 9, 10, 11, 12] rfl
                  refine zw_ci hAc hS (va_runV (As := [.int (nI 0)]) (rest := []) ⟨hx, hb, hml, hown, hts⟩ (c_X3_takeStep_0 l D E g0 g1 g2 g3 g4 g5 g6 g7 kd h0 h1 h2 h3 h4 h5 h6 N hmv awv rvv sdv gmv cav Gi Pi xs ys X Y bz B rt R (hpi) (hgr) (hbz) (hrt)) (cwV 1 hts gX7_step_X3_takeStep rfl rfl rfl (by decide +kernel) ⟨Nat.le_of_ble_eq_true rfl, Nat.le_of_ble_eq_true rfl⟩) (zw_V hK hPc hDc (ci := 2) (q0 := 0) rfl rfl) rfl rfl hl.1 rfl (lv_room (Nat.le_of_ble_eq_true rfl)) dX7_step_55 ⟨Nat.zero_le _, Nat.zero_le _⟩) (fun r_19 u_21 H locs hw_20 hP1 hD1 hk1 hS => ?_)
                  obtain ⟨hm_22, aw_23, rv_24, sd_25, gm_26, ca_27⟩ := u_21
                  try dsimp only at hw_20 hP1 hD1
                  obtain ⟨hP, hD⟩ := zw_join (wr := [(x0, .inr (5, [.ref g0, .ref xk, .ref xt, .ref xx, .ref xp, .int ik]))]) (w1 := [(g0, .inr (2, [.ref h0, .ref g1, .ref g2, .ref g3, .ref g4, .int (nI kd), .ref g5, .ref g6, .ref g7])), (h0, .inr (0, [.int (nI N), .ref h1, .ref h2, .ref h3, .ref h4, .ref h5, .ref h6])), (h1, .inl (E 0, 15, .inl hm_22)), (h2, .inl (E 0, 15, .inl aw_23)), (h3, .inl (E 0, 30, .inl rv_24)), (h4, .inl (E 0, 30, .inl sd_25)), (h5, .inl (E 0, 30, .inl gm_26)), (h6, .inl (E 0, 36, .inl ca_27)), (g1, .inl (E 0, 6, .inl xs)), (g2, .inl (E 0, 6, .inl ys)), (g3, .inl (E 1, 30, .inl bz)), (g4, .inl (E 0, 4, .inl rt))]) (ws' := [(x0, .inr (5, [.ref g0, .ref xk, .ref xt, .ref xx, .ref xp, .int ik])), (g0, .inr (2, [.ref h0, .ref g1, .ref g2, .ref g3, .ref g4, .int (nI kd), .ref g5, .ref g6, .ref g7])), (h0, .inr (0, [.int (nI N), .ref h1, .ref h2, .ref h3, .ref h4, .ref h5, .ref h6])), (h1, .inl (E 0, 15, .inl hm_22)), (h2, .inl (E 0, 15, .inl aw_23)), (h3, .inl (E 0, 30, .inl rv_24)), (h4, .inl (E 0, 30, .inl sd_25)), (h5, .inl (E 0, 30, .inl gm_26)), (h6, .inl (E 0, 36, .inl ca_27)), (g1, .inl (E 0, 6, .inl xs)), (g2, .inl (E 0, 6, .inl ys)), (g3, .inl (E 1, 30, .inl bz)), (g4, .inl (E 0, 4, .inl rt))]) hP hD [1, 2, 3, 4, 5, 6, 7, 8, 9, 10, 11, 12] [0] [0, 1, 2, 3, 4, 5, 6, 7, 8, 9, 10, 11, 12] rfl rfl (by decide +kernel) (by decide +kernel) hAc hk1 hP1 hD1 (by decide +kernel) rfl
                  clear hP1 hD1 hk1 hPc hDc hAc
                  have hstep := hw_20
                  refine lv_if_eq (tgt := 67) hx hb dX7_step_58 (by decide) (fun cn_28 => ?_) (fun cn_28 => ?_)
                  · skip
                    obtain ⟨hno, -, hpf⟩ := Or.resolve_right hstep (fun ⟨a, b, _, q, _⟩ => absurd (q.symm.trans cn_28) (by decide))
                    have hst := hI.trans (zk_s1 hno)
                    refine lv_iload hx hb dX7_step_67 (lv_at hl 4 rfl) ?_
                    subst hQ; subst hAe
                    exact W.iret (v := nI i) hx hb hr (fun tz htz hWz => ⟨⟨nI i, (hm_22, aw_23, rv_24, sd_25, gm_26, ca_27), rfl, ⟨by simp only [cond_true, Bool.and_true, Bool.true_and, e1, e2, q1, q2, hdd, hst, Nat.zero_add], by simp only [cond_true, Bool.and_true, Bool.true_and, e1, e2, q1, q2, hdd, hst]; exact hpf⟩, by rw [htz]; exact hP, hD⟩, hS.F htz⟩) hS.2.2 dX7_step_69
                  · skip
                    obtain ⟨a9, b9, hso, -, hpn⟩ := Or.resolve_left hstep (fun q => cn_28 q.2.1)
                    refine lv_iinc (v := nI (i + 1)) (lv' := [(4, .int (nI (i + 1))), (0, .ref x0), (1, .int (nI t)), (2, .int (nI u)), (3, .int (nI 0))]) hx hb dX7_step_61 hl (k := 4) rfl (nI_add _ _) (by decide) rfl (fun ls hl => ?_)
                    refine lv_goto (tgt := 44) hx hb dX7_step_64 (by decide) ?_
                    have hl : lv_has ls 5 [(0, .ref x0), (1, .int (nI t)), (2, .int (nI u)), (3, .int (nI 0)), (4, .int (nI (i + 1)))] := lv_sub hl [1, 2, 3, 4, 0] rfl
                    exact ih44 (i + 1) (zm_opG 0 Gi a9 b9) (zm_opP 0 Pi a9 b9) hm_22 aw_23 rv_24 sd_25 gm_26 ca_27 H locs ls (by omega) (by rw [hI, show u - i = (u - (i + 1)) + 1 from by omega, zm_steps_s hso]; exact zk_st _ _ _) (hpn) (by omega) hP hD hS hl
          · skip
            have cn_5 : t = 0 := (nI_eq (a := t) (b := 0) (by omega) (by omega)).mp cn_5
            have hdd : zm_deed t = 1 := by rw [show t = 0 from by omega]; rfl
            refine lv_iconst (v := nI 1) hx hb dX7_step_26 (by rfl) ?_
            refine lv_goto (tgt := 40) hx hb dX7_step_27 (by decide) ?_
            refine lv_istore_n (lv' := [(3, .int (nI 1)), (0, .ref x0), (1, .int (nI t)), (2, .int (nI u))]) hx hb dX7_step_40 rfl hl (by decide) rfl (fun ls hl => ?_)
            refine lv_iconst (v := nI 0) hx hb dX7_step_41 (by rfl) ?_
            refine lv_istore (lv' := [(4, .int (nI 0)), (3, .int (nI 1)), (0, .ref x0), (1, .int (nI t)), (2, .int (nI u))]) hx hb dX7_step_42 hl (by decide) rfl (fun ls hl => ?_)
            suffices KL44 : ∀ (kz : Nat) (i : Nat) (Gi : Nat → Nat → Nat) (Pi : Nat → Nat → Nat) (hmv : Nat → Int32) (awv : Nat → Int32) (rvv : Nat → Int32) (sdv : Nat → Int32) (gmv : Nat → Int32) (cav : Nat → Int32) (H : Heap) (locs : List Loc) (ls : Array Slot), (u - i) < kz → (zm_steps 1 R B X Y N u G P = ((zm_steps 1 R B X Y N (u - i) Gi Pi).1 + i, (zm_steps 1 R B X Y N (u - i) Gi Pi).2)) → (zm_pl N Gi Pi hmv awv rvv sdv gmv) → (i ≤ u) → va_P D vwCl [(x0, .inr (5, [.ref g0, .ref xk, .ref xt, .ref xx, .ref xp, .int ik])), (g0, .inr (2, [.ref h0, .ref g1, .ref g2, .ref g3, .ref g4, .int (nI kd), .ref g5, .ref g6, .ref g7])), (h0, .inr (0, [.int (nI N), .ref h1, .ref h2, .ref h3, .ref h4, .ref h5, .ref h6])), (h1, .inl (E 0, 15, .inl hmv)), (h2, .inl (E 0, 15, .inl awv)), (h3, .inl (E 0, 30, .inl rvv)), (h4, .inl (E 0, 30, .inl sdv)), (h5, .inl (E 0, 30, .inl gmv)), (h6, .inl (E 0, 36, .inl cav)), (g1, .inl (E 0, 6, .inl xs)), (g2, .inl (E 0, 6, .inl ys)), (g3, .inl (E 1, 30, .inl bz)), (g4, .inl (E 0, 4, .inl rt))] H → va_D A [(x0, .inr (5, [.ref g0, .ref xk, .ref xt, .ref xx, .ref xp, .int ik])), (g0, .inr (2, [.ref h0, .ref g1, .ref g2, .ref g3, .ref g4, .int (nI kd), .ref g5, .ref g6, .ref g7])), (h0, .inr (0, [.int (nI N), .ref h1, .ref h2, .ref h3, .ref h4, .ref h5, .ref h6])), (h1, .inl (E 0, 15, .inl hmv)), (h2, .inl (E 0, 15, .inl awv)), (h3, .inl (E 0, 30, .inl rvv)), (h4, .inl (E 0, 30, .inl sdv)), (h5, .inl (E 0, 30, .inl gmv)), (h6, .inl (E 0, 36, .inl cav)), (g1, .inl (E 0, 6, .inl xs)), (g2, .inl (E 0, 6, .inl ys)), (g3, .inl (E 1, 30, .inl bz)), (g4, .inl (E 0, 4, .inl rt))] → va_S A s.heap H locs → lv_has ls 5 [(0, .ref x0), (1, .int (nI t)), (2, .int (nI u)), (3, .int (nI 1)), (4, .int (nI i))] → W p l e (headSpec wsX7_step ({ frames := 7, cells := 0, slots := 0, locals := 168 })).room s m ([.ref x0, .int v, .int w] : List Value).toArray below meth c H locs 0 0 Q (F0 m 44 ls []) from
              KL44 _ 0 G P hm aw rv sd gm ca _ _ ls (Nat.lt_succ_self _) (rfl) (hpl) (by omega) hP hD hS (lv_sub hl [2, 3, 4, 1, 0] rfl)
            clear hP hS hl hD
            intro kz
            induction kz with
            | zero => intro i Gi Pi hmv awv rvv sdv gmv cav H locs ls hkz; exact absurd hkz (Nat.not_lt_zero _)
            | succ kz ih44 =>
              intro i Gi Pi hmv awv rvv sdv gmv cav H locs ls hkz hI hpi hi hP hD hS hl
              refine lv_iload hx hb dX7_step_44 (lv_at hl 4 rfl) ?_
              refine lv_iload_n hx hb dX7_step_46 rfl (lv_at hl 2 rfl) ?_
              refine lv_icmp_ge (tgt := 67) hx hb dX7_step_47 (by decide) (fun cn_29 => ?_) (fun cn_29 => ?_)
              · skip
                have cn_29 : u ≤ i := (nI_leI (a := u) (b := i) (by omega) (by omega)).mp cn_29
                have hst := hI.trans (zk_s0 (by omega))
                have hpf := hpi
                refine lv_iload hx hb dX7_step_67 (lv_at hl 4 rfl) ?_
                subst hQ; subst hAe
                exact W.iret (v := nI i) hx hb hr (fun tz htz hWz => ⟨⟨nI i, (hmv, awv, rvv, sdv, gmv, cav), rfl, ⟨by simp only [cond_true, Bool.and_true, Bool.true_and, e1, e2, q1, q2, hdd, hst, Nat.zero_add], by simp only [cond_true, Bool.and_true, Bool.true_and, e1, e2, q1, q2, hdd, hst]; exact hpf⟩, by rw [htz]; exact hP, hD⟩, hS.F htz⟩) hS.2.2 dX7_step_69
              · skip
                have cn_29 : ¬ (u ≤ i) := fun hz => cn_29 ((nI_leI (a := u) (b := i) (by omega) (by omega)).mpr hz)
                refine lv_aload_n hx hb dX7_step_50 rfl (lv_at hl 0 rfl) ?_
                refine va_get (D := D) (ci := 5) (v := .ref g0) (C := RX7) (T := TX7) (N := 6) hx hb hts (by decide +kernel) hown hK.1 hP 0 rfl rfl 0 (by decide) (hts (.fieldLink RX7 12 "HomeRounds" "now" "LHomeRounds$Setting;") (by decide +kernel)) (fun _ h9 => h9) rfl dX7_step_51 ?_
                refine lv_iload_n hx hb dX7_step_54 rfl (lv_at hl 3 rfl) ?_
                have hPc := hP.sub (ws' := [(g0, .inr (2, [.ref h0, .ref g1, .ref g2, .ref g3, .ref g4, .int (nI kd), .ref g5, .ref g6, .ref g7])), (h0, .inr (0, [.int (nI N), .ref h1, .ref h2, .ref h3, .ref h4, .ref h5, .ref h6])), (h1, .inl (E 0, 15, .inl hmv)), (h2, .inl (E 0, 15, .inl awv)), (h3, .inl (E 0, 30, .inl rvv)), (h4, .inl (E 0, 30, .inl sdv)), (h5, .inl (E 0, 30, .inl gmv)), (h6, .inl (E 0, 36, .inl cav)), (g1, .inl (E 0, 6, .inl xs)), (g2, .inl (E 0, 6, .inl ys)), (g3, .inl (E 1, 30, .inl bz)), (g4, .inl (E 0, 4, .inl rt))]) [1, 2, 3, 4, 5, 6, 7, 8, 9, 10, 11, 12] rfl
                have hDc := hD.sub (ws' := [(g0, .inr (2, [.ref h0, .ref g1, .ref g2, .ref g3, .ref g4, .int (nI kd), .ref g5, .ref g6, .ref g7])), (h0, .inr (0, [.int (nI N), .ref h1, .ref h2, .ref h3, .ref h4, .ref h5, .ref h6])), (h1, .inl (E 0, 15, .inl hmv)), (h2, .inl (E 0, 15, .inl awv)), (h3, .inl (E 0, 30, .inl rvv)), (h4, .inl (E 0, 30, .inl sdv)), (h5, .inl (E 0, 30, .inl gmv)), (h6, .inl (E 0, 36, .inl cav)), (g1, .inl (E 0, 6, .inl xs)), (g2, .inl (E 0, 6, .inl ys)), (g3, .inl (E 1, 30, .inl bz)), (g4, .inl (E 0, 4, .inl rt))]) [1, 2, 3, 4, 5, 6, 7, 8, 9, 10, 11, 12] (by decide +kernel) rfl
                have hAc := zw_AA (wc := [(g0, .inr (2, [.ref h0, .ref g1, .ref g2, .ref g3, .ref g4, .int (nI kd), .ref g5, .ref g6, .ref g7])), (h0, .inr (0, [.int (nI N), .ref h1, .ref h2, .ref h3, .ref h4, .ref h5, .ref h6])), (h1, .inl (E 0, 15, .inl hmv)), (h2, .inl (E 0, 15, .inl awv)), (h3, .inl (E 0, 30, .inl rvv)), (h4, .inl (E 0, 30, .inl sdv)), (h5, .inl (E 0, 30, .inl gmv)), (h6, .inl (E 0, 36, .inl cav)), (g1, .inl (E 0, 6, .inl xs)), (g2, .inl (E 0, 6, .inl ys)), (g3, .inl (E 1, 30, .inl bz)), (g4, .inl (E 0, 4, .inl rt))]) hD [1, 2, 3, 4, 5, 6, 7, 8, 9, 10, 11, 12] rfl
                refine zw_ci hAc hS (va_runV (As := [.int (nI 1)]) (rest := []) ⟨hx, hb, hml, hown, hts⟩ (c_X3_takeStep_1 l D E g0 g1 g2 g3 g4 g5 g6 g7 kd h0 h1 h2 h3 h4 h5 h6 N hmv awv rvv sdv gmv cav Gi Pi xs ys X Y bz B rt R (hpi) (hgr) (hbz) (hrt)) (cwV 1 hts gX7_step_X3_takeStep rfl rfl rfl (by decide +kernel) ⟨Nat.le_of_ble_eq_true rfl, Nat.le_of_ble_eq_true rfl⟩) (zw_V hK hPc hDc (ci := 2) (q0 := 0) rfl rfl) rfl rfl hl.1 rfl (lv_room (Nat.le_of_ble_eq_true rfl)) dX7_step_55 ⟨Nat.zero_le _, Nat.zero_le _⟩) (fun r_30 u_32 H locs hw_31 hP1 hD1 hk1 hS => ?_)
                obtain ⟨hm_33, aw_34, rv_35, sd_36, gm_37, ca_38⟩ := u_32
                try dsimp only at hw_31 hP1 hD1
                obtain ⟨hP, hD⟩ := zw_join (wr := [(x0, .inr (5, [.ref g0, .ref xk, .ref xt, .ref xx, .ref xp, .int ik]))]) (w1 := [(g0, .inr (2, [.ref h0, .ref g1, .ref g2, .ref g3, .ref g4, .int (nI kd), .ref g5, .ref g6, .ref g7])), (h0, .inr (0, [.int (nI N), .ref h1, .ref h2, .ref h3, .ref h4, .ref h5, .ref h6])), (h1, .inl (E 0, 15, .inl hm_33)), (h2, .inl (E 0, 15, .inl aw_34)), (h3, .inl (E 0, 30, .inl rv_35)), (h4, .inl (E 0, 30, .inl sd_36)), (h5, .inl (E 0, 30, .inl gm_37)), (h6, .inl (E 0, 36, .inl ca_38)), (g1, .inl (E 0, 6, .inl xs)), (g2, .inl (E 0, 6, .inl ys)), (g3, .inl (E 1, 30, .inl bz)), (g4, .inl (E 0, 4, .inl rt))]) (ws' := [(x0, .inr (5, [.ref g0, .ref xk, .ref xt, .ref xx, .ref xp, .int ik])), (g0, .inr (2, [.ref h0, .ref g1, .ref g2, .ref g3, .ref g4, .int (nI kd), .ref g5, .ref g6, .ref g7])), (h0, .inr (0, [.int (nI N), .ref h1, .ref h2, .ref h3, .ref h4, .ref h5, .ref h6])), (h1, .inl (E 0, 15, .inl hm_33)), (h2, .inl (E 0, 15, .inl aw_34)), (h3, .inl (E 0, 30, .inl rv_35)), (h4, .inl (E 0, 30, .inl sd_36)), (h5, .inl (E 0, 30, .inl gm_37)), (h6, .inl (E 0, 36, .inl ca_38)), (g1, .inl (E 0, 6, .inl xs)), (g2, .inl (E 0, 6, .inl ys)), (g3, .inl (E 1, 30, .inl bz)), (g4, .inl (E 0, 4, .inl rt))]) hP hD [1, 2, 3, 4, 5, 6, 7, 8, 9, 10, 11, 12] [0] [0, 1, 2, 3, 4, 5, 6, 7, 8, 9, 10, 11, 12] rfl rfl (by decide +kernel) (by decide +kernel) hAc hk1 hP1 hD1 (by decide +kernel) rfl
                clear hP1 hD1 hk1 hPc hDc hAc
                have hstep := hw_31
                refine lv_if_eq (tgt := 67) hx hb dX7_step_58 (by decide) (fun cn_39 => ?_) (fun cn_39 => ?_)
                · skip
                  obtain ⟨hno, -, hpf⟩ := Or.resolve_right hstep (fun ⟨a, b, _, q, _⟩ => absurd (q.symm.trans cn_39) (by decide))
                  have hst := hI.trans (zk_s1 hno)
                  refine lv_iload hx hb dX7_step_67 (lv_at hl 4 rfl) ?_
                  subst hQ; subst hAe
                  exact W.iret (v := nI i) hx hb hr (fun tz htz hWz => ⟨⟨nI i, (hm_33, aw_34, rv_35, sd_36, gm_37, ca_38), rfl, ⟨by simp only [cond_true, Bool.and_true, Bool.true_and, e1, e2, q1, q2, hdd, hst, Nat.zero_add], by simp only [cond_true, Bool.and_true, Bool.true_and, e1, e2, q1, q2, hdd, hst]; exact hpf⟩, by rw [htz]; exact hP, hD⟩, hS.F htz⟩) hS.2.2 dX7_step_69
                · skip
                  obtain ⟨a9, b9, hso, -, hpn⟩ := Or.resolve_left hstep (fun q => cn_39 q.2.1)
                  refine lv_iinc (v := nI (i + 1)) (lv' := [(4, .int (nI (i + 1))), (0, .ref x0), (1, .int (nI t)), (2, .int (nI u)), (3, .int (nI 1))]) hx hb dX7_step_61 hl (k := 4) rfl (nI_add _ _) (by decide) rfl (fun ls hl => ?_)
                  refine lv_goto (tgt := 44) hx hb dX7_step_64 (by decide) ?_
                  have hl : lv_has ls 5 [(0, .ref x0), (1, .int (nI t)), (2, .int (nI u)), (3, .int (nI 1)), (4, .int (nI (i + 1)))] := lv_sub hl [1, 2, 3, 4, 0] rfl
                  exact ih44 (i + 1) (zm_opG 1 Gi a9 b9) (zm_opP 1 Pi a9 b9) hm_33 aw_34 rv_35 sd_36 gm_37 ca_38 H locs ls (by omega) (by rw [hI, show u - i = (u - (i + 1)) + 1 from by omega, zm_steps_s hso]; exact zk_st _ _ _) (hpn) (by omega) hP hD hS hl
        · skip
          have e2 : zi 51 w = false := zi_f (zn_hi (n := 51) (zn_gt (n := 50) (by omega) (Int32.not_le.mp cn_4)) (by omega))
          refine lv_bipush (v := (-2)) hx hb dX7_step_19 (by rfl) ?_
          subst hQ; subst hAe
          exact W.iret (v := (-2)) hx hb hr (fun tz htz hWz => ⟨⟨(-2), (hm, aw, rv, sd, gm, ca), rfl, ⟨by first | (simp only [cond_true, cond_false, Bool.and_true, Bool.and_false, Bool.true_and, Bool.false_and, e1]; done) | (simp only [cond_true, cond_false, Bool.and_true, Bool.and_false, Bool.true_and, Bool.false_and, e1, e2]; done), by first | (simp only [cond_true, cond_false, Bool.and_true, Bool.and_false, Bool.true_and, Bool.false_and, e1]; exact hpl; done) | (simp only [cond_true, cond_false, Bool.and_true, Bool.and_false, Bool.true_and, Bool.false_and, e1, e2]; exact hpl; done)⟩, by rw [htz]; exact hP, hD⟩, hS.F htz⟩) hS.2.2 dX7_step_21

set_option maxHeartbeats 4000000 in
set_option maxRecDepth 100000 in
theorem c_X7_see (l : Launch) (D : va_G) (E : Nat → ClassId) (x0 : Nat) (xk : Nat) (xt : Nat) (xx : Nat) (xp : Nat) (ik : Int32) (g0 : Nat) (g1 : Nat) (g2 : Nat) (g3 : Nat) (g4 : Nat) (g5 : Nat) (g6 : Nat) (g7 : Nat) (kd : Nat) (h0 : Nat) (h1 : Nat) (h2 : Nat) (h3 : Nat) (h4 : Nat) (h5 : Nat) (h6 : Nat) (N : Nat) (hm : Nat → Int32) (aw : Nat → Int32) (rv : Nat → Int32) (sd : Nat → Int32) (gm : Nat → Int32) (ca : Nat → Int32) (G : Nat → Nat → Nat) (P : Nat → Nat → Nat) (s5 : Nat) (sn : Nat) (c5 : Nat → Int32) (sT : Nat → Nat) (sR : Nat → Nat) (sH : Nat → Nat) (v : Int32) (w : Int32) (b : Nat) (hpl : zm_pl N G P hm aw rv sd gm) (hse : zs_se N sn sT sR sH) (hsc : zm_sc sn sT sR sH c5) (hb2 : b < 2) : Met l yX7_see wsX7_see ({ frames := 2, cells := 0, slots := 0, locals := 45 }) (zw_P D E [.ref x0, .int v, .int w, .int (nI b)] [(x0, .inr (5, [.ref g0, .ref xk, .ref xt, .ref xx, .ref xp, .int ik])), (g0, .inr (2, [.ref h0, .ref g1, .ref g2, .ref g3, .ref g4, .int (nI kd), .ref g5, .ref g6, .ref g7])), (h0, .inr (0, [.int (nI N), .ref h1, .ref h2, .ref h3, .ref h4, .ref h5, .ref h6])), (h1, .inl (E 0, 15, .inl hm)), (h2, .inl (E 0, 15, .inl aw)), (h3, .inl (E 0, 30, .inl rv)), (h4, .inl (E 0, 30, .inl sd)), (h5, .inl (E 0, 30, .inl gm)), (h6, .inl (E 0, 36, .inl ca)), (g5, .inr (1, [.int (nI 6), .ref s5, .int (nI sn)])), (s5, .inl (E 0, 48, .inl c5))]) (zw_Qi D [(x0, .inr (5, [.ref g0, .ref xk, .ref xt, .ref xx, .ref xp, .int ik])), (g0, .inr (2, [.ref h0, .ref g1, .ref g2, .ref g3, .ref g4, .int (nI kd), .ref g5, .ref g6, .ref g7])), (h0, .inr (0, [.int (nI N), .ref h1, .ref h2, .ref h3, .ref h4, .ref h5, .ref h6])), (h1, .inl (E 0, 15, .inl hm)), (h2, .inl (E 0, 15, .inl aw)), (h3, .inl (E 0, 30, .inl rv)), (h4, .inl (E 0, 30, .inl sd)), (h5, .inl (E 0, 30, .inl gm)), (h6, .inl (E 0, 36, .inl ca)), (g5, .inr (1, [.int (nI 6), .ref s5, .int (nI sn)])), (s5, .inl (E 0, 48, .inl c5))] (fun zv (u : (Nat) × (Nat → Int32)) => zv = zo_see N sn v w ∧ u.1 = cond (decide (v = -1)) 0 (cond (zc_see N sn v w) (sn + 1) sn) ∧ zm_sc u.1 (cond (zc_see N sn v w) (zm_up sT sn (zq v)) sT) (cond (zc_see N sn v w) (zm_up sR sn (zq w)) sR) (cond (zc_see N sn v w) (zm_up sH sn b) sH) u.2) (fun (u : (Nat) × (Nat → Int32)) => [(x0, .inr (5, [.ref g0, .ref xk, .ref xt, .ref xx, .ref xp, .int ik])), (g0, .inr (2, [.ref h0, .ref g1, .ref g2, .ref g3, .ref g4, .int (nI kd), .ref g5, .ref g6, .ref g7])), (h0, .inr (0, [.int (nI N), .ref h1, .ref h2, .ref h3, .ref h4, .ref h5, .ref h6])), (h1, .inl (E 0, 15, .inl hm)), (h2, .inl (E 0, 15, .inl aw)), (h3, .inl (E 0, 30, .inl rv)), (h4, .inl (E 0, 30, .inl sd)), (h5, .inl (E 0, 30, .inl gm)), (h6, .inl (E 0, 36, .inl ca)), (g5, .inr (1, [.int (nI 6), .ref s5, .int (nI u.1)])), (s5, .inl (E 0, 48, .inl u.2))])) 0 0 (zw_A [(x0, .inr (5, [.ref g0, .ref xk, .ref xt, .ref xx, .ref xp, .int ik])), (g0, .inr (2, [.ref h0, .ref g1, .ref g2, .ref g3, .ref g4, .int (nI kd), .ref g5, .ref g6, .ref g7])), (h0, .inr (0, [.int (nI N), .ref h1, .ref h2, .ref h3, .ref h4, .ref h5, .ref h6])), (h1, .inl (E 0, 15, .inl hm)), (h2, .inl (E 0, 15, .inl aw)), (h3, .inl (E 0, 30, .inl rv)), (h4, .inl (E 0, 30, .inl sd)), (h5, .inl (E 0, 30, .inl gm)), (h6, .inl (E 0, 36, .inl ca)), (g5, .inr (1, [.int (nI 6), .ref s5, .int (nI sn)])), (s5, .inl (E 0, 48, .inl c5))]) := by
  refine Met.ofW (cc := cX7_see) (maxL := 4) (ret := (some .int)) (by decide) rfl ?_
  intro p e s m args below meth c s₁ Bz hml hv
  obtain ⟨rfl, hP, hK, hD0⟩ := hv
  have hx := Bz.exec
  have hb := Bz.bytes
  have hr := Bz.returns
  have hts := atoms_spec (ws := wsX7_see) Bz.pre
  have hown : s.vm.findClass RX7 = some m.cls := findClass_of_methodNamed Bz.named
  have hlocks := Bz.notSynchronized
  have hP : va_P D vwCl [(x0, .inr (5, [.ref g0, .ref xk, .ref xt, .ref xx, .ref xp, .int ik])), (g0, .inr (2, [.ref h0, .ref g1, .ref g2, .ref g3, .ref g4, .int (nI kd), .ref g5, .ref g6, .ref g7])), (h0, .inr (0, [.int (nI N), .ref h1, .ref h2, .ref h3, .ref h4, .ref h5, .ref h6])), (h1, .inl (E 0, 15, .inl hm)), (h2, .inl (E 0, 15, .inl aw)), (h3, .inl (E 0, 30, .inl rv)), (h4, .inl (E 0, 30, .inl sd)), (h5, .inl (E 0, 30, .inl gm)), (h6, .inl (E 0, 36, .inl ca)), (g5, .inr (1, [.int (nI 6), .ref s5, .int (nI sn)])), (s5, .inl (E 0, 48, .inl c5))] s.heap := hP
  obtain ⟨A, hAe⟩ : ∃ A : Nat → Prop, A = zw_A [(x0, .inr (5, [.ref g0, .ref xk, .ref xt, .ref xx, .ref xp, .int ik])), (g0, .inr (2, [.ref h0, .ref g1, .ref g2, .ref g3, .ref g4, .int (nI kd), .ref g5, .ref g6, .ref g7])), (h0, .inr (0, [.int (nI N), .ref h1, .ref h2, .ref h3, .ref h4, .ref h5, .ref h6])), (h1, .inl (E 0, 15, .inl hm)), (h2, .inl (E 0, 15, .inl aw)), (h3, .inl (E 0, 30, .inl rv)), (h4, .inl (E 0, 30, .inl sd)), (h5, .inl (E 0, 30, .inl gm)), (h6, .inl (E 0, 36, .inl ca)), (g5, .inr (1, [.int (nI 6), .ref s5, .int (nI sn)])), (s5, .inl (E 0, 48, .inl c5))] := ⟨_, rfl⟩
  have hD : va_D A [(x0, .inr (5, [.ref g0, .ref xk, .ref xt, .ref xx, .ref xp, .int ik])), (g0, .inr (2, [.ref h0, .ref g1, .ref g2, .ref g3, .ref g4, .int (nI kd), .ref g5, .ref g6, .ref g7])), (h0, .inr (0, [.int (nI N), .ref h1, .ref h2, .ref h3, .ref h4, .ref h5, .ref h6])), (h1, .inl (E 0, 15, .inl hm)), (h2, .inl (E 0, 15, .inl aw)), (h3, .inl (E 0, 30, .inl rv)), (h4, .inl (E 0, 30, .inl sd)), (h5, .inl (E 0, 30, .inl gm)), (h6, .inl (E 0, 36, .inl ca)), (g5, .inr (1, [.int (nI 6), .ref s5, .int (nI sn)])), (s5, .inl (E 0, 48, .inl c5))] := hAe ▸ zw_own hD0
  have hS : va_S A s.heap s.heap [] := va_S.rf
  have hl := lv_entry ([.ref x0, .int v, .int w, .int (nI b)]) (n := 4) (Nat.le_of_ble_eq_true rfl)
  rw [lg_entry_eq]
  generalize (lg_sl ([.ref x0, .int v, .int w, .int (nI b)]) ++ List.replicate (4 - (lg_sl ([.ref x0, .int v, .int w, .int (nI b)])).length) Slot.unset).toArray = ls at hl ⊢
  have hl : lv_has ls 4 [(0, .ref x0), (1, .int v), (2, .int w), (3, .int (nI b))] := hl
  refine zr_nQ (fun Q hQ => ?_)
  have hN := hpl.1.1
  have hs0 := hse.1
  refine lv_iload_n hx hb dX7_see_0 rfl (lv_at hl 1 rfl) ?_
  refine lv_iconst (v := (-1)) hx hb dX7_see_1 (by rfl) ?_
  refine lv_icmp_ne (tgt := 17) hx hb dX7_see_2 (by decide) (fun cn_1 => ?_) (fun cn_1 => ?_)
  · skip
    have d1 : decide (v = -1) = false := decide_eq_false cn_1
    refine lv_aload_n hx hb dX7_see_17 rfl (lv_at hl 0 rfl) ?_
    refine va_get (D := D) (ci := 5) (v := .ref g0) (C := RX7) (T := TX7) (N := 6) hx hb hts (by decide +kernel) hown hK.1 hP 0 rfl rfl 0 (by decide) (hts (.fieldLink RX7 12 "HomeRounds" "now" "LHomeRounds$Setting;") (by decide +kernel)) (fun _ h9 => h9) rfl dX7_see_18 ?_
    refine va_get (D := D) (ci := 2) (v := .ref h0) (C := RX3) (T := TX3) (N := 9) hx hb hts (by decide +kernel) hown hK.1 hP 1 rfl rfl 0 (by decide) (hts (.fieldLink RX7 38 "HomeRounds$Setting" "plan" "LHomeRounds$Plan;") (by decide +kernel)) (fun _ h9 => h9) rfl dX7_see_21 ?_
    refine lv_iload_n hx hb dX7_see_24 rfl (lv_at hl 1 rfl) ?_
    refine zr_ci hP hS (va_runV (As := [.int v]) (rest := []) ⟨hx, hb, hml, hown, hts⟩ (c_X1_hasTeam l D E h0 h1 h2 h3 h4 h5 h6 N hm aw rv sd gm ca v (hN)) (cwV 1 hts gX7_see_X1_hasTeam rfl rfl rfl (by decide +kernel) ⟨Nat.le_of_ble_eq_true rfl, Nat.le_of_ble_eq_true rfl⟩) (zr_V hK (hP.sub (ws' := [(h0, .inr (0, [.int (nI N), .ref h1, .ref h2, .ref h3, .ref h4, .ref h5, .ref h6])), (h1, .inl (E 0, 15, .inl hm)), (h2, .inl (E 0, 15, .inl aw)), (h3, .inl (E 0, 30, .inl rv)), (h4, .inl (E 0, 30, .inl sd)), (h5, .inl (E 0, 30, .inl gm)), (h6, .inl (E 0, 36, .inl ca))]) [2, 3, 4, 5, 6, 7, 8] rfl) (ci := 0) (q0 := 0) rfl rfl) rfl rfl hl.1 rfl (lv_room (Nat.le_of_ble_eq_true rfl)) dX7_see_25 ⟨Nat.zero_le _, Nat.zero_le _⟩) (fun r_2 H locs hw_3 hP hS => ?_)
    rcases hw_3 with ⟨rfl, hw_3⟩ | ⟨rfl, hw_3⟩
    · skip
      obtain ⟨t, ht, v_e⟩ := hw_3
      have e1 : zi N v = true := v_e ▸ zi_t ht (by omega)
      have q1 : zq v = t := v_e ▸ zq_t (by omega)
      rw [v_e] at hl
      refine zr_ti (y := nI 1) rfl ?_
      refine lv_if_ne (tgt := 33) hx hb dX7_see_28 (by decide) (fun cn_4 => ?_) (fun cn_4 => ?_)
      · skip
        refine lv_iload_n hx hb dX7_see_33 rfl (lv_at hl 2 rfl) ?_
        refine lv_if_lt (tgt := 43) hx hb dX7_see_34 (by decide) (fun cn_5 => ?_) (fun cn_5 => ?_)
        · skip
          have e2 : zi 10 w = false := zi_f (zn_lo (n := 10) cn_5 (by omega))
          refine lv_bipush (v := (-2)) hx hb dX7_see_43 (by rfl) ?_
          subst hQ; subst hAe
          exact W.iret (v := (-2)) hx hb hr (fun tz htz hWz => ⟨⟨(-2), (sn, c5), rfl, ⟨by unfold zo_see; simp only [cond_true, cond_false, Bool.and_true, Bool.and_false, Bool.true_and, Bool.false_and, d1, e1, e2], by unfold zc_see; simp only [cond_true, cond_false, Bool.and_true, Bool.and_false, Bool.true_and, Bool.false_and, d1, e1, e2], by unfold zc_see; simp only [cond_true, cond_false, Bool.and_true, Bool.and_false, Bool.true_and, Bool.false_and, d1, e1, e2]; exact hsc⟩, by rw [htz]; exact hP, hD⟩, hS.F htz⟩) hS.2.2 dX7_see_45
        · skip
          have gz2 := cn_5
          refine lv_iload_n hx hb dX7_see_37 rfl (lv_at hl 2 rfl) ?_
          refine lv_bipush (v := nI 10) hx hb dX7_see_38 (by rfl) ?_
          refine lv_icmp_lt (tgt := 46) hx hb dX7_see_40 (by decide) (fun cn_6 => ?_) (fun cn_6 => ?_)
          · skip
            obtain ⟨u, hu, w_e⟩ := zn_in (n := 10) gz2 (Int32.not_le.mpr cn_6) (by omega)
            have e2 : zi 10 w = true := w_e ▸ zi_t hu (by omega)
            have q2 : zq w = u := w_e ▸ zq_t (by omega)
            rw [w_e] at hl
            refine lv_aload_n hx hb dX7_see_46 rfl (lv_at hl 0 rfl) ?_
            refine va_get (D := D) (ci := 5) (v := .ref g0) (C := RX7) (T := TX7) (N := 6) hx hb hts (by decide +kernel) hown hK.1 hP 0 rfl rfl 0 (by decide) (hts (.fieldLink RX7 12 "HomeRounds" "now" "LHomeRounds$Setting;") (by decide +kernel)) (fun _ h9 => h9) rfl dX7_see_47 ?_
            refine va_get (D := D) (ci := 2) (v := .ref g5) (C := RX3) (T := TX3) (N := 9) hx hb hts (by decide +kernel) hown hK.1 hP 1 rfl rfl 6 (by decide) (hts (.fieldLink RX7 235 "HomeRounds$Setting" "seen" "LHomeRounds$Rows;") (by decide +kernel)) (fun _ h9 => h9) rfl dX7_see_50 ?_
            refine zr_ci hP hS (va_runV (As := []) (rest := []) ⟨hx, hb, hml, hown, hts⟩ (c_X2_isFull l D E g5 s5 6 48 sn c5 (by omega) (by omega)) (cwV 0 hts gX7_see_X2_isFull rfl rfl rfl (by decide +kernel) ⟨Nat.le_of_ble_eq_true rfl, Nat.le_of_ble_eq_true rfl⟩) (zr_V hK (hP.sub (ws' := [(g5, .inr (1, [.int (nI 6), .ref s5, .int (nI sn)])), (s5, .inl (E 0, 48, .inl c5))]) [9, 10] rfl) (ci := 1) (q0 := 0) rfl rfl) rfl rfl hl.1 rfl (lv_room (Nat.le_of_ble_eq_true rfl)) dX7_see_53 ⟨Nat.zero_le _, Nat.zero_le _⟩) (fun r_7 H locs hw_8 hP hS => ?_)
            rcases hw_8 with ⟨rfl, hw_8⟩ | ⟨rfl, hw_8⟩
            · skip
              have e3 : decide (sn < 6) = false := decide_eq_false (by omega)
              refine zr_ti (y := nI 1) rfl ?_
              refine lv_if_eq (tgt := 62) hx hb dX7_see_56 (by decide) (fun cn_9 => ?_) (fun cn_9 => ?_)
              · skip
                exact absurd cn_9 (by decide)
              · skip
                refine lv_bipush (v := (-4)) hx hb dX7_see_59 (by rfl) ?_
                subst hQ; subst hAe
                exact W.iret (v := (-4)) hx hb hr (fun tz htz hWz => ⟨⟨(-4), (sn, c5), rfl, ⟨by unfold zo_see; simp only [cond_true, cond_false, Bool.and_true, Bool.and_false, Bool.true_and, Bool.false_and, d1, e1, e2, e3], by unfold zc_see; simp only [cond_true, cond_false, Bool.and_true, Bool.and_false, Bool.true_and, Bool.false_and, d1, e1, e2, e3], by unfold zc_see; simp only [cond_true, cond_false, Bool.and_true, Bool.and_false, Bool.true_and, Bool.false_and, d1, e1, e2, e3]; exact hsc⟩, by rw [htz]; exact hP, hD⟩, hS.F htz⟩) hS.2.2 dX7_see_61
            · skip
              have e3 : decide (sn < 6) = true := decide_eq_true (by omega)
              refine zr_ti (y := nI 0) rfl ?_
              refine lv_if_eq (tgt := 62) hx hb dX7_see_56 (by decide) (fun cn_10 => ?_) (fun cn_10 => ?_)
              · skip
                refine lv_aload_n hx hb dX7_see_62 rfl (lv_at hl 0 rfl) ?_
                refine va_get (D := D) (ci := 5) (v := .ref g0) (C := RX7) (T := TX7) (N := 6) hx hb hts (by decide +kernel) hown hK.1 hP 0 rfl rfl 0 (by decide) (hts (.fieldLink RX7 12 "HomeRounds" "now" "LHomeRounds$Setting;") (by decide +kernel)) (fun _ h9 => h9) rfl dX7_see_63 ?_
                refine va_get (D := D) (ci := 2) (v := .ref g5) (C := RX3) (T := TX3) (N := 9) hx hb hts (by decide +kernel) hown hK.1 hP 1 rfl rfl 6 (by decide) (hts (.fieldLink RX7 235 "HomeRounds$Setting" "seen" "LHomeRounds$Rows;") (by decide +kernel)) (fun _ h9 => h9) rfl dX7_see_66 ?_
                refine lv_iload_n hx hb dX7_see_69 rfl (lv_at hl 1 rfl) ?_
                refine lv_iload_n hx hb dX7_see_70 rfl (lv_at hl 2 rfl) ?_
                refine lv_iload_n hx hb dX7_see_71 rfl (lv_at hl 3 rfl) ?_
                refine lv_if_eq (tgt := 79) hx hb dX7_see_72 (by decide) (fun cn_11 => ?_) (fun cn_11 => ?_)
                · skip
                  have cn_11 : b = 0 := (nI_eq (a := b) (b := 0) (by omega) (by omega)).mp cn_11
                  have hb0 : 0 = b := by omega
                  refine lv_iconst (v := nI 0) hx hb dX7_see_79 (by rfl) ?_
                  refine lv_iconst (v := nI 0) hx hb dX7_see_80 (by rfl) ?_
                  have hPc := hP.sub (ws' := [(g5, .inr (1, [.int (nI 6), .ref s5, .int (nI sn)])), (s5, .inl (E 0, 48, .inl c5))]) [9, 10] rfl
                  have hDc := hD.sub (ws' := [(g5, .inr (1, [.int (nI 6), .ref s5, .int (nI sn)])), (s5, .inl (E 0, 48, .inl c5))]) [9, 10] (by decide +kernel) rfl
                  have hAc := zw_AA (wc := [(g5, .inr (1, [.int (nI 6), .ref s5, .int (nI sn)])), (s5, .inl (E 0, 48, .inl c5))]) hD [9, 10] rfl
                  refine zw_cv hAc hS (va_runV (As := [.int (nI t), .int (nI u), .int (nI 0), .int (nI 0)]) (rest := []) ⟨hx, hb, hml, hown, hts⟩ (c_X2_add l D E g5 s5 6 48 sn c5 (nI t) (nI u) (nI 0) (nI 0) (by omega) (by omega) (by omega)) (cwV 4 hts gX7_see_X2_add rfl rfl rfl (by decide +kernel) ⟨Nat.le_of_ble_eq_true rfl, Nat.le_of_ble_eq_true rfl⟩) (zw_V hK hPc hDc (ci := 1) (q0 := 0) rfl rfl) rfl rfl hl.1 rfl (lv_room (Nat.le_of_ble_eq_true rfl)) dX7_see_81 ⟨Nat.zero_le _, Nat.zero_le _⟩) (fun u_14 H locs hw_13 hP1 hD1 hk1 hS => ?_)
                  obtain ⟨hP, hD⟩ := zw_join (wr := [(x0, .inr (5, [.ref g0, .ref xk, .ref xt, .ref xx, .ref xp, .int ik])), (g0, .inr (2, [.ref h0, .ref g1, .ref g2, .ref g3, .ref g4, .int (nI kd), .ref g5, .ref g6, .ref g7])), (h0, .inr (0, [.int (nI N), .ref h1, .ref h2, .ref h3, .ref h4, .ref h5, .ref h6])), (h1, .inl (E 0, 15, .inl hm)), (h2, .inl (E 0, 15, .inl aw)), (h3, .inl (E 0, 30, .inl rv)), (h4, .inl (E 0, 30, .inl sd)), (h5, .inl (E 0, 30, .inl gm)), (h6, .inl (E 0, 36, .inl ca))]) (w1 := [(g5, .inr (1, [.int (nI 6), .ref s5, .int (nI (sn + 1))])), (s5, .inl (E 0, 48, .inl (upd (upd (upd (upd c5 (sn * 4) (nI t)) (sn * 4 + 1) (nI u)) (sn * 4 + 2) (nI 0)) (sn * 4 + 3) (nI 0))))]) (ws' := [(x0, .inr (5, [.ref g0, .ref xk, .ref xt, .ref xx, .ref xp, .int ik])), (g0, .inr (2, [.ref h0, .ref g1, .ref g2, .ref g3, .ref g4, .int (nI kd), .ref g5, .ref g6, .ref g7])), (h0, .inr (0, [.int (nI N), .ref h1, .ref h2, .ref h3, .ref h4, .ref h5, .ref h6])), (h1, .inl (E 0, 15, .inl hm)), (h2, .inl (E 0, 15, .inl aw)), (h3, .inl (E 0, 30, .inl rv)), (h4, .inl (E 0, 30, .inl sd)), (h5, .inl (E 0, 30, .inl gm)), (h6, .inl (E 0, 36, .inl ca)), (g5, .inr (1, [.int (nI 6), .ref s5, .int (nI (sn + 1))])), (s5, .inl (E 0, 48, .inl (upd (upd (upd (upd c5 (sn * 4) (nI t)) (sn * 4 + 1) (nI u)) (sn * 4 + 2) (nI 0)) (sn * 4 + 3) (nI 0))))]) hP hD [9, 10] [0, 1, 2, 3, 4, 5, 6, 7, 8] [0, 1, 2, 3, 4, 5, 6, 7, 8, 9, 10] rfl rfl (by decide +kernel) (by decide +kernel) hAc hk1 hP1 hD1 (by decide +kernel) rfl
                  clear hP1 hD1 hk1 hPc hDc hAc
                  refine lv_aload_n hx hb dX7_see_84 rfl (lv_at hl 0 rfl) ?_
                  refine va_get (D := D) (ci := 5) (v := .ref g0) (C := RX7) (T := TX7) (N := 6) hx hb hts (by decide +kernel) hown hK.1 hP 0 rfl rfl 0 (by decide) (hts (.fieldLink RX7 12 "HomeRounds" "now" "LHomeRounds$Setting;") (by decide +kernel)) (fun _ h9 => h9) rfl dX7_see_85 ?_
                  refine va_get (D := D) (ci := 2) (v := .ref g5) (C := RX3) (T := TX3) (N := 9) hx hb hts (by decide +kernel) hown hK.1 hP 1 rfl rfl 6 (by decide) (hts (.fieldLink RX7 235 "HomeRounds$Setting" "seen" "LHomeRounds$Rows;") (by decide +kernel)) (fun _ h9 => h9) rfl dX7_see_88 ?_
                  refine va_get (D := D) (ci := 1) (v := .int (nI (sn + 1))) (C := RX2) (T := TX2) (N := 3) hx hb hts (by decide +kernel) hown hK.1 hP 9 rfl rfl 2 (by decide) (hts (.fieldLink RX7 119 "HomeRounds$Rows" "size" "I") (by decide +kernel)) (fun _ h9 => h9) rfl dX7_see_91 ?_
                  subst hQ; subst hAe
                  exact W.iret (v := nI (sn + 1)) hx hb hr (fun tz htz hWz => ⟨⟨nI (sn + 1), (sn + 1, upd (upd (upd (upd c5 (sn * 4) (nI t)) (sn * 4 + 1) (nI u)) (sn * 4 + 2) (nI 0)) (sn * 4 + 3) (nI 0)), rfl, ⟨by unfold zo_see; simp only [cond_true, cond_false, Bool.and_true, Bool.and_false, Bool.true_and, Bool.false_and, d1, e1, e2, e3, q1, q2, ← hb0], by unfold zc_see; simp only [cond_true, cond_false, Bool.and_true, Bool.and_false, Bool.true_and, Bool.false_and, d1, e1, e2, e3, q1, q2, ← hb0], by unfold zc_see; simp only [cond_true, cond_false, Bool.and_true, Bool.and_false, Bool.true_and, Bool.false_and, d1, e1, e2, e3, q1, q2, ← hb0]; exact (zm_sc_up hsc)⟩, by rw [htz]; exact hP, hD⟩, hS.F htz⟩) hS.2.2 dX7_see_94
                · skip
                  have cn_11 : ¬ (b = 0) := fun hz => cn_11 ((nI_eq (a := b) (b := 0) (by omega) (by omega)).mpr hz)
                  have hb0 : 1 = b := by omega
                  refine lv_iconst (v := nI 1) hx hb dX7_see_75 (by rfl) ?_
                  refine lv_goto (tgt := 80) hx hb dX7_see_76 (by decide) ?_
                  refine lv_iconst (v := nI 0) hx hb dX7_see_80 (by rfl) ?_
                  have hPc := hP.sub (ws' := [(g5, .inr (1, [.int (nI 6), .ref s5, .int (nI sn)])), (s5, .inl (E 0, 48, .inl c5))]) [9, 10] rfl
                  have hDc := hD.sub (ws' := [(g5, .inr (1, [.int (nI 6), .ref s5, .int (nI sn)])), (s5, .inl (E 0, 48, .inl c5))]) [9, 10] (by decide +kernel) rfl
                  have hAc := zw_AA (wc := [(g5, .inr (1, [.int (nI 6), .ref s5, .int (nI sn)])), (s5, .inl (E 0, 48, .inl c5))]) hD [9, 10] rfl
                  refine zw_cv hAc hS (va_runV (As := [.int (nI t), .int (nI u), .int (nI 1), .int (nI 0)]) (rest := []) ⟨hx, hb, hml, hown, hts⟩ (c_X2_add l D E g5 s5 6 48 sn c5 (nI t) (nI u) (nI 1) (nI 0) (by omega) (by omega) (by omega)) (cwV 4 hts gX7_see_X2_add rfl rfl rfl (by decide +kernel) ⟨Nat.le_of_ble_eq_true rfl, Nat.le_of_ble_eq_true rfl⟩) (zw_V hK hPc hDc (ci := 1) (q0 := 0) rfl rfl) rfl rfl hl.1 rfl (lv_room (Nat.le_of_ble_eq_true rfl)) dX7_see_81 ⟨Nat.zero_le _, Nat.zero_le _⟩) (fun u_17 H locs hw_16 hP1 hD1 hk1 hS => ?_)
                  obtain ⟨hP, hD⟩ := zw_join (wr := [(x0, .inr (5, [.ref g0, .ref xk, .ref xt, .ref xx, .ref xp, .int ik])), (g0, .inr (2, [.ref h0, .ref g1, .ref g2, .ref g3, .ref g4, .int (nI kd), .ref g5, .ref g6, .ref g7])), (h0, .inr (0, [.int (nI N), .ref h1, .ref h2, .ref h3, .ref h4, .ref h5, .ref h6])), (h1, .inl (E 0, 15, .inl hm)), (h2, .inl (E 0, 15, .inl aw)), (h3, .inl (E 0, 30, .inl rv)), (h4, .inl (E 0, 30, .inl sd)), (h5, .inl (E 0, 30, .inl gm)), (h6, .inl (E 0, 36, .inl ca))]) (w1 := [(g5, .inr (1, [.int (nI 6), .ref s5, .int (nI (sn + 1))])), (s5, .inl (E 0, 48, .inl (upd (upd (upd (upd c5 (sn * 4) (nI t)) (sn * 4 + 1) (nI u)) (sn * 4 + 2) (nI 1)) (sn * 4 + 3) (nI 0))))]) (ws' := [(x0, .inr (5, [.ref g0, .ref xk, .ref xt, .ref xx, .ref xp, .int ik])), (g0, .inr (2, [.ref h0, .ref g1, .ref g2, .ref g3, .ref g4, .int (nI kd), .ref g5, .ref g6, .ref g7])), (h0, .inr (0, [.int (nI N), .ref h1, .ref h2, .ref h3, .ref h4, .ref h5, .ref h6])), (h1, .inl (E 0, 15, .inl hm)), (h2, .inl (E 0, 15, .inl aw)), (h3, .inl (E 0, 30, .inl rv)), (h4, .inl (E 0, 30, .inl sd)), (h5, .inl (E 0, 30, .inl gm)), (h6, .inl (E 0, 36, .inl ca)), (g5, .inr (1, [.int (nI 6), .ref s5, .int (nI (sn + 1))])), (s5, .inl (E 0, 48, .inl (upd (upd (upd (upd c5 (sn * 4) (nI t)) (sn * 4 + 1) (nI u)) (sn * 4 + 2) (nI 1)) (sn * 4 + 3) (nI 0))))]) hP hD [9, 10] [0, 1, 2, 3, 4, 5, 6, 7, 8] [0, 1, 2, 3, 4, 5, 6, 7, 8, 9, 10] rfl rfl (by decide +kernel) (by decide +kernel) hAc hk1 hP1 hD1 (by decide +kernel) rfl
                  clear hP1 hD1 hk1 hPc hDc hAc
                  refine lv_aload_n hx hb dX7_see_84 rfl (lv_at hl 0 rfl) ?_
                  refine va_get (D := D) (ci := 5) (v := .ref g0) (C := RX7) (T := TX7) (N := 6) hx hb hts (by decide +kernel) hown hK.1 hP 0 rfl rfl 0 (by decide) (hts (.fieldLink RX7 12 "HomeRounds" "now" "LHomeRounds$Setting;") (by decide +kernel)) (fun _ h9 => h9) rfl dX7_see_85 ?_
                  refine va_get (D := D) (ci := 2) (v := .ref g5) (C := RX3) (T := TX3) (N := 9) hx hb hts (by decide +kernel) hown hK.1 hP 1 rfl rfl 6 (by decide) (hts (.fieldLink RX7 235 "HomeRounds$Setting" "seen" "LHomeRounds$Rows;") (by decide +kernel)) (fun _ h9 => h9) rfl dX7_see_88 ?_
                  refine va_get (D := D) (ci := 1) (v := .int (nI (sn + 1))) (C := RX2) (T := TX2) (N := 3) hx hb hts (by decide +kernel) hown hK.1 hP 9 rfl rfl 2 (by decide) (hts (.fieldLink RX7 119 "HomeRounds$Rows" "size" "I") (by decide +kernel)) (fun _ h9 => h9) rfl dX7_see_91 ?_
                  subst hQ; subst hAe
                  exact W.iret (v := nI (sn + 1)) hx hb hr (fun tz htz hWz => ⟨⟨nI (sn + 1), (sn + 1, upd (upd (upd (upd c5 (sn * 4) (nI t)) (sn * 4 + 1) (nI u)) (sn * 4 + 2) (nI 1)) (sn * 4 + 3) (nI 0)), rfl, ⟨by unfold zo_see; simp only [cond_true, cond_false, Bool.and_true, Bool.and_false, Bool.true_and, Bool.false_and, d1, e1, e2, e3, q1, q2, ← hb0], by unfold zc_see; simp only [cond_true, cond_false, Bool.and_true, Bool.and_false, Bool.true_and, Bool.false_and, d1, e1, e2, e3, q1, q2, ← hb0], by unfold zc_see; simp only [cond_true, cond_false, Bool.and_true, Bool.and_false, Bool.true_and, Bool.false_and, d1, e1, e2, e3, q1, q2, ← hb0]; exact (zm_sc_up hsc)⟩, by rw [htz]; exact hP, hD⟩, hS.F htz⟩) hS.2.2 dX7_see_94
              · skip
                exact absurd cn_10 (by decide)
          · skip
            have e2 : zi 10 w = false := zi_f (zn_hi (n := 10) (Int32.not_lt.mp cn_6) (by omega))
            refine lv_bipush (v := (-2)) hx hb dX7_see_43 (by rfl) ?_
            subst hQ; subst hAe
            exact W.iret (v := (-2)) hx hb hr (fun tz htz hWz => ⟨⟨(-2), (sn, c5), rfl, ⟨by unfold zo_see; simp only [cond_true, cond_false, Bool.and_true, Bool.and_false, Bool.true_and, Bool.false_and, d1, e1, e2], by unfold zc_see; simp only [cond_true, cond_false, Bool.and_true, Bool.and_false, Bool.true_and, Bool.false_and, d1, e1, e2], by unfold zc_see; simp only [cond_true, cond_false, Bool.and_true, Bool.and_false, Bool.true_and, Bool.false_and, d1, e1, e2]; exact hsc⟩, by rw [htz]; exact hP, hD⟩, hS.F htz⟩) hS.2.2 dX7_see_45
      · skip
        exact absurd cn_4 (by decide)
    · skip
      have e1 : zi N v = false := zi_f hw_3
      refine zr_ti (y := nI 0) rfl ?_
      refine lv_if_ne (tgt := 33) hx hb dX7_see_28 (by decide) (fun cn_18 => ?_) (fun cn_18 => ?_)
      · skip
        exact absurd cn_18 (by decide)
      · skip
        refine lv_iconst (v := (-1)) hx hb dX7_see_31 (by rfl) ?_
        subst hQ; subst hAe
        exact W.iret (v := (-1)) hx hb hr (fun tz htz hWz => ⟨⟨(-1), (sn, c5), rfl, ⟨by unfold zo_see; simp only [cond_true, cond_false, Bool.and_true, Bool.and_false, Bool.true_and, Bool.false_and, d1, e1], by unfold zc_see; simp only [cond_true, cond_false, Bool.and_true, Bool.and_false, Bool.true_and, Bool.false_and, d1, e1], by unfold zc_see; simp only [cond_true, cond_false, Bool.and_true, Bool.and_false, Bool.true_and, Bool.false_and, d1, e1]; exact hsc⟩, by rw [htz]; exact hP, hD⟩, hS.F htz⟩) hS.2.2 dX7_see_32
  · skip
    have d1 : decide (v = -1) = true := decide_eq_true cn_1
    have e1 : zi N v = false := zi_m1 (by omega) cn_1
    refine lv_aload_n hx hb dX7_see_5 rfl (lv_at hl 0 rfl) ?_
    refine va_get (D := D) (ci := 5) (v := .ref g0) (C := RX7) (T := TX7) (N := 6) hx hb hts (by decide +kernel) hown hK.1 hP 0 rfl rfl 0 (by decide) (hts (.fieldLink RX7 12 "HomeRounds" "now" "LHomeRounds$Setting;") (by decide +kernel)) (fun _ h9 => h9) rfl dX7_see_6 ?_
    refine va_get (D := D) (ci := 2) (v := .ref g5) (C := RX3) (T := TX3) (N := 9) hx hb hts (by decide +kernel) hown hK.1 hP 1 rfl rfl 6 (by decide) (hts (.fieldLink RX7 235 "HomeRounds$Setting" "seen" "LHomeRounds$Rows;") (by decide +kernel)) (fun _ h9 => h9) rfl dX7_see_9 ?_
    have hPc := hP.sub (ws' := [(g5, .inr (1, [.int (nI 6), .ref s5, .int (nI sn)])), (s5, .inl (E 0, 48, .inl c5))]) [9, 10] rfl
    have hDc := hD.sub (ws' := [(g5, .inr (1, [.int (nI 6), .ref s5, .int (nI sn)])), (s5, .inl (E 0, 48, .inl c5))]) [9, 10] (by decide +kernel) rfl
    have hAc := zw_AA (wc := [(g5, .inr (1, [.int (nI 6), .ref s5, .int (nI sn)])), (s5, .inl (E 0, 48, .inl c5))]) hD [9, 10] rfl
    refine zw_cv hAc hS (va_runV (As := []) (rest := []) ⟨hx, hb, hml, hown, hts⟩ (c_X2_empty l D E g5 s5 6 48 sn c5 ) (cwV 0 hts gX7_see_X2_empty rfl rfl rfl (by decide +kernel) ⟨Nat.le_of_ble_eq_true rfl, Nat.le_of_ble_eq_true rfl⟩) (zw_V hK hPc hDc (ci := 1) (q0 := 0) rfl rfl) rfl rfl hl.1 rfl (lv_room (Nat.le_of_ble_eq_true rfl)) dX7_see_12 ⟨Nat.zero_le _, Nat.zero_le _⟩) (fun u_21 H locs hw_20 hP1 hD1 hk1 hS => ?_)
    obtain ⟨hP, hD⟩ := zw_join (wr := [(x0, .inr (5, [.ref g0, .ref xk, .ref xt, .ref xx, .ref xp, .int ik])), (g0, .inr (2, [.ref h0, .ref g1, .ref g2, .ref g3, .ref g4, .int (nI kd), .ref g5, .ref g6, .ref g7])), (h0, .inr (0, [.int (nI N), .ref h1, .ref h2, .ref h3, .ref h4, .ref h5, .ref h6])), (h1, .inl (E 0, 15, .inl hm)), (h2, .inl (E 0, 15, .inl aw)), (h3, .inl (E 0, 30, .inl rv)), (h4, .inl (E 0, 30, .inl sd)), (h5, .inl (E 0, 30, .inl gm)), (h6, .inl (E 0, 36, .inl ca))]) (w1 := [(g5, .inr (1, [.int (nI 6), .ref s5, .int (nI 0)])), (s5, .inl (E 0, 48, .inl c5))]) (ws' := [(x0, .inr (5, [.ref g0, .ref xk, .ref xt, .ref xx, .ref xp, .int ik])), (g0, .inr (2, [.ref h0, .ref g1, .ref g2, .ref g3, .ref g4, .int (nI kd), .ref g5, .ref g6, .ref g7])), (h0, .inr (0, [.int (nI N), .ref h1, .ref h2, .ref h3, .ref h4, .ref h5, .ref h6])), (h1, .inl (E 0, 15, .inl hm)), (h2, .inl (E 0, 15, .inl aw)), (h3, .inl (E 0, 30, .inl rv)), (h4, .inl (E 0, 30, .inl sd)), (h5, .inl (E 0, 30, .inl gm)), (h6, .inl (E 0, 36, .inl ca)), (g5, .inr (1, [.int (nI 6), .ref s5, .int (nI 0)])), (s5, .inl (E 0, 48, .inl c5))]) hP hD [9, 10] [0, 1, 2, 3, 4, 5, 6, 7, 8] [0, 1, 2, 3, 4, 5, 6, 7, 8, 9, 10] rfl rfl (by decide +kernel) (by decide +kernel) hAc hk1 hP1 hD1 (by decide +kernel) rfl
    clear hP1 hD1 hk1 hPc hDc hAc
    refine lv_iconst (v := nI 0) hx hb dX7_see_15 (by rfl) ?_
    subst hQ; subst hAe
    exact W.iret (v := nI 0) hx hb hr (fun tz htz hWz => ⟨⟨nI 0, (0, c5), rfl, ⟨by unfold zo_see; simp only [cond_true, cond_false, Bool.and_true, Bool.and_false, Bool.true_and, Bool.false_and, d1, e1], by unfold zc_see; simp only [cond_true, cond_false, Bool.and_true, Bool.and_false, Bool.true_and, Bool.false_and, d1, e1], by unfold zc_see; simp only [cond_true, cond_false, Bool.and_true, Bool.and_false, Bool.true_and, Bool.false_and, d1, e1]; exact (fun k hk => absurd hk (Nat.not_lt_zero _))⟩, by rw [htz]; exact hP, hD⟩, hS.F htz⟩) hS.2.2 dX7_see_16

set_option maxHeartbeats 4000000 in
set_option maxRecDepth 100000 in
theorem c_X7_fits (l : Launch) (D : va_G) (E : Nat → ClassId) (x0 : Nat) (xk : Nat) (xt : Nat) (xx : Nat) (xp : Nat) (ik : Int32) (g0 : Nat) (g1 : Nat) (g2 : Nat) (g3 : Nat) (g4 : Nat) (g5 : Nat) (g6 : Nat) (g7 : Nat) (kd : Nat) (h0 : Nat) (h1 : Nat) (h2 : Nat) (h3 : Nat) (h4 : Nat) (h5 : Nat) (h6 : Nat) (N : Nat) (hm : Nat → Int32) (aw : Nat → Int32) (rv : Nat → Int32) (sd : Nat → Int32) (gm : Nat → Int32) (ca : Nat → Int32) (G : Nat → Nat → Nat) (P : Nat → Nat → Nat) (s5 : Nat) (sn : Nat) (c5 : Nat → Int32) (sT : Nat → Nat) (sR : Nat → Nat) (sH : Nat → Nat) (hpl : zm_pl N G P hm aw rv sd gm) (hse : zs_se N sn sT sR sH) (hsc : zm_sc sn sT sR sH c5) : Met l yX7_fits wsX7_fits ({ frames := 4, cells := 0, slots := 0, locals := 91 }) (zr_P D E [.ref x0] [(x0, .inr (5, [.ref g0, .ref xk, .ref xt, .ref xx, .ref xp, .int ik])), (g0, .inr (2, [.ref h0, .ref g1, .ref g2, .ref g3, .ref g4, .int (nI kd), .ref g5, .ref g6, .ref g7])), (h0, .inr (0, [.int (nI N), .ref h1, .ref h2, .ref h3, .ref h4, .ref h5, .ref h6])), (h1, .inl (E 0, 15, .inl hm)), (h2, .inl (E 0, 15, .inl aw)), (h3, .inl (E 0, 30, .inl rv)), (h4, .inl (E 0, 30, .inl sd)), (h5, .inl (E 0, 30, .inl gm)), (h6, .inl (E 0, 36, .inl ca)), (g5, .inr (1, [.int (nI 6), .ref s5, .int (nI sn)])), (s5, .inl (E 0, 48, .inl c5))]) (zr_Qi (fun zv => zv = zm_fits N P sT sR sH sn 3)) 0 0 (fun _ => False) := by
  refine Met.ofW (cc := cX7_fits) (maxL := 3) (ret := (some .int)) (by decide) rfl ?_
  intro p e s m args below meth c s₁ Bz hml hv
  obtain ⟨rfl, hP, hK⟩ := hv
  have hx := Bz.exec
  have hb := Bz.bytes
  have hr := Bz.returns
  have hts := atoms_spec (ws := wsX7_fits) Bz.pre
  have hown : s.vm.findClass RX7 = some m.cls := findClass_of_methodNamed Bz.named
  have hlocks := Bz.notSynchronized
  have hP : va_P D vwCl [(x0, .inr (5, [.ref g0, .ref xk, .ref xt, .ref xx, .ref xp, .int ik])), (g0, .inr (2, [.ref h0, .ref g1, .ref g2, .ref g3, .ref g4, .int (nI kd), .ref g5, .ref g6, .ref g7])), (h0, .inr (0, [.int (nI N), .ref h1, .ref h2, .ref h3, .ref h4, .ref h5, .ref h6])), (h1, .inl (E 0, 15, .inl hm)), (h2, .inl (E 0, 15, .inl aw)), (h3, .inl (E 0, 30, .inl rv)), (h4, .inl (E 0, 30, .inl sd)), (h5, .inl (E 0, 30, .inl gm)), (h6, .inl (E 0, 36, .inl ca)), (g5, .inr (1, [.int (nI 6), .ref s5, .int (nI sn)])), (s5, .inl (E 0, 48, .inl c5))] s.heap := hP
  have hS : va_S (fun _ : Nat => False) s.heap s.heap [] := va_S.rf
  have hl := lv_entry ([.ref x0]) (n := 3) (Nat.le_of_ble_eq_true rfl)
  rw [lg_entry_eq]
  generalize (lg_sl ([.ref x0]) ++ List.replicate (3 - (lg_sl ([.ref x0])).length) Slot.unset).toArray = ls at hl ⊢
  have hl : lv_has ls 3 [(0, .ref x0)] := hl
  refine zr_nQ (fun Q hQ => ?_)
  have hN := hpl.1.1
  refine lv_iconst (v := nI 0) hx hb dX7_fits_0 (by rfl) ?_
  refine lv_istore_n (lv' := [(1, .int (nI 0)), (0, .ref x0)]) hx hb dX7_fits_1 rfl hl (by decide) rfl (fun ls hl => ?_)
  refine lv_iconst (v := nI 0) hx hb dX7_fits_2 (by rfl) ?_
  refine lv_istore_n (lv' := [(2, .int (nI 0)), (1, .int (nI 0)), (0, .ref x0)]) hx hb dX7_fits_3 rfl hl (by decide) rfl (fun ls hl => ?_)
  suffices KL4 : ∀ (kz : Nat) (k : Nat) (bb : Int32) (H : Heap) (locs : List Loc) (ls : Array Slot), (3 - k) < kz → (bb = zm_fits N P sT sR sH sn k) → (k ≤ 3) → va_P D vwCl [(x0, .inr (5, [.ref g0, .ref xk, .ref xt, .ref xx, .ref xp, .int ik])), (g0, .inr (2, [.ref h0, .ref g1, .ref g2, .ref g3, .ref g4, .int (nI kd), .ref g5, .ref g6, .ref g7])), (h0, .inr (0, [.int (nI N), .ref h1, .ref h2, .ref h3, .ref h4, .ref h5, .ref h6])), (h1, .inl (E 0, 15, .inl hm)), (h2, .inl (E 0, 15, .inl aw)), (h3, .inl (E 0, 30, .inl rv)), (h4, .inl (E 0, 30, .inl sd)), (h5, .inl (E 0, 30, .inl gm)), (h6, .inl (E 0, 36, .inl ca)), (g5, .inr (1, [.int (nI 6), .ref s5, .int (nI sn)])), (s5, .inl (E 0, 48, .inl c5))] H → va_S (fun _ : Nat => False) s.heap H locs → lv_has ls 3 [(0, .ref x0), (1, .int bb), (2, .int (nI k))] → W p l e (headSpec wsX7_fits ({ frames := 4, cells := 0, slots := 0, locals := 91 })).room s m ([.ref x0] : List Value).toArray below meth c H locs 0 0 Q (F0 m 4 ls []) from
    KL4 _ 0 (nI 0) _ _ ls (Nat.lt_succ_self _) (rfl) (by omega) hP hS (lv_sub hl [2, 1, 0] rfl)
  clear hP hS hl
  intro kz
  induction kz with
  | zero => intro k bb H locs ls hkz; exact absurd hkz (Nat.not_lt_zero _)
  | succ kz ih4 =>
    intro k bb H locs ls hkz hbb hk hP hS hl
    refine lv_iload_n hx hb dX7_fits_4 rfl (lv_at hl 2 rfl) ?_
    refine lv_iconst (v := nI 3) hx hb dX7_fits_5 (by rfl) ?_
    refine lv_icmp_ge (tgt := 32) hx hb dX7_fits_6 (by decide) (fun cn_1 => ?_) (fun cn_1 => ?_)
    · skip
      have cn_1 : 3 ≤ k := (nI_leI (a := 3) (b := k) (by omega) (by omega)).mp cn_1
      have hke : k = 3 := by omega
      refine lv_iload_n hx hb dX7_fits_32 rfl (lv_at hl 1 rfl) ?_
      subst hQ
      exact W.iret (v := bb) hx hb hr (fun tz htz hWz => ⟨⟨bb, (), rfl, by rw [hbb, hke], trivial⟩, hS.F htz⟩) hS.2.2 dX7_fits_33
    · skip
      have cn_1 : ¬ (3 ≤ k) := fun hz => cn_1 ((nI_leI (a := 3) (b := k) (by omega) (by omega)).mpr hz)
      refine lv_aload_n hx hb dX7_fits_9 rfl (lv_at hl 0 rfl) ?_
      refine va_get (D := D) (ci := 5) (v := .ref g0) (C := RX7) (T := TX7) (N := 6) hx hb hts (by decide +kernel) hown hK.1 hP 0 rfl rfl 0 (by decide) (hts (.fieldLink RX7 12 "HomeRounds" "now" "LHomeRounds$Setting;") (by decide +kernel)) (fun _ h9 => h9) rfl dX7_fits_10 ?_
      refine lv_iload_n hx hb dX7_fits_13 rfl (lv_at hl 2 rfl) ?_
      refine zr_ci hP hS (va_runV (As := [.int (nI k)]) (rest := []) ⟨hx, hb, hml, hown, hts⟩ (c_X3_isSeenBy l D E g0 g1 g2 g3 g4 g5 g6 g7 kd h0 h1 h2 h3 h4 h5 h6 N hm aw rv sd gm ca G P s5 sn c5 sT sR sH k (hpl) (hse) (hsc) (by omega)) (cwV 1 hts gX7_fits_X3_isSeenBy rfl rfl rfl (by decide +kernel) ⟨Nat.le_of_ble_eq_true rfl, Nat.le_of_ble_eq_true rfl⟩) (zr_V hK (hP.sub (ws' := [(g0, .inr (2, [.ref h0, .ref g1, .ref g2, .ref g3, .ref g4, .int (nI kd), .ref g5, .ref g6, .ref g7])), (h0, .inr (0, [.int (nI N), .ref h1, .ref h2, .ref h3, .ref h4, .ref h5, .ref h6])), (h1, .inl (E 0, 15, .inl hm)), (h2, .inl (E 0, 15, .inl aw)), (h3, .inl (E 0, 30, .inl rv)), (h4, .inl (E 0, 30, .inl sd)), (h5, .inl (E 0, 30, .inl gm)), (h6, .inl (E 0, 36, .inl ca)), (g5, .inr (1, [.int (nI 6), .ref s5, .int (nI sn)])), (s5, .inl (E 0, 48, .inl c5))]) [1, 2, 3, 4, 5, 6, 7, 8, 9, 10] rfl) (ci := 2) (q0 := 0) rfl rfl) rfl rfl hl.1 rfl (lv_room (Nat.le_of_ble_eq_true rfl)) dX7_fits_14 ⟨Nat.zero_le _, Nat.zero_le _⟩) (fun r_2 H locs hw_3 hP hS => ?_)
      rcases hw_3 with ⟨rfl, hw_3⟩ | ⟨rfl, hw_3⟩
      · skip
        have hA := hw_3
        refine zr_ti (y := nI 1) rfl ?_
        refine lv_if_eq (tgt := 26) hx hb dX7_fits_17 (by decide) (fun cn_4 => ?_) (fun cn_4 => ?_)
        · skip
          exact absurd cn_4 (by decide)
        · skip
          refine lv_iload_n hx hb dX7_fits_20 rfl (lv_at hl 1 rfl) ?_
          refine lv_iconst (v := nI 1) hx hb dX7_fits_21 (by rfl) ?_
          refine lv_iload_n hx hb dX7_fits_22 rfl (lv_at hl 2 rfl) ?_
          refine lv_ishl hx hb dX7_fits_23 ?_
          refine lv_ior hx hb dX7_fits_24 ?_
          refine lv_istore_n (lv' := [(1, .int (bb ||| ((nI 1) <<< ((nI k) &&& 31)))), (0, .ref x0), (2, .int (nI k))]) hx hb dX7_fits_25 rfl hl (by decide) rfl (fun ls hl => ?_)
          refine lv_iinc (v := nI (k + 1)) (lv' := [(2, .int (nI (k + 1))), (1, .int (bb ||| ((nI 1) <<< ((nI k) &&& 31)))), (0, .ref x0)]) hx hb dX7_fits_26 hl (k := 2) rfl (nI_add _ _) (by decide) rfl (fun ls hl => ?_)
          refine lv_goto (tgt := 4) hx hb dX7_fits_29 (by decide) ?_
          have hl : lv_has ls 3 [(0, .ref x0), (1, .int (bb ||| ((nI 1) <<< ((nI k) &&& 31)))), (2, .int (nI (k + 1)))] := lv_sub hl [2, 1, 0] rfl
          exact ih4 (k + 1) (bb ||| ((nI 1) <<< ((nI k) &&& 31))) H locs ls (by omega) (by rw [zm_fits, hbb]; first | rw [if_pos hA] | (rw [if_neg (by rw [hA]; exact Bool.false_ne_true)]; done) | (rw [if_neg (by rw [hA]; exact Bool.false_ne_true)]; exact zn_or0 _)) (by omega) hP hS hl
      · skip
        have hA := hw_3
        refine zr_ti (y := nI 0) rfl ?_
        refine lv_if_eq (tgt := 26) hx hb dX7_fits_17 (by decide) (fun cn_5 => ?_) (fun cn_5 => ?_)
        · skip
          refine lv_iinc (v := nI (k + 1)) (lv' := [(2, .int (nI (k + 1))), (0, .ref x0), (1, .int bb)]) hx hb dX7_fits_26 hl (k := 2) rfl (nI_add _ _) (by decide) rfl (fun ls hl => ?_)
          refine lv_goto (tgt := 4) hx hb dX7_fits_29 (by decide) ?_
          have hl : lv_has ls 3 [(0, .ref x0), (1, .int bb), (2, .int (nI (k + 1)))] := lv_sub hl [1, 2, 0] rfl
          exact ih4 (k + 1) bb H locs ls (by omega) (by rw [zm_fits, hbb]; first | rw [if_pos hA] | (rw [if_neg (by rw [hA]; exact Bool.false_ne_true)]; done) | (rw [if_neg (by rw [hA]; exact Bool.false_ne_true)]; exact zn_or0 _)) (by omega) hP hS hl
        · skip
          exact absurd cn_5 (by decide)

set_option maxHeartbeats 4000000 in
set_option maxRecDepth 100000 in
theorem c_X7_odds (l : Launch) (D : va_G) (E : Nat → ClassId) (x0 : Nat) (xk : Nat) (xt : Nat) (xx : Nat) (xp : Nat) (ik : Int32) (g0 : Nat) (g1 : Nat) (g2 : Nat) (g3 : Nat) (g4 : Nat) (g5 : Nat) (g6 : Nat) (g7 : Nat) (kd : Nat) (h0 : Nat) (h1 : Nat) (h2 : Nat) (h3 : Nat) (h4 : Nat) (h5 : Nat) (h6 : Nat) (N : Nat) (hm : Nat → Int32) (aw : Nat → Int32) (rv : Nat → Int32) (sd : Nat → Int32) (gm : Nat → Int32) (ca : Nat → Int32) (G : Nat → Nat → Nat) (P : Nat → Nat → Nat) (v : Int32) (w : Int32) (hpl : zm_pl N G P hm aw rv sd gm) (hkd : kd < 3) : Met l yX7_odds wsX7_odds ({ frames := 4, cells := 0, slots := 0, locals := 92 }) (zr_P D E [.ref x0, .int v, .int w] [(x0, .inr (5, [.ref g0, .ref xk, .ref xt, .ref xx, .ref xp, .int ik])), (g0, .inr (2, [.ref h0, .ref g1, .ref g2, .ref g3, .ref g4, .int (nI kd), .ref g5, .ref g6, .ref g7])), (h0, .inr (0, [.int (nI N), .ref h1, .ref h2, .ref h3, .ref h4, .ref h5, .ref h6])), (h1, .inl (E 0, 15, .inl hm)), (h2, .inl (E 0, 15, .inl aw)), (h3, .inl (E 0, 30, .inl rv)), (h4, .inl (E 0, 30, .inl sd)), (h5, .inl (E 0, 30, .inl gm)), (h6, .inl (E 0, 36, .inl ca))]) (zr_Ql (fun zv => zv = cond (zi N v && zi 2 w) (lN (zm_low w (zm_sb N P kd (zq v)) (2 * (N - 1) - 1))) (-9223372036854775808))) 0 0 (fun _ => False) := by
  refine Met.ofW (cc := cX7_odds) (maxL := 4) (ret := (some .long)) (by decide) rfl ?_
  intro p e s m args below meth c s₁ Bz hml hv
  obtain ⟨rfl, hP, hK⟩ := hv
  have hx := Bz.exec
  have hb := Bz.bytes
  have hr := Bz.returns
  have hts := atoms_spec (ws := wsX7_odds) Bz.pre
  have hown : s.vm.findClass RX7 = some m.cls := findClass_of_methodNamed Bz.named
  have hlocks := Bz.notSynchronized
  have hP : va_P D vwCl [(x0, .inr (5, [.ref g0, .ref xk, .ref xt, .ref xx, .ref xp, .int ik])), (g0, .inr (2, [.ref h0, .ref g1, .ref g2, .ref g3, .ref g4, .int (nI kd), .ref g5, .ref g6, .ref g7])), (h0, .inr (0, [.int (nI N), .ref h1, .ref h2, .ref h3, .ref h4, .ref h5, .ref h6])), (h1, .inl (E 0, 15, .inl hm)), (h2, .inl (E 0, 15, .inl aw)), (h3, .inl (E 0, 30, .inl rv)), (h4, .inl (E 0, 30, .inl sd)), (h5, .inl (E 0, 30, .inl gm)), (h6, .inl (E 0, 36, .inl ca))] s.heap := hP
  have hS : va_S (fun _ : Nat => False) s.heap s.heap [] := va_S.rf
  have hl := lv_entry ([.ref x0, .int v, .int w]) (n := 4) (Nat.le_of_ble_eq_true rfl)
  rw [lg_entry_eq]
  generalize (lg_sl ([.ref x0, .int v, .int w]) ++ List.replicate (4 - (lg_sl ([.ref x0, .int v, .int w])).length) Slot.unset).toArray = ls at hl ⊢
  have hl : lv_has ls 4 [(0, .ref x0), (1, .int v), (2, .int w)] := hl
  refine zr_nQ (fun Q hQ => ?_)
  have hN := hpl.1.1
  refine lv_aload_n hx hb dX7_odds_0 rfl (lv_at hl 0 rfl) ?_
  refine va_get (D := D) (ci := 5) (v := .ref g0) (C := RX7) (T := TX7) (N := 6) hx hb hts (by decide +kernel) hown hK.1 hP 0 rfl rfl 0 (by decide) (hts (.fieldLink RX7 12 "HomeRounds" "now" "LHomeRounds$Setting;") (by decide +kernel)) (fun _ h9 => h9) rfl dX7_odds_1 ?_
  refine va_get (D := D) (ci := 2) (v := .ref h0) (C := RX3) (T := TX3) (N := 9) hx hb hts (by decide +kernel) hown hK.1 hP 1 rfl rfl 0 (by decide) (hts (.fieldLink RX7 38 "HomeRounds$Setting" "plan" "LHomeRounds$Plan;") (by decide +kernel)) (fun _ h9 => h9) rfl dX7_odds_4 ?_
  refine lv_iload_n hx hb dX7_odds_7 rfl (lv_at hl 1 rfl) ?_
  refine zr_ci hP hS (va_runV (As := [.int v]) (rest := []) ⟨hx, hb, hml, hown, hts⟩ (c_X1_hasTeam l D E h0 h1 h2 h3 h4 h5 h6 N hm aw rv sd gm ca v (hN)) (cwV 1 hts gX7_odds_X1_hasTeam rfl rfl rfl (by decide +kernel) ⟨Nat.le_of_ble_eq_true rfl, Nat.le_of_ble_eq_true rfl⟩) (zr_V hK (hP.sub (ws' := [(h0, .inr (0, [.int (nI N), .ref h1, .ref h2, .ref h3, .ref h4, .ref h5, .ref h6])), (h1, .inl (E 0, 15, .inl hm)), (h2, .inl (E 0, 15, .inl aw)), (h3, .inl (E 0, 30, .inl rv)), (h4, .inl (E 0, 30, .inl sd)), (h5, .inl (E 0, 30, .inl gm)), (h6, .inl (E 0, 36, .inl ca))]) [2, 3, 4, 5, 6, 7, 8] rfl) (ci := 0) (q0 := 0) rfl rfl) rfl rfl hl.1 rfl (lv_room (Nat.le_of_ble_eq_true rfl)) dX7_odds_8 ⟨Nat.zero_le _, Nat.zero_le _⟩) (fun r_1 H locs hw_2 hP hS => ?_)
  rcases hw_2 with ⟨rfl, hw_2⟩ | ⟨rfl, hw_2⟩
  · skip
    obtain ⟨t, ht, v_e⟩ := hw_2
    have e1 : zi N v = true := v_e ▸ zi_t ht (by omega)
    have q1 : zq v = t := v_e ▸ zq_t (by omega)
    rw [v_e] at hl
    refine zr_ti (y := nI 1) rfl ?_
    refine lv_if_eq (tgt := 21) hx hb dX7_odds_11 (by decide) (fun cn_3 => ?_) (fun cn_3 => ?_)
    · skip
      exact absurd cn_3 (by decide)
    · skip
      refine lv_iload_n hx hb dX7_odds_14 rfl (lv_at hl 2 rfl) ?_
      refine zr_ci hP hS (va_runS (As := [.int w]) (rest := []) ⟨hx, hb, hml, hown, hts⟩ (c_X7_isPart l D E w ) (va_cwS 1 hts gX7_odds_X7_isPart rfl rfl rfl (by decide +kernel) ⟨Nat.le_of_ble_eq_true rfl, Nat.le_of_ble_eq_true rfl⟩) (zr_S hK (hP.sub (ws' := []) [] rfl)) rfl rfl hl.1 rfl (lv_room (Nat.le_of_ble_eq_true rfl)) dX7_odds_15 ⟨Nat.zero_le _, Nat.zero_le _⟩) (fun r_4 H locs hw_5 hP hS => ?_)
      rcases hw_5 with ⟨rfl, hw_5⟩ | ⟨rfl, hw_5⟩
      · skip
        have e2 : zi 2 w = true := by rcases hw_5 with h | h <;> rw [h] <;> decide +kernel
        have hv01 := hw_5
        refine zr_ti (y := nI 1) rfl ?_
        refine lv_if_ne (tgt := 25) hx hb dX7_odds_18 (by decide) (fun cn_6 => ?_) (fun cn_6 => ?_)
        · skip
          refine lv_aload_n hx hb dX7_odds_25 rfl (lv_at hl 0 rfl) ?_
          refine va_get (D := D) (ci := 5) (v := .ref g0) (C := RX7) (T := TX7) (N := 6) hx hb hts (by decide +kernel) hown hK.1 hP 0 rfl rfl 0 (by decide) (hts (.fieldLink RX7 12 "HomeRounds" "now" "LHomeRounds$Setting;") (by decide +kernel)) (fun _ h9 => h9) rfl dX7_odds_26 ?_
          refine va_get (D := D) (ci := 2) (v := .ref h0) (C := RX3) (T := TX3) (N := 9) hx hb hts (by decide +kernel) hown hK.1 hP 1 rfl rfl 0 (by decide) (hts (.fieldLink RX7 38 "HomeRounds$Setting" "plan" "LHomeRounds$Plan;") (by decide +kernel)) (fun _ h9 => h9) rfl dX7_odds_29 ?_
          refine zr_ci hP hS (va_runV (As := []) (rest := []) ⟨hx, hb, hml, hown, hts⟩ (c_X1_seasonLength l D E h0 h1 h2 h3 h4 h5 h6 N hm aw rv sd gm ca (hN)) (cwV 0 hts gX7_odds_X1_seasonLength rfl rfl rfl (by decide +kernel) ⟨Nat.le_of_ble_eq_true rfl, Nat.le_of_ble_eq_true rfl⟩) (zr_V hK (hP.sub (ws' := [(h0, .inr (0, [.int (nI N), .ref h1, .ref h2, .ref h3, .ref h4, .ref h5, .ref h6])), (h1, .inl (E 0, 15, .inl hm)), (h2, .inl (E 0, 15, .inl aw)), (h3, .inl (E 0, 30, .inl rv)), (h4, .inl (E 0, 30, .inl sd)), (h5, .inl (E 0, 30, .inl gm)), (h6, .inl (E 0, 36, .inl ca))]) [2, 3, 4, 5, 6, 7, 8] rfl) (ci := 0) (q0 := 0) rfl rfl) rfl rfl hl.1 rfl (lv_room (Nat.le_of_ble_eq_true rfl)) dX7_odds_32 ⟨Nat.zero_le _, Nat.zero_le _⟩) (fun r_7 H locs hw_8 hP hS => ?_)
          subst hw_8
          refine lv_iconst (v := nI 1) hx hb dX7_odds_35 (by rfl) ?_
          refine lv_isub hx hb dX7_odds_36 ?_
          refine zr_ti (y := nI ((2 * (N - 1)) - 1)) (pk_sub (by omega)) ?_
          refine lv_istore_n (lv' := [(3, .int (nI ((2 * (N - 1)) - 1))), (0, .ref x0), (1, .int (nI t)), (2, .int w)]) hx hb dX7_odds_37 rfl hl (by decide) rfl (fun ls hl => ?_)
          refine lv_aload_n hx hb dX7_odds_38 rfl (lv_at hl 1 rfl) ?_
          refine va_get (D := D) (ci := 5) (v := .ref g0) (C := RX7) (T := TX7) (N := 6) hx hb hts (by decide +kernel) hown hK.1 hP 0 rfl rfl 0 (by decide) (hts (.fieldLink RX7 12 "HomeRounds" "now" "LHomeRounds$Setting;") (by decide +kernel)) (fun _ h9 => h9) rfl dX7_odds_39 ?_
          refine va_get (D := D) (ci := 2) (v := .ref h0) (C := RX3) (T := TX3) (N := 9) hx hb hts (by decide +kernel) hown hK.1 hP 1 rfl rfl 0 (by decide) (hts (.fieldLink RX7 38 "HomeRounds$Setting" "plan" "LHomeRounds$Plan;") (by decide +kernel)) (fun _ h9 => h9) rfl dX7_odds_42 ?_
          refine lv_iload_n hx hb dX7_odds_45 rfl (lv_at hl 2 rfl) ?_
          refine lv_aload_n hx hb dX7_odds_46 rfl (lv_at hl 1 rfl) ?_
          refine va_get (D := D) (ci := 5) (v := .ref g0) (C := RX7) (T := TX7) (N := 6) hx hb hts (by decide +kernel) hown hK.1 hP 0 rfl rfl 0 (by decide) (hts (.fieldLink RX7 12 "HomeRounds" "now" "LHomeRounds$Setting;") (by decide +kernel)) (fun _ h9 => h9) rfl dX7_odds_47 ?_
          refine va_get (D := D) (ci := 2) (v := .int (nI kd)) (C := RX3) (T := TX3) (N := 9) hx hb hts (by decide +kernel) hown hK.1 hP 1 rfl rfl 5 (by decide) (hts (.fieldLink RX7 102 "HomeRounds$Setting" "seasonKind" "I") (by decide +kernel)) (fun _ h9 => h9) rfl dX7_odds_50 ?_
          refine zr_ci hP hS (va_runV (As := [.int (nI t), .int (nI kd)]) (rest := []) ⟨hx, hb, hml, hown, hts⟩ (c_X1_seasonBreaks l D E h0 h1 h2 h3 h4 h5 h6 N hm aw rv sd gm ca G P t kd (hpl) (by omega) (by omega)) (cwV 2 hts gX7_odds_X1_seasonBreaks rfl rfl rfl (by decide +kernel) ⟨Nat.le_of_ble_eq_true rfl, Nat.le_of_ble_eq_true rfl⟩) (zr_V hK (hP.sub (ws' := [(h0, .inr (0, [.int (nI N), .ref h1, .ref h2, .ref h3, .ref h4, .ref h5, .ref h6])), (h1, .inl (E 0, 15, .inl hm)), (h2, .inl (E 0, 15, .inl aw)), (h3, .inl (E 0, 30, .inl rv)), (h4, .inl (E 0, 30, .inl sd)), (h5, .inl (E 0, 30, .inl gm)), (h6, .inl (E 0, 36, .inl ca))]) [2, 3, 4, 5, 6, 7, 8] rfl) (ci := 0) (q0 := 0) rfl rfl) rfl rfl hl.1 rfl (lv_room (Nat.le_of_ble_eq_true rfl)) dX7_odds_53 ⟨Nat.zero_le _, Nat.zero_le _⟩) (fun r_9 H locs hw_10 hP hS => ?_)
          subst hw_10
          have hsb := zm_sb_le (kd := kd) (t := t) (P := P) hN
          refine lv_iload_n hx hb dX7_odds_56 rfl (lv_at hl 0 rfl) ?_
          refine lv_iload_n hx hb dX7_odds_57 rfl (lv_at hl 3 rfl) ?_
          refine zr_cl hP hS (va_runS (As := [.int (nI (zm_sb N P kd t)), .int (nI ((2 * (N - 1)) - 1)), .int w]) (rest := []) ⟨hx, hb, hml, hown, hts⟩ (c_X7_lowest l D E (zm_sb N P kd t) ((2 * (N - 1)) - 1) w (by omega) (by omega) (by omega) (hv01)) (va_cwS 3 hts gX7_odds_X7_lowest rfl rfl rfl (by decide +kernel) ⟨Nat.le_of_ble_eq_true rfl, Nat.le_of_ble_eq_true rfl⟩) (zr_S hK (hP.sub (ws' := []) [] rfl)) rfl rfl hl.1 rfl (lv_room (Nat.le_of_ble_eq_true rfl)) dX7_odds_58 ⟨Nat.zero_le _, Nat.zero_le _⟩) (fun r_11 H locs hw_12 hP hS => ?_)
          subst hw_12
          subst hQ
          exact W.lret (v := lN (zm_low w (zm_sb N P kd t) ((2 * (N - 1)) - 1))) hx hb hr (fun tz htz hWz => ⟨⟨lN (zm_low w (zm_sb N P kd t) ((2 * (N - 1)) - 1)), (), rfl, by simp only [cond_true, cond_false, Bool.and_true, Bool.and_false, Bool.true_and, Bool.false_and, e1, e2, q1], trivial⟩, hS.F htz⟩) hS.2.2 dX7_odds_61
        · skip
          exact absurd cn_6 (by decide)
      · skip
        have e2 : zi 2 w = false := zi_2f hw_5
        refine zr_ti (y := nI 0) rfl ?_
        refine lv_if_ne (tgt := 25) hx hb dX7_odds_18 (by decide) (fun cn_13 => ?_) (fun cn_13 => ?_)
        · skip
          exact absurd cn_13 (by decide)
        · skip
          refine lv_ldc2 (v := (-9223372036854775808)) hx hb hown (hts (.constantLong RX7 204 (-9223372036854775808)) (by decide +kernel)) dX7_odds_21 ?_
          subst hQ
          exact W.lret (v := (-9223372036854775808)) hx hb hr (fun tz htz hWz => ⟨⟨(-9223372036854775808), (), rfl, by first | (simp only [cond_true, cond_false, Bool.and_true, Bool.and_false, Bool.true_and, Bool.false_and, e1]; done) | (simp only [cond_true, cond_false, Bool.and_true, Bool.and_false, Bool.true_and, Bool.false_and, e1, e2]; done), trivial⟩, hS.F htz⟩) hS.2.2 dX7_odds_24
  · skip
    have e1 : zi N v = false := zi_f hw_2
    refine zr_ti (y := nI 0) rfl ?_
    refine lv_if_eq (tgt := 21) hx hb dX7_odds_11 (by decide) (fun cn_14 => ?_) (fun cn_14 => ?_)
    · skip
      refine lv_ldc2 (v := (-9223372036854775808)) hx hb hown (hts (.constantLong RX7 204 (-9223372036854775808)) (by decide +kernel)) dX7_odds_21 ?_
      subst hQ
      exact W.lret (v := (-9223372036854775808)) hx hb hr (fun tz htz hWz => ⟨⟨(-9223372036854775808), (), rfl, by first | (simp only [cond_true, cond_false, Bool.and_true, Bool.and_false, Bool.true_and, Bool.false_and, e1]; done) | (simp only [cond_true, cond_false, Bool.and_true, Bool.and_false, Bool.true_and, Bool.false_and, e1, e2]; done), trivial⟩, hS.F htz⟩) hS.2.2 dX7_odds_24
    · skip
      exact absurd cn_14 (by decide)

set_option maxHeartbeats 4000000 in
set_option maxRecDepth 100000 in
theorem c_X7_mean (l : Launch) (D : va_G) (E : Nat → ClassId) (x0 : Nat) (xk : Nat) (xt : Nat) (xx : Nat) (xp : Nat) (ik : Int32) (g0 : Nat) (g1 : Nat) (g2 : Nat) (g3 : Nat) (g4 : Nat) (g5 : Nat) (g6 : Nat) (g7 : Nat) (kd : Nat) (h0 : Nat) (h1 : Nat) (h2 : Nat) (h3 : Nat) (h4 : Nat) (h5 : Nat) (h6 : Nat) (N : Nat) (hm : Nat → Int32) (aw : Nat → Int32) (rv : Nat → Int32) (sd : Nat → Int32) (gm : Nat → Int32) (ca : Nat → Int32) (G : Nat → Nat → Nat) (P : Nat → Nat → Nat) (v : Int32) (hpl : zm_pl N G P hm aw rv sd gm) : Met l yX7_mean wsX7_mean ({ frames := 4, cells := 0, slots := 0, locals := 89 }) (zr_P D E [.ref x0, .int v] [(x0, .inr (5, [.ref g0, .ref xk, .ref xt, .ref xx, .ref xp, .int ik])), (g0, .inr (2, [.ref h0, .ref g1, .ref g2, .ref g3, .ref g4, .int (nI kd), .ref g5, .ref g6, .ref g7])), (h0, .inr (0, [.int (nI N), .ref h1, .ref h2, .ref h3, .ref h4, .ref h5, .ref h6])), (h1, .inl (E 0, 15, .inl hm)), (h2, .inl (E 0, 15, .inl aw)), (h3, .inl (E 0, 30, .inl rv)), (h4, .inl (E 0, 30, .inl sd)), (h5, .inl (E 0, 30, .inl gm)), (h6, .inl (E 0, 36, .inl ca))]) (zr_Ql (fun zv => zv = cond (zi 2 v) (lN (zm_low v (zm_brs N P) N)) (-9223372036854775808))) 0 0 (fun _ => False) := by
  refine Met.ofW (cc := cX7_mean) (maxL := 2) (ret := (some .long)) (by decide) rfl ?_
  intro p e s m args below meth c s₁ Bz hml hv
  obtain ⟨rfl, hP, hK⟩ := hv
  have hx := Bz.exec
  have hb := Bz.bytes
  have hr := Bz.returns
  have hts := atoms_spec (ws := wsX7_mean) Bz.pre
  have hown : s.vm.findClass RX7 = some m.cls := findClass_of_methodNamed Bz.named
  have hlocks := Bz.notSynchronized
  have hP : va_P D vwCl [(x0, .inr (5, [.ref g0, .ref xk, .ref xt, .ref xx, .ref xp, .int ik])), (g0, .inr (2, [.ref h0, .ref g1, .ref g2, .ref g3, .ref g4, .int (nI kd), .ref g5, .ref g6, .ref g7])), (h0, .inr (0, [.int (nI N), .ref h1, .ref h2, .ref h3, .ref h4, .ref h5, .ref h6])), (h1, .inl (E 0, 15, .inl hm)), (h2, .inl (E 0, 15, .inl aw)), (h3, .inl (E 0, 30, .inl rv)), (h4, .inl (E 0, 30, .inl sd)), (h5, .inl (E 0, 30, .inl gm)), (h6, .inl (E 0, 36, .inl ca))] s.heap := hP
  have hS : va_S (fun _ : Nat => False) s.heap s.heap [] := va_S.rf
  have hl := lv_entry ([.ref x0, .int v]) (n := 2) (Nat.le_of_ble_eq_true rfl)
  rw [lg_entry_eq]
  generalize (lg_sl ([.ref x0, .int v]) ++ List.replicate (2 - (lg_sl ([.ref x0, .int v])).length) Slot.unset).toArray = ls at hl ⊢
  have hl : lv_has ls 2 [(0, .ref x0), (1, .int v)] := hl
  refine zr_nQ (fun Q hQ => ?_)
  have hN := hpl.1.1
  have hbs := zm_brs_le (P := P) hN
  refine lv_iload_n hx hb dX7_mean_0 rfl (lv_at hl 1 rfl) ?_
  refine zr_ci hP hS (va_runS (As := [.int v]) (rest := []) ⟨hx, hb, hml, hown, hts⟩ (c_X7_isPart l D E v ) (va_cwS 1 hts gX7_mean_X7_isPart rfl rfl rfl (by decide +kernel) ⟨Nat.le_of_ble_eq_true rfl, Nat.le_of_ble_eq_true rfl⟩) (zr_S hK (hP.sub (ws' := []) [] rfl)) rfl rfl hl.1 rfl (lv_room (Nat.le_of_ble_eq_true rfl)) dX7_mean_1 ⟨Nat.zero_le _, Nat.zero_le _⟩) (fun r_1 H locs hw_2 hP hS => ?_)
  rcases hw_2 with ⟨rfl, hw_2⟩ | ⟨rfl, hw_2⟩
  · skip
    have e1 : zi 2 v = true := by rcases hw_2 with h | h <;> rw [h] <;> decide +kernel
    have hv01 := hw_2
    refine zr_ti (y := nI 1) rfl ?_
    refine lv_if_ne (tgt := 11) hx hb dX7_mean_4 (by decide) (fun cn_3 => ?_) (fun cn_3 => ?_)
    · skip
      refine lv_aload_n hx hb dX7_mean_11 rfl (lv_at hl 0 rfl) ?_
      refine va_get (D := D) (ci := 5) (v := .ref g0) (C := RX7) (T := TX7) (N := 6) hx hb hts (by decide +kernel) hown hK.1 hP 0 rfl rfl 0 (by decide) (hts (.fieldLink RX7 12 "HomeRounds" "now" "LHomeRounds$Setting;") (by decide +kernel)) (fun _ h9 => h9) rfl dX7_mean_12 ?_
      refine va_get (D := D) (ci := 2) (v := .ref h0) (C := RX3) (T := TX3) (N := 9) hx hb hts (by decide +kernel) hown hK.1 hP 1 rfl rfl 0 (by decide) (hts (.fieldLink RX7 38 "HomeRounds$Setting" "plan" "LHomeRounds$Plan;") (by decide +kernel)) (fun _ h9 => h9) rfl dX7_mean_15 ?_
      refine zr_ci hP hS (va_runV (As := []) (rest := []) ⟨hx, hb, hml, hown, hts⟩ (c_X1_allBreaks l D E h0 h1 h2 h3 h4 h5 h6 N hm aw rv sd gm ca G P (hpl)) (cwV 0 hts gX7_mean_X1_allBreaks rfl rfl rfl (by decide +kernel) ⟨Nat.le_of_ble_eq_true rfl, Nat.le_of_ble_eq_true rfl⟩) (zr_V hK (hP.sub (ws' := [(h0, .inr (0, [.int (nI N), .ref h1, .ref h2, .ref h3, .ref h4, .ref h5, .ref h6])), (h1, .inl (E 0, 15, .inl hm)), (h2, .inl (E 0, 15, .inl aw)), (h3, .inl (E 0, 30, .inl rv)), (h4, .inl (E 0, 30, .inl sd)), (h5, .inl (E 0, 30, .inl gm)), (h6, .inl (E 0, 36, .inl ca))]) [2, 3, 4, 5, 6, 7, 8] rfl) (ci := 0) (q0 := 0) rfl rfl) rfl rfl hl.1 rfl (lv_room (Nat.le_of_ble_eq_true rfl)) dX7_mean_18 ⟨Nat.zero_le _, Nat.zero_le _⟩) (fun r_4 H locs hw_5 hP hS => ?_)
      subst hw_5
      refine lv_aload_n hx hb dX7_mean_21 rfl (lv_at hl 0 rfl) ?_
      refine va_get (D := D) (ci := 5) (v := .ref g0) (C := RX7) (T := TX7) (N := 6) hx hb hts (by decide +kernel) hown hK.1 hP 0 rfl rfl 0 (by decide) (hts (.fieldLink RX7 12 "HomeRounds" "now" "LHomeRounds$Setting;") (by decide +kernel)) (fun _ h9 => h9) rfl dX7_mean_22 ?_
      refine va_get (D := D) (ci := 2) (v := .ref h0) (C := RX3) (T := TX3) (N := 9) hx hb hts (by decide +kernel) hown hK.1 hP 1 rfl rfl 0 (by decide) (hts (.fieldLink RX7 38 "HomeRounds$Setting" "plan" "LHomeRounds$Plan;") (by decide +kernel)) (fun _ h9 => h9) rfl dX7_mean_25 ?_
      refine va_get (D := D) (ci := 0) (v := .int (nI N)) (C := RX1) (T := TX1) (N := 7) hx hb hts (by decide +kernel) hown hK.1 hP 2 rfl rfl 0 (by decide) (hts (.fieldLink RX7 42 "HomeRounds$Plan" "n" "I") (by decide +kernel)) (fun _ h9 => h9) rfl dX7_mean_28 ?_
      refine lv_iload_n hx hb dX7_mean_31 rfl (lv_at hl 1 rfl) ?_
      refine zr_cl hP hS (va_runS (As := [.int (nI (zm_brs N P)), .int (nI N), .int v]) (rest := []) ⟨hx, hb, hml, hown, hts⟩ (c_X7_lowest l D E (zm_brs N P) N v (by omega) (by omega) (by omega) (hv01)) (va_cwS 3 hts gX7_mean_X7_lowest rfl rfl rfl (by decide +kernel) ⟨Nat.le_of_ble_eq_true rfl, Nat.le_of_ble_eq_true rfl⟩) (zr_S hK (hP.sub (ws' := []) [] rfl)) rfl rfl hl.1 rfl (lv_room (Nat.le_of_ble_eq_true rfl)) dX7_mean_32 ⟨Nat.zero_le _, Nat.zero_le _⟩) (fun r_6 H locs hw_7 hP hS => ?_)
      subst hw_7
      subst hQ
      exact W.lret (v := lN (zm_low v (zm_brs N P) N)) hx hb hr (fun tz htz hWz => ⟨⟨lN (zm_low v (zm_brs N P) N), (), rfl, by simp only [cond_true, cond_false, Bool.and_true, Bool.and_false, Bool.true_and, Bool.false_and, e1], trivial⟩, hS.F htz⟩) hS.2.2 dX7_mean_35
    · skip
      exact absurd cn_3 (by decide)
  · skip
    have e1 : zi 2 v = false := zi_2f hw_2
    refine zr_ti (y := nI 0) rfl ?_
    refine lv_if_ne (tgt := 11) hx hb dX7_mean_4 (by decide) (fun cn_8 => ?_) (fun cn_8 => ?_)
    · skip
      exact absurd cn_8 (by decide)
    · skip
      refine lv_ldc2 (v := (-9223372036854775808)) hx hb hown (hts (.constantLong RX7 204 (-9223372036854775808)) (by decide +kernel)) dX7_mean_7 ?_
      subst hQ
      exact W.lret (v := (-9223372036854775808)) hx hb hr (fun tz htz hWz => ⟨⟨(-9223372036854775808), (), rfl, by simp only [cond_true, cond_false, Bool.and_true, Bool.and_false, Bool.true_and, Bool.false_and, e1], trivial⟩, hS.F htz⟩) hS.2.2 dX7_mean_10

set_option maxHeartbeats 4000000 in
set_option maxRecDepth 100000 in
theorem c_X7_event (l : Launch) (D : va_G) (E : Nat → ClassId) (x0 : Nat) (xk : Nat) (xt : Nat) (xx : Nat) (xp : Nat) (ik : Int32) (g0 : Nat) (g1 : Nat) (g2 : Nat) (g3 : Nat) (g4 : Nat) (g5 : Nat) (g6 : Nat) (g7 : Nat) (kd : Nat) (h0 : Nat) (h1 : Nat) (h2 : Nat) (h3 : Nat) (h4 : Nat) (h5 : Nat) (h6 : Nat) (N : Nat) (hm : Nat → Int32) (aw : Nat → Int32) (rv : Nat → Int32) (sd : Nat → Int32) (gm : Nat → Int32) (ca : Nat → Int32) (G : Nat → Nat → Nat) (P : Nat → Nat → Nat) (s6 : Nat) (en : Nat) (c6 : Nat → Int32) (eW : Nat → Nat) (eN : Nat → Nat) (v : Int32) (w : Int32) (hpl : zm_pl N G P hm aw rv sd gm) (hev : zs_ev N en eW eN) (hec : zm_ec en eW eN c6) : Met l yX7_event wsX7_event ({ frames := 2, cells := 0, slots := 0, locals := 45 }) (zw_P D E [.ref x0, .int v, .int w] [(x0, .inr (5, [.ref g0, .ref xk, .ref xt, .ref xx, .ref xp, .int ik])), (g0, .inr (2, [.ref h0, .ref g1, .ref g2, .ref g3, .ref g4, .int (nI kd), .ref g5, .ref g6, .ref g7])), (h0, .inr (0, [.int (nI N), .ref h1, .ref h2, .ref h3, .ref h4, .ref h5, .ref h6])), (h1, .inl (E 0, 15, .inl hm)), (h2, .inl (E 0, 15, .inl aw)), (h3, .inl (E 0, 30, .inl rv)), (h4, .inl (E 0, 30, .inl sd)), (h5, .inl (E 0, 30, .inl gm)), (h6, .inl (E 0, 36, .inl ca)), (g6, .inr (1, [.int (nI 8), .ref s6, .int (nI en)])), (s6, .inl (E 0, 48, .inl c6))]) (zw_Qi D [(x0, .inr (5, [.ref g0, .ref xk, .ref xt, .ref xx, .ref xp, .int ik])), (g0, .inr (2, [.ref h0, .ref g1, .ref g2, .ref g3, .ref g4, .int (nI kd), .ref g5, .ref g6, .ref g7])), (h0, .inr (0, [.int (nI N), .ref h1, .ref h2, .ref h3, .ref h4, .ref h5, .ref h6])), (h1, .inl (E 0, 15, .inl hm)), (h2, .inl (E 0, 15, .inl aw)), (h3, .inl (E 0, 30, .inl rv)), (h4, .inl (E 0, 30, .inl sd)), (h5, .inl (E 0, 30, .inl gm)), (h6, .inl (E 0, 36, .inl ca)), (g6, .inr (1, [.int (nI 8), .ref s6, .int (nI en)])), (s6, .inl (E 0, 48, .inl c6))] (fun zv (u : (Nat) × (Nat → Int32)) => zv = zo_event N en v w ∧ u.1 = cond (decide (v = -1)) 0 (cond ((zc_ev N v w) && decide (en < 8)) (en + 1) en) ∧ zm_ec u.1 (cond ((zc_ev N v w) && decide (en < 8)) (zm_up eW en (zq v)) eW) (cond ((zc_ev N v w) && decide (en < 8)) (zm_up eN en (zq w)) eN) u.2) (fun (u : (Nat) × (Nat → Int32)) => [(x0, .inr (5, [.ref g0, .ref xk, .ref xt, .ref xx, .ref xp, .int ik])), (g0, .inr (2, [.ref h0, .ref g1, .ref g2, .ref g3, .ref g4, .int (nI kd), .ref g5, .ref g6, .ref g7])), (h0, .inr (0, [.int (nI N), .ref h1, .ref h2, .ref h3, .ref h4, .ref h5, .ref h6])), (h1, .inl (E 0, 15, .inl hm)), (h2, .inl (E 0, 15, .inl aw)), (h3, .inl (E 0, 30, .inl rv)), (h4, .inl (E 0, 30, .inl sd)), (h5, .inl (E 0, 30, .inl gm)), (h6, .inl (E 0, 36, .inl ca)), (g6, .inr (1, [.int (nI 8), .ref s6, .int (nI u.1)])), (s6, .inl (E 0, 48, .inl u.2))])) 0 0 (zw_A [(x0, .inr (5, [.ref g0, .ref xk, .ref xt, .ref xx, .ref xp, .int ik])), (g0, .inr (2, [.ref h0, .ref g1, .ref g2, .ref g3, .ref g4, .int (nI kd), .ref g5, .ref g6, .ref g7])), (h0, .inr (0, [.int (nI N), .ref h1, .ref h2, .ref h3, .ref h4, .ref h5, .ref h6])), (h1, .inl (E 0, 15, .inl hm)), (h2, .inl (E 0, 15, .inl aw)), (h3, .inl (E 0, 30, .inl rv)), (h4, .inl (E 0, 30, .inl sd)), (h5, .inl (E 0, 30, .inl gm)), (h6, .inl (E 0, 36, .inl ca)), (g6, .inr (1, [.int (nI 8), .ref s6, .int (nI en)])), (s6, .inl (E 0, 48, .inl c6))]) := by
  refine Met.ofW (cc := cX7_event) (maxL := 3) (ret := (some .int)) (by decide) rfl ?_
  intro p e s m args below meth c s₁ Bz hml hv
  obtain ⟨rfl, hP, hK, hD0⟩ := hv
  have hx := Bz.exec
  have hb := Bz.bytes
  have hr := Bz.returns
  have hts := atoms_spec (ws := wsX7_event) Bz.pre
  have hown : s.vm.findClass RX7 = some m.cls := findClass_of_methodNamed Bz.named
  have hlocks := Bz.notSynchronized
  have hP : va_P D vwCl [(x0, .inr (5, [.ref g0, .ref xk, .ref xt, .ref xx, .ref xp, .int ik])), (g0, .inr (2, [.ref h0, .ref g1, .ref g2, .ref g3, .ref g4, .int (nI kd), .ref g5, .ref g6, .ref g7])), (h0, .inr (0, [.int (nI N), .ref h1, .ref h2, .ref h3, .ref h4, .ref h5, .ref h6])), (h1, .inl (E 0, 15, .inl hm)), (h2, .inl (E 0, 15, .inl aw)), (h3, .inl (E 0, 30, .inl rv)), (h4, .inl (E 0, 30, .inl sd)), (h5, .inl (E 0, 30, .inl gm)), (h6, .inl (E 0, 36, .inl ca)), (g6, .inr (1, [.int (nI 8), .ref s6, .int (nI en)])), (s6, .inl (E 0, 48, .inl c6))] s.heap := hP
  obtain ⟨A, hAe⟩ : ∃ A : Nat → Prop, A = zw_A [(x0, .inr (5, [.ref g0, .ref xk, .ref xt, .ref xx, .ref xp, .int ik])), (g0, .inr (2, [.ref h0, .ref g1, .ref g2, .ref g3, .ref g4, .int (nI kd), .ref g5, .ref g6, .ref g7])), (h0, .inr (0, [.int (nI N), .ref h1, .ref h2, .ref h3, .ref h4, .ref h5, .ref h6])), (h1, .inl (E 0, 15, .inl hm)), (h2, .inl (E 0, 15, .inl aw)), (h3, .inl (E 0, 30, .inl rv)), (h4, .inl (E 0, 30, .inl sd)), (h5, .inl (E 0, 30, .inl gm)), (h6, .inl (E 0, 36, .inl ca)), (g6, .inr (1, [.int (nI 8), .ref s6, .int (nI en)])), (s6, .inl (E 0, 48, .inl c6))] := ⟨_, rfl⟩
  have hD : va_D A [(x0, .inr (5, [.ref g0, .ref xk, .ref xt, .ref xx, .ref xp, .int ik])), (g0, .inr (2, [.ref h0, .ref g1, .ref g2, .ref g3, .ref g4, .int (nI kd), .ref g5, .ref g6, .ref g7])), (h0, .inr (0, [.int (nI N), .ref h1, .ref h2, .ref h3, .ref h4, .ref h5, .ref h6])), (h1, .inl (E 0, 15, .inl hm)), (h2, .inl (E 0, 15, .inl aw)), (h3, .inl (E 0, 30, .inl rv)), (h4, .inl (E 0, 30, .inl sd)), (h5, .inl (E 0, 30, .inl gm)), (h6, .inl (E 0, 36, .inl ca)), (g6, .inr (1, [.int (nI 8), .ref s6, .int (nI en)])), (s6, .inl (E 0, 48, .inl c6))] := hAe ▸ zw_own hD0
  have hS : va_S A s.heap s.heap [] := va_S.rf
  have hl := lv_entry ([.ref x0, .int v, .int w]) (n := 3) (Nat.le_of_ble_eq_true rfl)
  rw [lg_entry_eq]
  generalize (lg_sl ([.ref x0, .int v, .int w]) ++ List.replicate (3 - (lg_sl ([.ref x0, .int v, .int w])).length) Slot.unset).toArray = ls at hl ⊢
  have hl : lv_has ls 3 [(0, .ref x0), (1, .int v), (2, .int w)] := hl
  refine zr_nQ (fun Q hQ => ?_)
  have hN := hpl.1.1
  have hs0 := hev.1
  refine lv_iload_n hx hb dX7_event_0 rfl (lv_at hl 1 rfl) ?_
  refine lv_iconst (v := (-1)) hx hb dX7_event_1 (by rfl) ?_
  refine lv_icmp_ne (tgt := 17) hx hb dX7_event_2 (by decide) (fun cn_1 => ?_) (fun cn_1 => ?_)
  · skip
    have d1 : decide (v = -1) = false := decide_eq_false cn_1
    refine lv_iload_n hx hb dX7_event_17 rfl (lv_at hl 2 rfl) ?_
    refine lv_if_lt (tgt := 40) hx hb dX7_event_18 (by decide) (fun cn_2 => ?_) (fun cn_2 => ?_)
    · skip
      have e2 : zc_ev N v w = false := zc_ev_w (zi_ng (by omega) cn_2)
      refine lv_iconst (v := (-1)) hx hb dX7_event_40 (by rfl) ?_
      subst hQ; subst hAe
      exact W.iret (v := (-1)) hx hb hr (fun tz htz hWz => ⟨⟨(-1), (en, c6), rfl, ⟨by unfold zo_event; simp only [cond_true, cond_false, Bool.and_true, Bool.and_false, Bool.true_and, Bool.false_and, d1, e2], by simp only [cond_true, cond_false, Bool.and_true, Bool.and_false, Bool.true_and, Bool.false_and, d1, e2], by simp only [cond_true, cond_false, Bool.and_true, Bool.and_false, Bool.true_and, Bool.false_and, d1, e2]; exact hec⟩, by rw [htz]; exact hP, hD⟩, hS.F htz⟩) hS.2.2 dX7_event_41
    · skip
      obtain ⟨x9, hx9, w_e⟩ := nI_of cn_2
      rw [w_e] at hl
      have hv5 : v = nI 0 ∨ v = nI 1 ∨ v = nI 2 ∨ v = nI 3 ∨ ¬ zi 4 v = true := by
        by_cases h : zi 4 v = true
        · obtain ⟨h1, h2⟩ := zi_x h
          have h3 : zq v = 0 ∨ zq v = 1 ∨ zq v = 2 ∨ zq v = 3 := by omega
          rcases h3 with h3 | h3 | h3 | h3 <;> rw [h3] at h2 <;> simp [h2]
        · simp [h]
      rcases hv5 with v_e | v_e | v_e | v_e | hvn
      · skip
        rw [v_e] at hl
        have q1 : zq v = 0 := by rw [v_e]; exact zq_t (by omega)
        refine lv_aload_n hx hb dX7_event_21 rfl (lv_at hl 0 rfl) ?_
        refine va_get (D := D) (ci := 5) (v := .ref g0) (C := RX7) (T := TX7) (N := 6) hx hb hts (by decide +kernel) hown hK.1 hP 0 rfl rfl 0 (by decide) (hts (.fieldLink RX7 12 "HomeRounds" "now" "LHomeRounds$Setting;") (by decide +kernel)) (fun _ h9 => h9) rfl dX7_event_22 ?_
        refine lv_iload_n hx hb dX7_event_25 rfl (lv_at hl 1 rfl) ?_
        refine lv_iload_n hx hb dX7_event_26 rfl (lv_at hl 2 rfl) ?_
        refine lv_bipush (v := nI 10) hx hb dX7_event_27 (by rfl) ?_
        refine lv_idiv hx hb dX7_event_29 (by decide) ?_
        refine zr_ti (y := nI (x9 / 10)) (pk_div (by omega) (by omega) (by omega)) ?_
        refine lv_iload_n hx hb dX7_event_30 rfl (lv_at hl 2 rfl) ?_
        refine lv_bipush (v := nI 10) hx hb dX7_event_31 (by rfl) ?_
        refine lv_irem hx hb dX7_event_33 (by decide) ?_
        refine zr_ti (y := nI (x9 % 10)) (pk_rem (by omega) (by omega) (by omega)) ?_
        refine zr_ci hP hS (va_runV (As := [.int (nI 0), .int (nI (x9 / 10)), .int (nI (x9 % 10))]) (rest := []) ⟨hx, hb, hml, hown, hts⟩ (c_X3_mayChange_0 l D E g0 g1 g2 g3 g4 g5 g6 g7 kd h0 h1 h2 h3 h4 h5 h6 N hm aw rv sd gm ca (nI (x9 / 10)) (nI (x9 % 10)) (hN)) (cwV 3 hts gX7_event_X3_mayChange rfl rfl rfl (by decide +kernel) ⟨Nat.le_of_ble_eq_true rfl, Nat.le_of_ble_eq_true rfl⟩) (zr_V hK (hP.sub (ws' := [(g0, .inr (2, [.ref h0, .ref g1, .ref g2, .ref g3, .ref g4, .int (nI kd), .ref g5, .ref g6, .ref g7])), (h0, .inr (0, [.int (nI N), .ref h1, .ref h2, .ref h3, .ref h4, .ref h5, .ref h6])), (h1, .inl (E 0, 15, .inl hm)), (h2, .inl (E 0, 15, .inl aw)), (h3, .inl (E 0, 30, .inl rv)), (h4, .inl (E 0, 30, .inl sd)), (h5, .inl (E 0, 30, .inl gm)), (h6, .inl (E 0, 36, .inl ca))]) [1, 2, 3, 4, 5, 6, 7, 8] rfl) (ci := 2) (q0 := 0) rfl rfl) rfl rfl hl.1 rfl (lv_room (Nat.le_of_ble_eq_true rfl)) dX7_event_34 ⟨Nat.zero_le _, Nat.zero_le _⟩) (fun r_3 H locs hw_4 hP hS => ?_)
        rcases hw_4 with ⟨rfl, hw_4⟩ | ⟨rfl, hw_4⟩
        · skip
          obtain ⟨hA, hB⟩ := hw_4
          have hA := zm_rg_i (by omega) (by omega) hA
          have hB := zm_rg_i (by omega) (by omega) hB
          have e2 : zc_ev N v w = true := zc_ev_t (x := x9) (by omega) w_e (by omega) v_e (zc_k2_t hA hB)
          have q2 : zq w = x9 := by rw [w_e]; exact zq_t (by omega)
          have hx3 : x9 < 100 := by omega
          refine zr_ti (y := nI 1) rfl ?_
          refine lv_if_ne (tgt := 42) hx hb dX7_event_37 (by decide) (fun cn_5 => ?_) (fun cn_5 => ?_)
          · skip
            refine lv_aload_n hx hb dX7_event_42 rfl (lv_at hl 0 rfl) ?_
            refine va_get (D := D) (ci := 5) (v := .ref g0) (C := RX7) (T := TX7) (N := 6) hx hb hts (by decide +kernel) hown hK.1 hP 0 rfl rfl 0 (by decide) (hts (.fieldLink RX7 12 "HomeRounds" "now" "LHomeRounds$Setting;") (by decide +kernel)) (fun _ h9 => h9) rfl dX7_event_43 ?_
            refine va_get (D := D) (ci := 2) (v := .ref g6) (C := RX3) (T := TX3) (N := 9) hx hb hts (by decide +kernel) hown hK.1 hP 1 rfl rfl 7 (by decide) (hts (.fieldLink RX7 259 "HomeRounds$Setting" "events" "LHomeRounds$Rows;") (by decide +kernel)) (fun _ h9 => h9) rfl dX7_event_46 ?_
            refine zr_ci hP hS (va_runV (As := []) (rest := []) ⟨hx, hb, hml, hown, hts⟩ (c_X2_isFull l D E g6 s6 8 48 en c6 (by omega) (by omega)) (cwV 0 hts gX7_event_X2_isFull rfl rfl rfl (by decide +kernel) ⟨Nat.le_of_ble_eq_true rfl, Nat.le_of_ble_eq_true rfl⟩) (zr_V hK (hP.sub (ws' := [(g6, .inr (1, [.int (nI 8), .ref s6, .int (nI en)])), (s6, .inl (E 0, 48, .inl c6))]) [9, 10] rfl) (ci := 1) (q0 := 0) rfl rfl) rfl rfl hl.1 rfl (lv_room (Nat.le_of_ble_eq_true rfl)) dX7_event_49 ⟨Nat.zero_le _, Nat.zero_le _⟩) (fun r_6 H locs hw_7 hP hS => ?_)
            rcases hw_7 with ⟨rfl, hw_7⟩ | ⟨rfl, hw_7⟩
            · skip
              have e3 : decide (en < 8) = false := decide_eq_false (by omega)
              refine zr_ti (y := nI 1) rfl ?_
              refine lv_if_eq (tgt := 58) hx hb dX7_event_52 (by decide) (fun cn_8 => ?_) (fun cn_8 => ?_)
              · skip
                exact absurd cn_8 (by decide)
              · skip
                refine lv_bipush (v := (-4)) hx hb dX7_event_55 (by rfl) ?_
                subst hQ; subst hAe
                exact W.iret (v := (-4)) hx hb hr (fun tz htz hWz => ⟨⟨(-4), (en, c6), rfl, ⟨by unfold zo_event; simp only [cond_true, cond_false, Bool.and_true, Bool.and_false, Bool.true_and, Bool.false_and, d1, e2, e3], by simp only [cond_true, cond_false, Bool.and_true, Bool.and_false, Bool.true_and, Bool.false_and, d1, e2, e3], by simp only [cond_true, cond_false, Bool.and_true, Bool.and_false, Bool.true_and, Bool.false_and, d1, e2, e3]; exact hec⟩, by rw [htz]; exact hP, hD⟩, hS.F htz⟩) hS.2.2 dX7_event_57
            · skip
              have e3 : decide (en < 8) = true := decide_eq_true (by omega)
              refine zr_ti (y := nI 0) rfl ?_
              refine lv_if_eq (tgt := 58) hx hb dX7_event_52 (by decide) (fun cn_9 => ?_) (fun cn_9 => ?_)
              · skip
                refine lv_aload_n hx hb dX7_event_58 rfl (lv_at hl 0 rfl) ?_
                refine va_get (D := D) (ci := 5) (v := .ref g0) (C := RX7) (T := TX7) (N := 6) hx hb hts (by decide +kernel) hown hK.1 hP 0 rfl rfl 0 (by decide) (hts (.fieldLink RX7 12 "HomeRounds" "now" "LHomeRounds$Setting;") (by decide +kernel)) (fun _ h9 => h9) rfl dX7_event_59 ?_
                refine va_get (D := D) (ci := 2) (v := .ref g6) (C := RX3) (T := TX3) (N := 9) hx hb hts (by decide +kernel) hown hK.1 hP 1 rfl rfl 7 (by decide) (hts (.fieldLink RX7 259 "HomeRounds$Setting" "events" "LHomeRounds$Rows;") (by decide +kernel)) (fun _ h9 => h9) rfl dX7_event_62 ?_
                refine lv_iload_n hx hb dX7_event_65 rfl (lv_at hl 1 rfl) ?_
                refine lv_iload_n hx hb dX7_event_66 rfl (lv_at hl 2 rfl) ?_
                refine lv_bipush (v := nI 10) hx hb dX7_event_67 (by rfl) ?_
                refine lv_idiv hx hb dX7_event_69 (by decide) ?_
                refine zr_ti (y := nI (x9 / 10)) (pk_div (by omega) (by omega) (by omega)) ?_
                refine lv_iload_n hx hb dX7_event_70 rfl (lv_at hl 2 rfl) ?_
                refine lv_bipush (v := nI 10) hx hb dX7_event_71 (by rfl) ?_
                refine lv_irem hx hb dX7_event_73 (by decide) ?_
                refine zr_ti (y := nI (x9 % 10)) (pk_rem (by omega) (by omega) (by omega)) ?_
                refine lv_iconst (v := nI 0) hx hb dX7_event_74 (by rfl) ?_
                have hPc := hP.sub (ws' := [(g6, .inr (1, [.int (nI 8), .ref s6, .int (nI en)])), (s6, .inl (E 0, 48, .inl c6))]) [9, 10] rfl
                have hDc := hD.sub (ws' := [(g6, .inr (1, [.int (nI 8), .ref s6, .int (nI en)])), (s6, .inl (E 0, 48, .inl c6))]) [9, 10] (by decide +kernel) rfl
                have hAc := zw_AA (wc := [(g6, .inr (1, [.int (nI 8), .ref s6, .int (nI en)])), (s6, .inl (E 0, 48, .inl c6))]) hD [9, 10] rfl
                refine zw_cv hAc hS (va_runV (As := [.int (nI 0), .int (nI (x9 / 10)), .int (nI (x9 % 10)), .int (nI 0)]) (rest := []) ⟨hx, hb, hml, hown, hts⟩ (c_X2_add l D E g6 s6 8 48 en c6 (nI 0) (nI (x9 / 10)) (nI (x9 % 10)) (nI 0) (by omega) (by omega) (by omega)) (cwV 4 hts gX7_event_X2_add rfl rfl rfl (by decide +kernel) ⟨Nat.le_of_ble_eq_true rfl, Nat.le_of_ble_eq_true rfl⟩) (zw_V hK hPc hDc (ci := 1) (q0 := 0) rfl rfl) rfl rfl hl.1 rfl (lv_room (Nat.le_of_ble_eq_true rfl)) dX7_event_75 ⟨Nat.zero_le _, Nat.zero_le _⟩) (fun u_12 H locs hw_11 hP1 hD1 hk1 hS => ?_)
                obtain ⟨hP, hD⟩ := zw_join (wr := [(x0, .inr (5, [.ref g0, .ref xk, .ref xt, .ref xx, .ref xp, .int ik])), (g0, .inr (2, [.ref h0, .ref g1, .ref g2, .ref g3, .ref g4, .int (nI kd), .ref g5, .ref g6, .ref g7])), (h0, .inr (0, [.int (nI N), .ref h1, .ref h2, .ref h3, .ref h4, .ref h5, .ref h6])), (h1, .inl (E 0, 15, .inl hm)), (h2, .inl (E 0, 15, .inl aw)), (h3, .inl (E 0, 30, .inl rv)), (h4, .inl (E 0, 30, .inl sd)), (h5, .inl (E 0, 30, .inl gm)), (h6, .inl (E 0, 36, .inl ca))]) (w1 := [(g6, .inr (1, [.int (nI 8), .ref s6, .int (nI (en + 1))])), (s6, .inl (E 0, 48, .inl (upd (upd (upd (upd c6 (en * 4) (nI 0)) (en * 4 + 1) (nI (x9 / 10))) (en * 4 + 2) (nI (x9 % 10))) (en * 4 + 3) (nI 0))))]) (ws' := [(x0, .inr (5, [.ref g0, .ref xk, .ref xt, .ref xx, .ref xp, .int ik])), (g0, .inr (2, [.ref h0, .ref g1, .ref g2, .ref g3, .ref g4, .int (nI kd), .ref g5, .ref g6, .ref g7])), (h0, .inr (0, [.int (nI N), .ref h1, .ref h2, .ref h3, .ref h4, .ref h5, .ref h6])), (h1, .inl (E 0, 15, .inl hm)), (h2, .inl (E 0, 15, .inl aw)), (h3, .inl (E 0, 30, .inl rv)), (h4, .inl (E 0, 30, .inl sd)), (h5, .inl (E 0, 30, .inl gm)), (h6, .inl (E 0, 36, .inl ca)), (g6, .inr (1, [.int (nI 8), .ref s6, .int (nI (en + 1))])), (s6, .inl (E 0, 48, .inl (upd (upd (upd (upd c6 (en * 4) (nI 0)) (en * 4 + 1) (nI (x9 / 10))) (en * 4 + 2) (nI (x9 % 10))) (en * 4 + 3) (nI 0))))]) hP hD [9, 10] [0, 1, 2, 3, 4, 5, 6, 7, 8] [0, 1, 2, 3, 4, 5, 6, 7, 8, 9, 10] rfl rfl (by decide +kernel) (by decide +kernel) hAc hk1 hP1 hD1 (by decide +kernel) rfl
                clear hP1 hD1 hk1 hPc hDc hAc
                refine lv_aload_n hx hb dX7_event_78 rfl (lv_at hl 0 rfl) ?_
                refine va_get (D := D) (ci := 5) (v := .ref g0) (C := RX7) (T := TX7) (N := 6) hx hb hts (by decide +kernel) hown hK.1 hP 0 rfl rfl 0 (by decide) (hts (.fieldLink RX7 12 "HomeRounds" "now" "LHomeRounds$Setting;") (by decide +kernel)) (fun _ h9 => h9) rfl dX7_event_79 ?_
                refine va_get (D := D) (ci := 2) (v := .ref g6) (C := RX3) (T := TX3) (N := 9) hx hb hts (by decide +kernel) hown hK.1 hP 1 rfl rfl 7 (by decide) (hts (.fieldLink RX7 259 "HomeRounds$Setting" "events" "LHomeRounds$Rows;") (by decide +kernel)) (fun _ h9 => h9) rfl dX7_event_82 ?_
                refine va_get (D := D) (ci := 1) (v := .int (nI (en + 1))) (C := RX2) (T := TX2) (N := 3) hx hb hts (by decide +kernel) hown hK.1 hP 9 rfl rfl 2 (by decide) (hts (.fieldLink RX7 119 "HomeRounds$Rows" "size" "I") (by decide +kernel)) (fun _ h9 => h9) rfl dX7_event_85 ?_
                subst hQ; subst hAe
                exact W.iret (v := nI (en + 1)) hx hb hr (fun tz htz hWz => ⟨⟨nI (en + 1), (en + 1, upd (upd (upd (upd c6 (en * 4) (nI 0)) (en * 4 + 1) (nI (x9 / 10))) (en * 4 + 2) (nI (x9 % 10))) (en * 4 + 3) (nI 0)), rfl, ⟨by unfold zo_event; simp only [cond_true, cond_false, Bool.and_true, Bool.and_false, Bool.true_and, Bool.false_and, d1, e2, e3, q1, q2], by simp only [cond_true, cond_false, Bool.and_true, Bool.and_false, Bool.true_and, Bool.false_and, d1, e2, e3, q1, q2], by simp only [cond_true, cond_false, Bool.and_true, Bool.and_false, Bool.true_and, Bool.false_and, d1, e2, e3, q1, q2]; exact (zm_ec_up hec)⟩, by rw [htz]; exact hP, hD⟩, hS.F htz⟩) hS.2.2 dX7_event_88
              · skip
                exact absurd cn_9 (by decide)
          · skip
            exact absurd cn_5 (by decide)
        · skip
          have e2 : zc_ev N v w = false := zc_ev_f hx9 w_e (by omega) v_e (zc_k2_f (fun q => hw_4 ⟨zm_rg_o q.1, zm_rg_o q.2⟩))
          refine zr_ti (y := nI 0) rfl ?_
          refine lv_if_ne (tgt := 42) hx hb dX7_event_37 (by decide) (fun cn_13 => ?_) (fun cn_13 => ?_)
          · skip
            exact absurd cn_13 (by decide)
          · skip
            refine lv_iconst (v := (-1)) hx hb dX7_event_40 (by rfl) ?_
            subst hQ; subst hAe
            exact W.iret (v := (-1)) hx hb hr (fun tz htz hWz => ⟨⟨(-1), (en, c6), rfl, ⟨by unfold zo_event; simp only [cond_true, cond_false, Bool.and_true, Bool.and_false, Bool.true_and, Bool.false_and, d1, e2], by simp only [cond_true, cond_false, Bool.and_true, Bool.and_false, Bool.true_and, Bool.false_and, d1, e2], by simp only [cond_true, cond_false, Bool.and_true, Bool.and_false, Bool.true_and, Bool.false_and, d1, e2]; exact hec⟩, by rw [htz]; exact hP, hD⟩, hS.F htz⟩) hS.2.2 dX7_event_41
      · skip
        rw [v_e] at hl
        have q1 : zq v = 1 := by rw [v_e]; exact zq_t (by omega)
        refine lv_aload_n hx hb dX7_event_21 rfl (lv_at hl 0 rfl) ?_
        refine va_get (D := D) (ci := 5) (v := .ref g0) (C := RX7) (T := TX7) (N := 6) hx hb hts (by decide +kernel) hown hK.1 hP 0 rfl rfl 0 (by decide) (hts (.fieldLink RX7 12 "HomeRounds" "now" "LHomeRounds$Setting;") (by decide +kernel)) (fun _ h9 => h9) rfl dX7_event_22 ?_
        refine lv_iload_n hx hb dX7_event_25 rfl (lv_at hl 1 rfl) ?_
        refine lv_iload_n hx hb dX7_event_26 rfl (lv_at hl 2 rfl) ?_
        refine lv_bipush (v := nI 10) hx hb dX7_event_27 (by rfl) ?_
        refine lv_idiv hx hb dX7_event_29 (by decide) ?_
        refine zr_ti (y := nI (x9 / 10)) (pk_div (by omega) (by omega) (by omega)) ?_
        refine lv_iload_n hx hb dX7_event_30 rfl (lv_at hl 2 rfl) ?_
        refine lv_bipush (v := nI 10) hx hb dX7_event_31 (by rfl) ?_
        refine lv_irem hx hb dX7_event_33 (by decide) ?_
        refine zr_ti (y := nI (x9 % 10)) (pk_rem (by omega) (by omega) (by omega)) ?_
        refine zr_ci hP hS (va_runV (As := [.int (nI 1), .int (nI (x9 / 10)), .int (nI (x9 % 10))]) (rest := []) ⟨hx, hb, hml, hown, hts⟩ (c_X3_mayChange_1 l D E g0 g1 g2 g3 g4 g5 g6 g7 kd h0 h1 h2 h3 h4 h5 h6 N hm aw rv sd gm ca (nI (x9 / 10)) (nI (x9 % 10)) (hN)) (cwV 3 hts gX7_event_X3_mayChange rfl rfl rfl (by decide +kernel) ⟨Nat.le_of_ble_eq_true rfl, Nat.le_of_ble_eq_true rfl⟩) (zr_V hK (hP.sub (ws' := [(g0, .inr (2, [.ref h0, .ref g1, .ref g2, .ref g3, .ref g4, .int (nI kd), .ref g5, .ref g6, .ref g7])), (h0, .inr (0, [.int (nI N), .ref h1, .ref h2, .ref h3, .ref h4, .ref h5, .ref h6])), (h1, .inl (E 0, 15, .inl hm)), (h2, .inl (E 0, 15, .inl aw)), (h3, .inl (E 0, 30, .inl rv)), (h4, .inl (E 0, 30, .inl sd)), (h5, .inl (E 0, 30, .inl gm)), (h6, .inl (E 0, 36, .inl ca))]) [1, 2, 3, 4, 5, 6, 7, 8] rfl) (ci := 2) (q0 := 0) rfl rfl) rfl rfl hl.1 rfl (lv_room (Nat.le_of_ble_eq_true rfl)) dX7_event_34 ⟨Nat.zero_le _, Nat.zero_le _⟩) (fun r_14 H locs hw_15 hP hS => ?_)
        rcases hw_15 with ⟨rfl, hw_15⟩ | ⟨rfl, hw_15⟩
        · skip
          obtain ⟨hA, hB⟩ := hw_15
          have hA := zm_rg_i (by omega) (by omega) hA
          have hB := zm_rg_i (by omega) (by omega) hB
          have e2 : zc_ev N v w = true := zc_ev_t (x := x9) (by omega) w_e (by omega) v_e (zc_k2_t hA hB)
          have q2 : zq w = x9 := by rw [w_e]; exact zq_t (by omega)
          have hx3 : x9 < 100 := by omega
          refine zr_ti (y := nI 1) rfl ?_
          refine lv_if_ne (tgt := 42) hx hb dX7_event_37 (by decide) (fun cn_16 => ?_) (fun cn_16 => ?_)
          · skip
            refine lv_aload_n hx hb dX7_event_42 rfl (lv_at hl 0 rfl) ?_
            refine va_get (D := D) (ci := 5) (v := .ref g0) (C := RX7) (T := TX7) (N := 6) hx hb hts (by decide +kernel) hown hK.1 hP 0 rfl rfl 0 (by decide) (hts (.fieldLink RX7 12 "HomeRounds" "now" "LHomeRounds$Setting;") (by decide +kernel)) (fun _ h9 => h9) rfl dX7_event_43 ?_
            refine va_get (D := D) (ci := 2) (v := .ref g6) (C := RX3) (T := TX3) (N := 9) hx hb hts (by decide +kernel) hown hK.1 hP 1 rfl rfl 7 (by decide) (hts (.fieldLink RX7 259 "HomeRounds$Setting" "events" "LHomeRounds$Rows;") (by decide +kernel)) (fun _ h9 => h9) rfl dX7_event_46 ?_
            refine zr_ci hP hS (va_runV (As := []) (rest := []) ⟨hx, hb, hml, hown, hts⟩ (c_X2_isFull l D E g6 s6 8 48 en c6 (by omega) (by omega)) (cwV 0 hts gX7_event_X2_isFull rfl rfl rfl (by decide +kernel) ⟨Nat.le_of_ble_eq_true rfl, Nat.le_of_ble_eq_true rfl⟩) (zr_V hK (hP.sub (ws' := [(g6, .inr (1, [.int (nI 8), .ref s6, .int (nI en)])), (s6, .inl (E 0, 48, .inl c6))]) [9, 10] rfl) (ci := 1) (q0 := 0) rfl rfl) rfl rfl hl.1 rfl (lv_room (Nat.le_of_ble_eq_true rfl)) dX7_event_49 ⟨Nat.zero_le _, Nat.zero_le _⟩) (fun r_17 H locs hw_18 hP hS => ?_)
            rcases hw_18 with ⟨rfl, hw_18⟩ | ⟨rfl, hw_18⟩
            · skip
              have e3 : decide (en < 8) = false := decide_eq_false (by omega)
              refine zr_ti (y := nI 1) rfl ?_
              refine lv_if_eq (tgt := 58) hx hb dX7_event_52 (by decide) (fun cn_19 => ?_) (fun cn_19 => ?_)
              · skip
                exact absurd cn_19 (by decide)
              · skip
                refine lv_bipush (v := (-4)) hx hb dX7_event_55 (by rfl) ?_
                subst hQ; subst hAe
                exact W.iret (v := (-4)) hx hb hr (fun tz htz hWz => ⟨⟨(-4), (en, c6), rfl, ⟨by unfold zo_event; simp only [cond_true, cond_false, Bool.and_true, Bool.and_false, Bool.true_and, Bool.false_and, d1, e2, e3], by simp only [cond_true, cond_false, Bool.and_true, Bool.and_false, Bool.true_and, Bool.false_and, d1, e2, e3], by simp only [cond_true, cond_false, Bool.and_true, Bool.and_false, Bool.true_and, Bool.false_and, d1, e2, e3]; exact hec⟩, by rw [htz]; exact hP, hD⟩, hS.F htz⟩) hS.2.2 dX7_event_57
            · skip
              have e3 : decide (en < 8) = true := decide_eq_true (by omega)
              refine zr_ti (y := nI 0) rfl ?_
              refine lv_if_eq (tgt := 58) hx hb dX7_event_52 (by decide) (fun cn_20 => ?_) (fun cn_20 => ?_)
              · skip
                refine lv_aload_n hx hb dX7_event_58 rfl (lv_at hl 0 rfl) ?_
                refine va_get (D := D) (ci := 5) (v := .ref g0) (C := RX7) (T := TX7) (N := 6) hx hb hts (by decide +kernel) hown hK.1 hP 0 rfl rfl 0 (by decide) (hts (.fieldLink RX7 12 "HomeRounds" "now" "LHomeRounds$Setting;") (by decide +kernel)) (fun _ h9 => h9) rfl dX7_event_59 ?_
                refine va_get (D := D) (ci := 2) (v := .ref g6) (C := RX3) (T := TX3) (N := 9) hx hb hts (by decide +kernel) hown hK.1 hP 1 rfl rfl 7 (by decide) (hts (.fieldLink RX7 259 "HomeRounds$Setting" "events" "LHomeRounds$Rows;") (by decide +kernel)) (fun _ h9 => h9) rfl dX7_event_62 ?_
                refine lv_iload_n hx hb dX7_event_65 rfl (lv_at hl 1 rfl) ?_
                refine lv_iload_n hx hb dX7_event_66 rfl (lv_at hl 2 rfl) ?_
                refine lv_bipush (v := nI 10) hx hb dX7_event_67 (by rfl) ?_
                refine lv_idiv hx hb dX7_event_69 (by decide) ?_
                refine zr_ti (y := nI (x9 / 10)) (pk_div (by omega) (by omega) (by omega)) ?_
                refine lv_iload_n hx hb dX7_event_70 rfl (lv_at hl 2 rfl) ?_
                refine lv_bipush (v := nI 10) hx hb dX7_event_71 (by rfl) ?_
                refine lv_irem hx hb dX7_event_73 (by decide) ?_
                refine zr_ti (y := nI (x9 % 10)) (pk_rem (by omega) (by omega) (by omega)) ?_
                refine lv_iconst (v := nI 0) hx hb dX7_event_74 (by rfl) ?_
                have hPc := hP.sub (ws' := [(g6, .inr (1, [.int (nI 8), .ref s6, .int (nI en)])), (s6, .inl (E 0, 48, .inl c6))]) [9, 10] rfl
                have hDc := hD.sub (ws' := [(g6, .inr (1, [.int (nI 8), .ref s6, .int (nI en)])), (s6, .inl (E 0, 48, .inl c6))]) [9, 10] (by decide +kernel) rfl
                have hAc := zw_AA (wc := [(g6, .inr (1, [.int (nI 8), .ref s6, .int (nI en)])), (s6, .inl (E 0, 48, .inl c6))]) hD [9, 10] rfl
                refine zw_cv hAc hS (va_runV (As := [.int (nI 1), .int (nI (x9 / 10)), .int (nI (x9 % 10)), .int (nI 0)]) (rest := []) ⟨hx, hb, hml, hown, hts⟩ (c_X2_add l D E g6 s6 8 48 en c6 (nI 1) (nI (x9 / 10)) (nI (x9 % 10)) (nI 0) (by omega) (by omega) (by omega)) (cwV 4 hts gX7_event_X2_add rfl rfl rfl (by decide +kernel) ⟨Nat.le_of_ble_eq_true rfl, Nat.le_of_ble_eq_true rfl⟩) (zw_V hK hPc hDc (ci := 1) (q0 := 0) rfl rfl) rfl rfl hl.1 rfl (lv_room (Nat.le_of_ble_eq_true rfl)) dX7_event_75 ⟨Nat.zero_le _, Nat.zero_le _⟩) (fun u_23 H locs hw_22 hP1 hD1 hk1 hS => ?_)
                obtain ⟨hP, hD⟩ := zw_join (wr := [(x0, .inr (5, [.ref g0, .ref xk, .ref xt, .ref xx, .ref xp, .int ik])), (g0, .inr (2, [.ref h0, .ref g1, .ref g2, .ref g3, .ref g4, .int (nI kd), .ref g5, .ref g6, .ref g7])), (h0, .inr (0, [.int (nI N), .ref h1, .ref h2, .ref h3, .ref h4, .ref h5, .ref h6])), (h1, .inl (E 0, 15, .inl hm)), (h2, .inl (E 0, 15, .inl aw)), (h3, .inl (E 0, 30, .inl rv)), (h4, .inl (E 0, 30, .inl sd)), (h5, .inl (E 0, 30, .inl gm)), (h6, .inl (E 0, 36, .inl ca))]) (w1 := [(g6, .inr (1, [.int (nI 8), .ref s6, .int (nI (en + 1))])), (s6, .inl (E 0, 48, .inl (upd (upd (upd (upd c6 (en * 4) (nI 1)) (en * 4 + 1) (nI (x9 / 10))) (en * 4 + 2) (nI (x9 % 10))) (en * 4 + 3) (nI 0))))]) (ws' := [(x0, .inr (5, [.ref g0, .ref xk, .ref xt, .ref xx, .ref xp, .int ik])), (g0, .inr (2, [.ref h0, .ref g1, .ref g2, .ref g3, .ref g4, .int (nI kd), .ref g5, .ref g6, .ref g7])), (h0, .inr (0, [.int (nI N), .ref h1, .ref h2, .ref h3, .ref h4, .ref h5, .ref h6])), (h1, .inl (E 0, 15, .inl hm)), (h2, .inl (E 0, 15, .inl aw)), (h3, .inl (E 0, 30, .inl rv)), (h4, .inl (E 0, 30, .inl sd)), (h5, .inl (E 0, 30, .inl gm)), (h6, .inl (E 0, 36, .inl ca)), (g6, .inr (1, [.int (nI 8), .ref s6, .int (nI (en + 1))])), (s6, .inl (E 0, 48, .inl (upd (upd (upd (upd c6 (en * 4) (nI 1)) (en * 4 + 1) (nI (x9 / 10))) (en * 4 + 2) (nI (x9 % 10))) (en * 4 + 3) (nI 0))))]) hP hD [9, 10] [0, 1, 2, 3, 4, 5, 6, 7, 8] [0, 1, 2, 3, 4, 5, 6, 7, 8, 9, 10] rfl rfl (by decide +kernel) (by decide +kernel) hAc hk1 hP1 hD1 (by decide +kernel) rfl
                clear hP1 hD1 hk1 hPc hDc hAc
                refine lv_aload_n hx hb dX7_event_78 rfl (lv_at hl 0 rfl) ?_
                refine va_get (D := D) (ci := 5) (v := .ref g0) (C := RX7) (T := TX7) (N := 6) hx hb hts (by decide +kernel) hown hK.1 hP 0 rfl rfl 0 (by decide) (hts (.fieldLink RX7 12 "HomeRounds" "now" "LHomeRounds$Setting;") (by decide +kernel)) (fun _ h9 => h9) rfl dX7_event_79 ?_
                refine va_get (D := D) (ci := 2) (v := .ref g6) (C := RX3) (T := TX3) (N := 9) hx hb hts (by decide +kernel) hown hK.1 hP 1 rfl rfl 7 (by decide) (hts (.fieldLink RX7 259 "HomeRounds$Setting" "events" "LHomeRounds$Rows;") (by decide +kernel)) (fun _ h9 => h9) rfl dX7_event_82 ?_
                refine va_get (D := D) (ci := 1) (v := .int (nI (en + 1))) (C := RX2) (T := TX2) (N := 3) hx hb hts (by decide +kernel) hown hK.1 hP 9 rfl rfl 2 (by decide) (hts (.fieldLink RX7 119 "HomeRounds$Rows" "size" "I") (by decide +kernel)) (fun _ h9 => h9) rfl dX7_event_85 ?_
                subst hQ; subst hAe
                exact W.iret (v := nI (en + 1)) hx hb hr (fun tz htz hWz => ⟨⟨nI (en + 1), (en + 1, upd (upd (upd (upd c6 (en * 4) (nI 1)) (en * 4 + 1) (nI (x9 / 10))) (en * 4 + 2) (nI (x9 % 10))) (en * 4 + 3) (nI 0)), rfl, ⟨by unfold zo_event; simp only [cond_true, cond_false, Bool.and_true, Bool.and_false, Bool.true_and, Bool.false_and, d1, e2, e3, q1, q2], by simp only [cond_true, cond_false, Bool.and_true, Bool.and_false, Bool.true_and, Bool.false_and, d1, e2, e3, q1, q2], by simp only [cond_true, cond_false, Bool.and_true, Bool.and_false, Bool.true_and, Bool.false_and, d1, e2, e3, q1, q2]; exact (zm_ec_up hec)⟩, by rw [htz]; exact hP, hD⟩, hS.F htz⟩) hS.2.2 dX7_event_88
              · skip
                exact absurd cn_20 (by decide)
          · skip
            exact absurd cn_16 (by decide)
        · skip
          have e2 : zc_ev N v w = false := zc_ev_f hx9 w_e (by omega) v_e (zc_k2_f (fun q => hw_15 ⟨zm_rg_o q.1, zm_rg_o q.2⟩))
          refine zr_ti (y := nI 0) rfl ?_
          refine lv_if_ne (tgt := 42) hx hb dX7_event_37 (by decide) (fun cn_24 => ?_) (fun cn_24 => ?_)
          · skip
            exact absurd cn_24 (by decide)
          · skip
            refine lv_iconst (v := (-1)) hx hb dX7_event_40 (by rfl) ?_
            subst hQ; subst hAe
            exact W.iret (v := (-1)) hx hb hr (fun tz htz hWz => ⟨⟨(-1), (en, c6), rfl, ⟨by unfold zo_event; simp only [cond_true, cond_false, Bool.and_true, Bool.and_false, Bool.true_and, Bool.false_and, d1, e2], by simp only [cond_true, cond_false, Bool.and_true, Bool.and_false, Bool.true_and, Bool.false_and, d1, e2], by simp only [cond_true, cond_false, Bool.and_true, Bool.and_false, Bool.true_and, Bool.false_and, d1, e2]; exact hec⟩, by rw [htz]; exact hP, hD⟩, hS.F htz⟩) hS.2.2 dX7_event_41
      · skip
        rw [v_e] at hl
        have q1 : zq v = 2 := by rw [v_e]; exact zq_t (by omega)
        refine lv_aload_n hx hb dX7_event_21 rfl (lv_at hl 0 rfl) ?_
        refine va_get (D := D) (ci := 5) (v := .ref g0) (C := RX7) (T := TX7) (N := 6) hx hb hts (by decide +kernel) hown hK.1 hP 0 rfl rfl 0 (by decide) (hts (.fieldLink RX7 12 "HomeRounds" "now" "LHomeRounds$Setting;") (by decide +kernel)) (fun _ h9 => h9) rfl dX7_event_22 ?_
        refine lv_iload_n hx hb dX7_event_25 rfl (lv_at hl 1 rfl) ?_
        refine lv_iload_n hx hb dX7_event_26 rfl (lv_at hl 2 rfl) ?_
        refine lv_bipush (v := nI 10) hx hb dX7_event_27 (by rfl) ?_
        refine lv_idiv hx hb dX7_event_29 (by decide) ?_
        refine zr_ti (y := nI (x9 / 10)) (pk_div (by omega) (by omega) (by omega)) ?_
        refine lv_iload_n hx hb dX7_event_30 rfl (lv_at hl 2 rfl) ?_
        refine lv_bipush (v := nI 10) hx hb dX7_event_31 (by rfl) ?_
        refine lv_irem hx hb dX7_event_33 (by decide) ?_
        refine zr_ti (y := nI (x9 % 10)) (pk_rem (by omega) (by omega) (by omega)) ?_
        refine zr_ci hP hS (va_runV (As := [.int (nI 2), .int (nI (x9 / 10)), .int (nI (x9 % 10))]) (rest := []) ⟨hx, hb, hml, hown, hts⟩ (c_X3_mayChange_2 l D E g0 g1 g2 g3 g4 g5 g6 g7 kd h0 h1 h2 h3 h4 h5 h6 N hm aw rv sd gm ca (nI (x9 / 10)) (nI (x9 % 10)) (hN)) (cwV 3 hts gX7_event_X3_mayChange rfl rfl rfl (by decide +kernel) ⟨Nat.le_of_ble_eq_true rfl, Nat.le_of_ble_eq_true rfl⟩) (zr_V hK (hP.sub (ws' := [(g0, .inr (2, [.ref h0, .ref g1, .ref g2, .ref g3, .ref g4, .int (nI kd), .ref g5, .ref g6, .ref g7])), (h0, .inr (0, [.int (nI N), .ref h1, .ref h2, .ref h3, .ref h4, .ref h5, .ref h6])), (h1, .inl (E 0, 15, .inl hm)), (h2, .inl (E 0, 15, .inl aw)), (h3, .inl (E 0, 30, .inl rv)), (h4, .inl (E 0, 30, .inl sd)), (h5, .inl (E 0, 30, .inl gm)), (h6, .inl (E 0, 36, .inl ca))]) [1, 2, 3, 4, 5, 6, 7, 8] rfl) (ci := 2) (q0 := 0) rfl rfl) rfl rfl hl.1 rfl (lv_room (Nat.le_of_ble_eq_true rfl)) dX7_event_34 ⟨Nat.zero_le _, Nat.zero_le _⟩) (fun r_25 H locs hw_26 hP hS => ?_)
        rcases hw_26 with ⟨rfl, hw_26⟩ | ⟨rfl, hw_26⟩
        · skip
          obtain ⟨hA, hB⟩ := hw_26
          have hA := zm_rg_i (by omega) (by omega) hA
          have hB := zm_rg_i (by omega) (by omega) hB
          have e2 : zc_ev N v w = true := zc_ev_t (x := x9) (by omega) w_e (by omega) v_e (zc_k2_t hA hB)
          have q2 : zq w = x9 := by rw [w_e]; exact zq_t (by omega)
          have hx3 : x9 < 100 := by omega
          refine zr_ti (y := nI 1) rfl ?_
          refine lv_if_ne (tgt := 42) hx hb dX7_event_37 (by decide) (fun cn_27 => ?_) (fun cn_27 => ?_)
          · skip
            refine lv_aload_n hx hb dX7_event_42 rfl (lv_at hl 0 rfl) ?_
            refine va_get (D := D) (ci := 5) (v := .ref g0) (C := RX7) (T := TX7) (N := 6) hx hb hts (by decide +kernel) hown hK.1 hP 0 rfl rfl 0 (by decide) (hts (.fieldLink RX7 12 "HomeRounds" "now" "LHomeRounds$Setting;") (by decide +kernel)) (fun _ h9 => h9) rfl dX7_event_43 ?_
            refine va_get (D := D) (ci := 2) (v := .ref g6) (C := RX3) (T := TX3) (N := 9) hx hb hts (by decide +kernel) hown hK.1 hP 1 rfl rfl 7 (by decide) (hts (.fieldLink RX7 259 "HomeRounds$Setting" "events" "LHomeRounds$Rows;") (by decide +kernel)) (fun _ h9 => h9) rfl dX7_event_46 ?_
            refine zr_ci hP hS (va_runV (As := []) (rest := []) ⟨hx, hb, hml, hown, hts⟩ (c_X2_isFull l D E g6 s6 8 48 en c6 (by omega) (by omega)) (cwV 0 hts gX7_event_X2_isFull rfl rfl rfl (by decide +kernel) ⟨Nat.le_of_ble_eq_true rfl, Nat.le_of_ble_eq_true rfl⟩) (zr_V hK (hP.sub (ws' := [(g6, .inr (1, [.int (nI 8), .ref s6, .int (nI en)])), (s6, .inl (E 0, 48, .inl c6))]) [9, 10] rfl) (ci := 1) (q0 := 0) rfl rfl) rfl rfl hl.1 rfl (lv_room (Nat.le_of_ble_eq_true rfl)) dX7_event_49 ⟨Nat.zero_le _, Nat.zero_le _⟩) (fun r_28 H locs hw_29 hP hS => ?_)
            rcases hw_29 with ⟨rfl, hw_29⟩ | ⟨rfl, hw_29⟩
            · skip
              have e3 : decide (en < 8) = false := decide_eq_false (by omega)
              refine zr_ti (y := nI 1) rfl ?_
              refine lv_if_eq (tgt := 58) hx hb dX7_event_52 (by decide) (fun cn_30 => ?_) (fun cn_30 => ?_)
              · skip
                exact absurd cn_30 (by decide)
              · skip
                refine lv_bipush (v := (-4)) hx hb dX7_event_55 (by rfl) ?_
                subst hQ; subst hAe
                exact W.iret (v := (-4)) hx hb hr (fun tz htz hWz => ⟨⟨(-4), (en, c6), rfl, ⟨by unfold zo_event; simp only [cond_true, cond_false, Bool.and_true, Bool.and_false, Bool.true_and, Bool.false_and, d1, e2, e3], by simp only [cond_true, cond_false, Bool.and_true, Bool.and_false, Bool.true_and, Bool.false_and, d1, e2, e3], by simp only [cond_true, cond_false, Bool.and_true, Bool.and_false, Bool.true_and, Bool.false_and, d1, e2, e3]; exact hec⟩, by rw [htz]; exact hP, hD⟩, hS.F htz⟩) hS.2.2 dX7_event_57
            · skip
              have e3 : decide (en < 8) = true := decide_eq_true (by omega)
              refine zr_ti (y := nI 0) rfl ?_
              refine lv_if_eq (tgt := 58) hx hb dX7_event_52 (by decide) (fun cn_31 => ?_) (fun cn_31 => ?_)
              · skip
                refine lv_aload_n hx hb dX7_event_58 rfl (lv_at hl 0 rfl) ?_
                refine va_get (D := D) (ci := 5) (v := .ref g0) (C := RX7) (T := TX7) (N := 6) hx hb hts (by decide +kernel) hown hK.1 hP 0 rfl rfl 0 (by decide) (hts (.fieldLink RX7 12 "HomeRounds" "now" "LHomeRounds$Setting;") (by decide +kernel)) (fun _ h9 => h9) rfl dX7_event_59 ?_
                refine va_get (D := D) (ci := 2) (v := .ref g6) (C := RX3) (T := TX3) (N := 9) hx hb hts (by decide +kernel) hown hK.1 hP 1 rfl rfl 7 (by decide) (hts (.fieldLink RX7 259 "HomeRounds$Setting" "events" "LHomeRounds$Rows;") (by decide +kernel)) (fun _ h9 => h9) rfl dX7_event_62 ?_
                refine lv_iload_n hx hb dX7_event_65 rfl (lv_at hl 1 rfl) ?_
                refine lv_iload_n hx hb dX7_event_66 rfl (lv_at hl 2 rfl) ?_
                refine lv_bipush (v := nI 10) hx hb dX7_event_67 (by rfl) ?_
                refine lv_idiv hx hb dX7_event_69 (by decide) ?_
                refine zr_ti (y := nI (x9 / 10)) (pk_div (by omega) (by omega) (by omega)) ?_
                refine lv_iload_n hx hb dX7_event_70 rfl (lv_at hl 2 rfl) ?_
                refine lv_bipush (v := nI 10) hx hb dX7_event_71 (by rfl) ?_
                refine lv_irem hx hb dX7_event_73 (by decide) ?_
                refine zr_ti (y := nI (x9 % 10)) (pk_rem (by omega) (by omega) (by omega)) ?_
                refine lv_iconst (v := nI 0) hx hb dX7_event_74 (by rfl) ?_
                have hPc := hP.sub (ws' := [(g6, .inr (1, [.int (nI 8), .ref s6, .int (nI en)])), (s6, .inl (E 0, 48, .inl c6))]) [9, 10] rfl
                have hDc := hD.sub (ws' := [(g6, .inr (1, [.int (nI 8), .ref s6, .int (nI en)])), (s6, .inl (E 0, 48, .inl c6))]) [9, 10] (by decide +kernel) rfl
                have hAc := zw_AA (wc := [(g6, .inr (1, [.int (nI 8), .ref s6, .int (nI en)])), (s6, .inl (E 0, 48, .inl c6))]) hD [9, 10] rfl
                refine zw_cv hAc hS (va_runV (As := [.int (nI 2), .int (nI (x9 / 10)), .int (nI (x9 % 10)), .int (nI 0)]) (rest := []) ⟨hx, hb, hml, hown, hts⟩ (c_X2_add l D E g6 s6 8 48 en c6 (nI 2) (nI (x9 / 10)) (nI (x9 % 10)) (nI 0) (by omega) (by omega) (by omega)) (cwV 4 hts gX7_event_X2_add rfl rfl rfl (by decide +kernel) ⟨Nat.le_of_ble_eq_true rfl, Nat.le_of_ble_eq_true rfl⟩) (zw_V hK hPc hDc (ci := 1) (q0 := 0) rfl rfl) rfl rfl hl.1 rfl (lv_room (Nat.le_of_ble_eq_true rfl)) dX7_event_75 ⟨Nat.zero_le _, Nat.zero_le _⟩) (fun u_34 H locs hw_33 hP1 hD1 hk1 hS => ?_)
                obtain ⟨hP, hD⟩ := zw_join (wr := [(x0, .inr (5, [.ref g0, .ref xk, .ref xt, .ref xx, .ref xp, .int ik])), (g0, .inr (2, [.ref h0, .ref g1, .ref g2, .ref g3, .ref g4, .int (nI kd), .ref g5, .ref g6, .ref g7])), (h0, .inr (0, [.int (nI N), .ref h1, .ref h2, .ref h3, .ref h4, .ref h5, .ref h6])), (h1, .inl (E 0, 15, .inl hm)), (h2, .inl (E 0, 15, .inl aw)), (h3, .inl (E 0, 30, .inl rv)), (h4, .inl (E 0, 30, .inl sd)), (h5, .inl (E 0, 30, .inl gm)), (h6, .inl (E 0, 36, .inl ca))]) (w1 := [(g6, .inr (1, [.int (nI 8), .ref s6, .int (nI (en + 1))])), (s6, .inl (E 0, 48, .inl (upd (upd (upd (upd c6 (en * 4) (nI 2)) (en * 4 + 1) (nI (x9 / 10))) (en * 4 + 2) (nI (x9 % 10))) (en * 4 + 3) (nI 0))))]) (ws' := [(x0, .inr (5, [.ref g0, .ref xk, .ref xt, .ref xx, .ref xp, .int ik])), (g0, .inr (2, [.ref h0, .ref g1, .ref g2, .ref g3, .ref g4, .int (nI kd), .ref g5, .ref g6, .ref g7])), (h0, .inr (0, [.int (nI N), .ref h1, .ref h2, .ref h3, .ref h4, .ref h5, .ref h6])), (h1, .inl (E 0, 15, .inl hm)), (h2, .inl (E 0, 15, .inl aw)), (h3, .inl (E 0, 30, .inl rv)), (h4, .inl (E 0, 30, .inl sd)), (h5, .inl (E 0, 30, .inl gm)), (h6, .inl (E 0, 36, .inl ca)), (g6, .inr (1, [.int (nI 8), .ref s6, .int (nI (en + 1))])), (s6, .inl (E 0, 48, .inl (upd (upd (upd (upd c6 (en * 4) (nI 2)) (en * 4 + 1) (nI (x9 / 10))) (en * 4 + 2) (nI (x9 % 10))) (en * 4 + 3) (nI 0))))]) hP hD [9, 10] [0, 1, 2, 3, 4, 5, 6, 7, 8] [0, 1, 2, 3, 4, 5, 6, 7, 8, 9, 10] rfl rfl (by decide +kernel) (by decide +kernel) hAc hk1 hP1 hD1 (by decide +kernel) rfl
                clear hP1 hD1 hk1 hPc hDc hAc
                refine lv_aload_n hx hb dX7_event_78 rfl (lv_at hl 0 rfl) ?_
                refine va_get (D := D) (ci := 5) (v := .ref g0) (C := RX7) (T := TX7) (N := 6) hx hb hts (by decide +kernel) hown hK.1 hP 0 rfl rfl 0 (by decide) (hts (.fieldLink RX7 12 "HomeRounds" "now" "LHomeRounds$Setting;") (by decide +kernel)) (fun _ h9 => h9) rfl dX7_event_79 ?_
                refine va_get (D := D) (ci := 2) (v := .ref g6) (C := RX3) (T := TX3) (N := 9) hx hb hts (by decide +kernel) hown hK.1 hP 1 rfl rfl 7 (by decide) (hts (.fieldLink RX7 259 "HomeRounds$Setting" "events" "LHomeRounds$Rows;") (by decide +kernel)) (fun _ h9 => h9) rfl dX7_event_82 ?_
                refine va_get (D := D) (ci := 1) (v := .int (nI (en + 1))) (C := RX2) (T := TX2) (N := 3) hx hb hts (by decide +kernel) hown hK.1 hP 9 rfl rfl 2 (by decide) (hts (.fieldLink RX7 119 "HomeRounds$Rows" "size" "I") (by decide +kernel)) (fun _ h9 => h9) rfl dX7_event_85 ?_
                subst hQ; subst hAe
                exact W.iret (v := nI (en + 1)) hx hb hr (fun tz htz hWz => ⟨⟨nI (en + 1), (en + 1, upd (upd (upd (upd c6 (en * 4) (nI 2)) (en * 4 + 1) (nI (x9 / 10))) (en * 4 + 2) (nI (x9 % 10))) (en * 4 + 3) (nI 0)), rfl, ⟨by unfold zo_event; simp only [cond_true, cond_false, Bool.and_true, Bool.and_false, Bool.true_and, Bool.false_and, d1, e2, e3, q1, q2], by simp only [cond_true, cond_false, Bool.and_true, Bool.and_false, Bool.true_and, Bool.false_and, d1, e2, e3, q1, q2], by simp only [cond_true, cond_false, Bool.and_true, Bool.and_false, Bool.true_and, Bool.false_and, d1, e2, e3, q1, q2]; exact (zm_ec_up hec)⟩, by rw [htz]; exact hP, hD⟩, hS.F htz⟩) hS.2.2 dX7_event_88
              · skip
                exact absurd cn_31 (by decide)
          · skip
            exact absurd cn_27 (by decide)
        · skip
          have e2 : zc_ev N v w = false := zc_ev_f hx9 w_e (by omega) v_e (zc_k2_f (fun q => hw_26 ⟨zm_rg_o q.1, zm_rg_o q.2⟩))
          refine zr_ti (y := nI 0) rfl ?_
          refine lv_if_ne (tgt := 42) hx hb dX7_event_37 (by decide) (fun cn_35 => ?_) (fun cn_35 => ?_)
          · skip
            exact absurd cn_35 (by decide)
          · skip
            refine lv_iconst (v := (-1)) hx hb dX7_event_40 (by rfl) ?_
            subst hQ; subst hAe
            exact W.iret (v := (-1)) hx hb hr (fun tz htz hWz => ⟨⟨(-1), (en, c6), rfl, ⟨by unfold zo_event; simp only [cond_true, cond_false, Bool.and_true, Bool.and_false, Bool.true_and, Bool.false_and, d1, e2], by simp only [cond_true, cond_false, Bool.and_true, Bool.and_false, Bool.true_and, Bool.false_and, d1, e2], by simp only [cond_true, cond_false, Bool.and_true, Bool.and_false, Bool.true_and, Bool.false_and, d1, e2]; exact hec⟩, by rw [htz]; exact hP, hD⟩, hS.F htz⟩) hS.2.2 dX7_event_41
      · skip
        rw [v_e] at hl
        have q1 : zq v = 3 := by rw [v_e]; exact zq_t (by omega)
        refine lv_aload_n hx hb dX7_event_21 rfl (lv_at hl 0 rfl) ?_
        refine va_get (D := D) (ci := 5) (v := .ref g0) (C := RX7) (T := TX7) (N := 6) hx hb hts (by decide +kernel) hown hK.1 hP 0 rfl rfl 0 (by decide) (hts (.fieldLink RX7 12 "HomeRounds" "now" "LHomeRounds$Setting;") (by decide +kernel)) (fun _ h9 => h9) rfl dX7_event_22 ?_
        refine lv_iload_n hx hb dX7_event_25 rfl (lv_at hl 1 rfl) ?_
        refine lv_iload_n hx hb dX7_event_26 rfl (lv_at hl 2 rfl) ?_
        refine lv_bipush (v := nI 10) hx hb dX7_event_27 (by rfl) ?_
        refine lv_idiv hx hb dX7_event_29 (by decide) ?_
        refine zr_ti (y := nI (x9 / 10)) (pk_div (by omega) (by omega) (by omega)) ?_
        refine lv_iload_n hx hb dX7_event_30 rfl (lv_at hl 2 rfl) ?_
        refine lv_bipush (v := nI 10) hx hb dX7_event_31 (by rfl) ?_
        refine lv_irem hx hb dX7_event_33 (by decide) ?_
        refine zr_ti (y := nI (x9 % 10)) (pk_rem (by omega) (by omega) (by omega)) ?_
        refine zr_ci hP hS (va_runV (As := [.int (nI 3), .int (nI (x9 / 10)), .int (nI (x9 % 10))]) (rest := []) ⟨hx, hb, hml, hown, hts⟩ (c_X3_mayChange_3 l D E g0 g1 g2 g3 g4 g5 g6 g7 kd h0 h1 h2 h3 h4 h5 h6 N hm aw rv sd gm ca (nI (x9 / 10)) (nI (x9 % 10)) (hN)) (cwV 3 hts gX7_event_X3_mayChange rfl rfl rfl (by decide +kernel) ⟨Nat.le_of_ble_eq_true rfl, Nat.le_of_ble_eq_true rfl⟩) (zr_V hK (hP.sub (ws' := [(g0, .inr (2, [.ref h0, .ref g1, .ref g2, .ref g3, .ref g4, .int (nI kd), .ref g5, .ref g6, .ref g7])), (h0, .inr (0, [.int (nI N), .ref h1, .ref h2, .ref h3, .ref h4, .ref h5, .ref h6])), (h1, .inl (E 0, 15, .inl hm)), (h2, .inl (E 0, 15, .inl aw)), (h3, .inl (E 0, 30, .inl rv)), (h4, .inl (E 0, 30, .inl sd)), (h5, .inl (E 0, 30, .inl gm)), (h6, .inl (E 0, 36, .inl ca))]) [1, 2, 3, 4, 5, 6, 7, 8] rfl) (ci := 2) (q0 := 0) rfl rfl) rfl rfl hl.1 rfl (lv_room (Nat.le_of_ble_eq_true rfl)) dX7_event_34 ⟨Nat.zero_le _, Nat.zero_le _⟩) (fun r_36 H locs hw_37 hP hS => ?_)
        rcases hw_37 with ⟨rfl, hw_37⟩ | ⟨rfl, hw_37⟩
        · skip
          obtain ⟨hA, hB⟩ := hw_37
          have hA := zm_rg_i (by omega) (by omega) hA
          have hB := zm_rg_i (by omega) (by omega) hB
          have e2 : zc_ev N v w = true := zc_ev_t (x := x9) (by omega) w_e (by omega) v_e (decide_eq_true hA)
          have q2 : zq w = x9 := by rw [w_e]; exact zq_t (by omega)
          have hx3 : x9 < 100 := by omega
          refine zr_ti (y := nI 1) rfl ?_
          refine lv_if_ne (tgt := 42) hx hb dX7_event_37 (by decide) (fun cn_38 => ?_) (fun cn_38 => ?_)
          · skip
            refine lv_aload_n hx hb dX7_event_42 rfl (lv_at hl 0 rfl) ?_
            refine va_get (D := D) (ci := 5) (v := .ref g0) (C := RX7) (T := TX7) (N := 6) hx hb hts (by decide +kernel) hown hK.1 hP 0 rfl rfl 0 (by decide) (hts (.fieldLink RX7 12 "HomeRounds" "now" "LHomeRounds$Setting;") (by decide +kernel)) (fun _ h9 => h9) rfl dX7_event_43 ?_
            refine va_get (D := D) (ci := 2) (v := .ref g6) (C := RX3) (T := TX3) (N := 9) hx hb hts (by decide +kernel) hown hK.1 hP 1 rfl rfl 7 (by decide) (hts (.fieldLink RX7 259 "HomeRounds$Setting" "events" "LHomeRounds$Rows;") (by decide +kernel)) (fun _ h9 => h9) rfl dX7_event_46 ?_
            refine zr_ci hP hS (va_runV (As := []) (rest := []) ⟨hx, hb, hml, hown, hts⟩ (c_X2_isFull l D E g6 s6 8 48 en c6 (by omega) (by omega)) (cwV 0 hts gX7_event_X2_isFull rfl rfl rfl (by decide +kernel) ⟨Nat.le_of_ble_eq_true rfl, Nat.le_of_ble_eq_true rfl⟩) (zr_V hK (hP.sub (ws' := [(g6, .inr (1, [.int (nI 8), .ref s6, .int (nI en)])), (s6, .inl (E 0, 48, .inl c6))]) [9, 10] rfl) (ci := 1) (q0 := 0) rfl rfl) rfl rfl hl.1 rfl (lv_room (Nat.le_of_ble_eq_true rfl)) dX7_event_49 ⟨Nat.zero_le _, Nat.zero_le _⟩) (fun r_39 H locs hw_40 hP hS => ?_)
            rcases hw_40 with ⟨rfl, hw_40⟩ | ⟨rfl, hw_40⟩
            · skip
              have e3 : decide (en < 8) = false := decide_eq_false (by omega)
              refine zr_ti (y := nI 1) rfl ?_
              refine lv_if_eq (tgt := 58) hx hb dX7_event_52 (by decide) (fun cn_41 => ?_) (fun cn_41 => ?_)
              · skip
                exact absurd cn_41 (by decide)
              · skip
                refine lv_bipush (v := (-4)) hx hb dX7_event_55 (by rfl) ?_
                subst hQ; subst hAe
                exact W.iret (v := (-4)) hx hb hr (fun tz htz hWz => ⟨⟨(-4), (en, c6), rfl, ⟨by unfold zo_event; simp only [cond_true, cond_false, Bool.and_true, Bool.and_false, Bool.true_and, Bool.false_and, d1, e2, e3], by simp only [cond_true, cond_false, Bool.and_true, Bool.and_false, Bool.true_and, Bool.false_and, d1, e2, e3], by simp only [cond_true, cond_false, Bool.and_true, Bool.and_false, Bool.true_and, Bool.false_and, d1, e2, e3]; exact hec⟩, by rw [htz]; exact hP, hD⟩, hS.F htz⟩) hS.2.2 dX7_event_57
            · skip
              have e3 : decide (en < 8) = true := decide_eq_true (by omega)
              refine zr_ti (y := nI 0) rfl ?_
              refine lv_if_eq (tgt := 58) hx hb dX7_event_52 (by decide) (fun cn_42 => ?_) (fun cn_42 => ?_)
              · skip
                refine lv_aload_n hx hb dX7_event_58 rfl (lv_at hl 0 rfl) ?_
                refine va_get (D := D) (ci := 5) (v := .ref g0) (C := RX7) (T := TX7) (N := 6) hx hb hts (by decide +kernel) hown hK.1 hP 0 rfl rfl 0 (by decide) (hts (.fieldLink RX7 12 "HomeRounds" "now" "LHomeRounds$Setting;") (by decide +kernel)) (fun _ h9 => h9) rfl dX7_event_59 ?_
                refine va_get (D := D) (ci := 2) (v := .ref g6) (C := RX3) (T := TX3) (N := 9) hx hb hts (by decide +kernel) hown hK.1 hP 1 rfl rfl 7 (by decide) (hts (.fieldLink RX7 259 "HomeRounds$Setting" "events" "LHomeRounds$Rows;") (by decide +kernel)) (fun _ h9 => h9) rfl dX7_event_62 ?_
                refine lv_iload_n hx hb dX7_event_65 rfl (lv_at hl 1 rfl) ?_
                refine lv_iload_n hx hb dX7_event_66 rfl (lv_at hl 2 rfl) ?_
                refine lv_bipush (v := nI 10) hx hb dX7_event_67 (by rfl) ?_
                refine lv_idiv hx hb dX7_event_69 (by decide) ?_
                refine zr_ti (y := nI (x9 / 10)) (pk_div (by omega) (by omega) (by omega)) ?_
                refine lv_iload_n hx hb dX7_event_70 rfl (lv_at hl 2 rfl) ?_
                refine lv_bipush (v := nI 10) hx hb dX7_event_71 (by rfl) ?_
                refine lv_irem hx hb dX7_event_73 (by decide) ?_
                refine zr_ti (y := nI (x9 % 10)) (pk_rem (by omega) (by omega) (by omega)) ?_
                refine lv_iconst (v := nI 0) hx hb dX7_event_74 (by rfl) ?_
                have hPc := hP.sub (ws' := [(g6, .inr (1, [.int (nI 8), .ref s6, .int (nI en)])), (s6, .inl (E 0, 48, .inl c6))]) [9, 10] rfl
                have hDc := hD.sub (ws' := [(g6, .inr (1, [.int (nI 8), .ref s6, .int (nI en)])), (s6, .inl (E 0, 48, .inl c6))]) [9, 10] (by decide +kernel) rfl
                have hAc := zw_AA (wc := [(g6, .inr (1, [.int (nI 8), .ref s6, .int (nI en)])), (s6, .inl (E 0, 48, .inl c6))]) hD [9, 10] rfl
                refine zw_cv hAc hS (va_runV (As := [.int (nI 3), .int (nI (x9 / 10)), .int (nI (x9 % 10)), .int (nI 0)]) (rest := []) ⟨hx, hb, hml, hown, hts⟩ (c_X2_add l D E g6 s6 8 48 en c6 (nI 3) (nI (x9 / 10)) (nI (x9 % 10)) (nI 0) (by omega) (by omega) (by omega)) (cwV 4 hts gX7_event_X2_add rfl rfl rfl (by decide +kernel) ⟨Nat.le_of_ble_eq_true rfl, Nat.le_of_ble_eq_true rfl⟩) (zw_V hK hPc hDc (ci := 1) (q0 := 0) rfl rfl) rfl rfl hl.1 rfl (lv_room (Nat.le_of_ble_eq_true rfl)) dX7_event_75 ⟨Nat.zero_le _, Nat.zero_le _⟩) (fun u_45 H locs hw_44 hP1 hD1 hk1 hS => ?_)
                obtain ⟨hP, hD⟩ := zw_join (wr := [(x0, .inr (5, [.ref g0, .ref xk, .ref xt, .ref xx, .ref xp, .int ik])), (g0, .inr (2, [.ref h0, .ref g1, .ref g2, .ref g3, .ref g4, .int (nI kd), .ref g5, .ref g6, .ref g7])), (h0, .inr (0, [.int (nI N), .ref h1, .ref h2, .ref h3, .ref h4, .ref h5, .ref h6])), (h1, .inl (E 0, 15, .inl hm)), (h2, .inl (E 0, 15, .inl aw)), (h3, .inl (E 0, 30, .inl rv)), (h4, .inl (E 0, 30, .inl sd)), (h5, .inl (E 0, 30, .inl gm)), (h6, .inl (E 0, 36, .inl ca))]) (w1 := [(g6, .inr (1, [.int (nI 8), .ref s6, .int (nI (en + 1))])), (s6, .inl (E 0, 48, .inl (upd (upd (upd (upd c6 (en * 4) (nI 3)) (en * 4 + 1) (nI (x9 / 10))) (en * 4 + 2) (nI (x9 % 10))) (en * 4 + 3) (nI 0))))]) (ws' := [(x0, .inr (5, [.ref g0, .ref xk, .ref xt, .ref xx, .ref xp, .int ik])), (g0, .inr (2, [.ref h0, .ref g1, .ref g2, .ref g3, .ref g4, .int (nI kd), .ref g5, .ref g6, .ref g7])), (h0, .inr (0, [.int (nI N), .ref h1, .ref h2, .ref h3, .ref h4, .ref h5, .ref h6])), (h1, .inl (E 0, 15, .inl hm)), (h2, .inl (E 0, 15, .inl aw)), (h3, .inl (E 0, 30, .inl rv)), (h4, .inl (E 0, 30, .inl sd)), (h5, .inl (E 0, 30, .inl gm)), (h6, .inl (E 0, 36, .inl ca)), (g6, .inr (1, [.int (nI 8), .ref s6, .int (nI (en + 1))])), (s6, .inl (E 0, 48, .inl (upd (upd (upd (upd c6 (en * 4) (nI 3)) (en * 4 + 1) (nI (x9 / 10))) (en * 4 + 2) (nI (x9 % 10))) (en * 4 + 3) (nI 0))))]) hP hD [9, 10] [0, 1, 2, 3, 4, 5, 6, 7, 8] [0, 1, 2, 3, 4, 5, 6, 7, 8, 9, 10] rfl rfl (by decide +kernel) (by decide +kernel) hAc hk1 hP1 hD1 (by decide +kernel) rfl
                clear hP1 hD1 hk1 hPc hDc hAc
                refine lv_aload_n hx hb dX7_event_78 rfl (lv_at hl 0 rfl) ?_
                refine va_get (D := D) (ci := 5) (v := .ref g0) (C := RX7) (T := TX7) (N := 6) hx hb hts (by decide +kernel) hown hK.1 hP 0 rfl rfl 0 (by decide) (hts (.fieldLink RX7 12 "HomeRounds" "now" "LHomeRounds$Setting;") (by decide +kernel)) (fun _ h9 => h9) rfl dX7_event_79 ?_
                refine va_get (D := D) (ci := 2) (v := .ref g6) (C := RX3) (T := TX3) (N := 9) hx hb hts (by decide +kernel) hown hK.1 hP 1 rfl rfl 7 (by decide) (hts (.fieldLink RX7 259 "HomeRounds$Setting" "events" "LHomeRounds$Rows;") (by decide +kernel)) (fun _ h9 => h9) rfl dX7_event_82 ?_
                refine va_get (D := D) (ci := 1) (v := .int (nI (en + 1))) (C := RX2) (T := TX2) (N := 3) hx hb hts (by decide +kernel) hown hK.1 hP 9 rfl rfl 2 (by decide) (hts (.fieldLink RX7 119 "HomeRounds$Rows" "size" "I") (by decide +kernel)) (fun _ h9 => h9) rfl dX7_event_85 ?_
                subst hQ; subst hAe
                exact W.iret (v := nI (en + 1)) hx hb hr (fun tz htz hWz => ⟨⟨nI (en + 1), (en + 1, upd (upd (upd (upd c6 (en * 4) (nI 3)) (en * 4 + 1) (nI (x9 / 10))) (en * 4 + 2) (nI (x9 % 10))) (en * 4 + 3) (nI 0)), rfl, ⟨by unfold zo_event; simp only [cond_true, cond_false, Bool.and_true, Bool.and_false, Bool.true_and, Bool.false_and, d1, e2, e3, q1, q2], by simp only [cond_true, cond_false, Bool.and_true, Bool.and_false, Bool.true_and, Bool.false_and, d1, e2, e3, q1, q2], by simp only [cond_true, cond_false, Bool.and_true, Bool.and_false, Bool.true_and, Bool.false_and, d1, e2, e3, q1, q2]; exact (zm_ec_up hec)⟩, by rw [htz]; exact hP, hD⟩, hS.F htz⟩) hS.2.2 dX7_event_88
              · skip
                exact absurd cn_42 (by decide)
          · skip
            exact absurd cn_38 (by decide)
        · skip
          have e2 : zc_ev N v w = false := zc_ev_f hx9 w_e (by omega) v_e (decide_eq_false (fun q => hw_37 ⟨zm_rg_o q, zm_rg_o (by omega)⟩))
          refine zr_ti (y := nI 0) rfl ?_
          refine lv_if_ne (tgt := 42) hx hb dX7_event_37 (by decide) (fun cn_46 => ?_) (fun cn_46 => ?_)
          · skip
            exact absurd cn_46 (by decide)
          · skip
            refine lv_iconst (v := (-1)) hx hb dX7_event_40 (by rfl) ?_
            subst hQ; subst hAe
            exact W.iret (v := (-1)) hx hb hr (fun tz htz hWz => ⟨⟨(-1), (en, c6), rfl, ⟨by unfold zo_event; simp only [cond_true, cond_false, Bool.and_true, Bool.and_false, Bool.true_and, Bool.false_and, d1, e2], by simp only [cond_true, cond_false, Bool.and_true, Bool.and_false, Bool.true_and, Bool.false_and, d1, e2], by simp only [cond_true, cond_false, Bool.and_true, Bool.and_false, Bool.true_and, Bool.false_and, d1, e2]; exact hec⟩, by rw [htz]; exact hP, hD⟩, hS.F htz⟩) hS.2.2 dX7_event_41
      · skip
        have hvo : ∀ t : Nat, t < 4 → v ≠ nI t := fun t ht e => hvn (by rw [e]; exact zi_t ht (by omega))
        refine lv_aload_n hx hb dX7_event_21 rfl (lv_at hl 0 rfl) ?_
        refine va_get (D := D) (ci := 5) (v := .ref g0) (C := RX7) (T := TX7) (N := 6) hx hb hts (by decide +kernel) hown hK.1 hP 0 rfl rfl 0 (by decide) (hts (.fieldLink RX7 12 "HomeRounds" "now" "LHomeRounds$Setting;") (by decide +kernel)) (fun _ h9 => h9) rfl dX7_event_22 ?_
        refine lv_iload_n hx hb dX7_event_25 rfl (lv_at hl 1 rfl) ?_
        refine lv_iload_n hx hb dX7_event_26 rfl (lv_at hl 2 rfl) ?_
        refine lv_bipush (v := nI 10) hx hb dX7_event_27 (by rfl) ?_
        refine lv_idiv hx hb dX7_event_29 (by decide) ?_
        refine zr_ti (y := nI (x9 / 10)) (pk_div (by omega) (by omega) (by omega)) ?_
        refine lv_iload_n hx hb dX7_event_30 rfl (lv_at hl 2 rfl) ?_
        refine lv_bipush (v := nI 10) hx hb dX7_event_31 (by rfl) ?_
        refine lv_irem hx hb dX7_event_33 (by decide) ?_
        refine zr_ti (y := nI (x9 % 10)) (pk_rem (by omega) (by omega) (by omega)) ?_
        refine zr_ci hP hS (va_runV (As := [.int v, .int (nI (x9 / 10)), .int (nI (x9 % 10))]) (rest := []) ⟨hx, hb, hml, hown, hts⟩ (c_X3_mayChange_o l D E g0 g1 g2 g3 g4 g5 g6 g7 kd h0 h1 h2 h3 h4 h5 h6 N hm aw rv sd gm ca v (nI (x9 / 10)) (nI (x9 % 10)) (hN) (hvo)) (cwV 3 hts gX7_event_X3_mayChange rfl rfl rfl (by decide +kernel) ⟨Nat.le_of_ble_eq_true rfl, Nat.le_of_ble_eq_true rfl⟩) (zr_V hK (hP.sub (ws' := [(g0, .inr (2, [.ref h0, .ref g1, .ref g2, .ref g3, .ref g4, .int (nI kd), .ref g5, .ref g6, .ref g7])), (h0, .inr (0, [.int (nI N), .ref h1, .ref h2, .ref h3, .ref h4, .ref h5, .ref h6])), (h1, .inl (E 0, 15, .inl hm)), (h2, .inl (E 0, 15, .inl aw)), (h3, .inl (E 0, 30, .inl rv)), (h4, .inl (E 0, 30, .inl sd)), (h5, .inl (E 0, 30, .inl gm)), (h6, .inl (E 0, 36, .inl ca))]) [1, 2, 3, 4, 5, 6, 7, 8] rfl) (ci := 2) (q0 := 0) rfl rfl) rfl rfl hl.1 rfl (lv_room (Nat.le_of_ble_eq_true rfl)) dX7_event_34 ⟨Nat.zero_le _, Nat.zero_le _⟩) (fun r_47 H locs hw_48 hP hS => ?_)
        subst hw_48
        have e2 : zc_ev N v w = false := zc_ev_v (Bool.eq_false_iff.mpr hvn)
        refine lv_if_ne (tgt := 42) hx hb dX7_event_37 (by decide) (fun cn_49 => ?_) (fun cn_49 => ?_)
        · skip
          exact absurd cn_49 (by decide)
        · skip
          refine lv_iconst (v := (-1)) hx hb dX7_event_40 (by rfl) ?_
          subst hQ; subst hAe
          exact W.iret (v := (-1)) hx hb hr (fun tz htz hWz => ⟨⟨(-1), (en, c6), rfl, ⟨by unfold zo_event; simp only [cond_true, cond_false, Bool.and_true, Bool.and_false, Bool.true_and, Bool.false_and, d1, e2], by simp only [cond_true, cond_false, Bool.and_true, Bool.and_false, Bool.true_and, Bool.false_and, d1, e2], by simp only [cond_true, cond_false, Bool.and_true, Bool.and_false, Bool.true_and, Bool.false_and, d1, e2]; exact hec⟩, by rw [htz]; exact hP, hD⟩, hS.F htz⟩) hS.2.2 dX7_event_41
  · skip
    have d1 : decide (v = -1) = true := decide_eq_true cn_1
    have e2 : zc_ev N v w = false := zc_ev_v (zi_m1 (by omega) cn_1)
    refine lv_aload_n hx hb dX7_event_5 rfl (lv_at hl 0 rfl) ?_
    refine va_get (D := D) (ci := 5) (v := .ref g0) (C := RX7) (T := TX7) (N := 6) hx hb hts (by decide +kernel) hown hK.1 hP 0 rfl rfl 0 (by decide) (hts (.fieldLink RX7 12 "HomeRounds" "now" "LHomeRounds$Setting;") (by decide +kernel)) (fun _ h9 => h9) rfl dX7_event_6 ?_
    refine va_get (D := D) (ci := 2) (v := .ref g6) (C := RX3) (T := TX3) (N := 9) hx hb hts (by decide +kernel) hown hK.1 hP 1 rfl rfl 7 (by decide) (hts (.fieldLink RX7 259 "HomeRounds$Setting" "events" "LHomeRounds$Rows;") (by decide +kernel)) (fun _ h9 => h9) rfl dX7_event_9 ?_
    have hPc := hP.sub (ws' := [(g6, .inr (1, [.int (nI 8), .ref s6, .int (nI en)])), (s6, .inl (E 0, 48, .inl c6))]) [9, 10] rfl
    have hDc := hD.sub (ws' := [(g6, .inr (1, [.int (nI 8), .ref s6, .int (nI en)])), (s6, .inl (E 0, 48, .inl c6))]) [9, 10] (by decide +kernel) rfl
    have hAc := zw_AA (wc := [(g6, .inr (1, [.int (nI 8), .ref s6, .int (nI en)])), (s6, .inl (E 0, 48, .inl c6))]) hD [9, 10] rfl
    refine zw_cv hAc hS (va_runV (As := []) (rest := []) ⟨hx, hb, hml, hown, hts⟩ (c_X2_empty l D E g6 s6 8 48 en c6 ) (cwV 0 hts gX7_event_X2_empty rfl rfl rfl (by decide +kernel) ⟨Nat.le_of_ble_eq_true rfl, Nat.le_of_ble_eq_true rfl⟩) (zw_V hK hPc hDc (ci := 1) (q0 := 0) rfl rfl) rfl rfl hl.1 rfl (lv_room (Nat.le_of_ble_eq_true rfl)) dX7_event_12 ⟨Nat.zero_le _, Nat.zero_le _⟩) (fun u_52 H locs hw_51 hP1 hD1 hk1 hS => ?_)
    obtain ⟨hP, hD⟩ := zw_join (wr := [(x0, .inr (5, [.ref g0, .ref xk, .ref xt, .ref xx, .ref xp, .int ik])), (g0, .inr (2, [.ref h0, .ref g1, .ref g2, .ref g3, .ref g4, .int (nI kd), .ref g5, .ref g6, .ref g7])), (h0, .inr (0, [.int (nI N), .ref h1, .ref h2, .ref h3, .ref h4, .ref h5, .ref h6])), (h1, .inl (E 0, 15, .inl hm)), (h2, .inl (E 0, 15, .inl aw)), (h3, .inl (E 0, 30, .inl rv)), (h4, .inl (E 0, 30, .inl sd)), (h5, .inl (E 0, 30, .inl gm)), (h6, .inl (E 0, 36, .inl ca))]) (w1 := [(g6, .inr (1, [.int (nI 8), .ref s6, .int (nI 0)])), (s6, .inl (E 0, 48, .inl c6))]) (ws' := [(x0, .inr (5, [.ref g0, .ref xk, .ref xt, .ref xx, .ref xp, .int ik])), (g0, .inr (2, [.ref h0, .ref g1, .ref g2, .ref g3, .ref g4, .int (nI kd), .ref g5, .ref g6, .ref g7])), (h0, .inr (0, [.int (nI N), .ref h1, .ref h2, .ref h3, .ref h4, .ref h5, .ref h6])), (h1, .inl (E 0, 15, .inl hm)), (h2, .inl (E 0, 15, .inl aw)), (h3, .inl (E 0, 30, .inl rv)), (h4, .inl (E 0, 30, .inl sd)), (h5, .inl (E 0, 30, .inl gm)), (h6, .inl (E 0, 36, .inl ca)), (g6, .inr (1, [.int (nI 8), .ref s6, .int (nI 0)])), (s6, .inl (E 0, 48, .inl c6))]) hP hD [9, 10] [0, 1, 2, 3, 4, 5, 6, 7, 8] [0, 1, 2, 3, 4, 5, 6, 7, 8, 9, 10] rfl rfl (by decide +kernel) (by decide +kernel) hAc hk1 hP1 hD1 (by decide +kernel) rfl
    clear hP1 hD1 hk1 hPc hDc hAc
    refine lv_iconst (v := nI 0) hx hb dX7_event_15 (by rfl) ?_
    subst hQ; subst hAe
    exact W.iret (v := nI 0) hx hb hr (fun tz htz hWz => ⟨⟨nI 0, (0, c6), rfl, ⟨by unfold zo_event; simp only [cond_true, cond_false, Bool.and_true, Bool.and_false, Bool.true_and, Bool.false_and, d1, e2], by simp only [cond_true, cond_false, Bool.and_true, Bool.and_false, Bool.true_and, Bool.false_and, d1, e2], by simp only [cond_true, cond_false, Bool.and_true, Bool.and_false, Bool.true_and, Bool.false_and, d1, e2]; exact (fun k hk => absurd hk (Nat.not_lt_zero _))⟩, by rw [htz]; exact hP, hD⟩, hS.F htz⟩) hS.2.2 dX7_event_16

set_option maxHeartbeats 4000000 in
set_option maxRecDepth 100000 in
theorem c_X7_book (l : Launch) (D : va_G) (E : Nat → ClassId) (x0 : Nat) (xk : Nat) (xt : Nat) (xx : Nat) (xp : Nat) (ik : Int32) (g0 : Nat) (g1 : Nat) (g2 : Nat) (g3 : Nat) (g4 : Nat) (g5 : Nat) (g6 : Nat) (g7 : Nat) (kd : Nat) (h0 : Nat) (h1 : Nat) (h2 : Nat) (h3 : Nat) (h4 : Nat) (h5 : Nat) (h6 : Nat) (N : Nat) (hm : Nat → Int32) (aw : Nat → Int32) (rv : Nat → Int32) (sd : Nat → Int32) (gm : Nat → Int32) (ca : Nat → Int32) (G : Nat → Nat → Nat) (P : Nat → Nat → Nat) (s7 : Nat) (bn : Nat) (c7 : Nat → Int32) (bT : Nat → Nat) (bN : Nat → Nat) (v : Int32) (w : Int32) (hpl : zm_pl N G P hm aw rv sd gm) (hbo : zs_bo N bn bT bN) (hbc : zm_bc bn bT bN c7) : Met l yX7_book wsX7_book ({ frames := 2, cells := 0, slots := 0, locals := 45 }) (zw_P D E [.ref x0, .int v, .int w] [(x0, .inr (5, [.ref g0, .ref xk, .ref xt, .ref xx, .ref xp, .int ik])), (g0, .inr (2, [.ref h0, .ref g1, .ref g2, .ref g3, .ref g4, .int (nI kd), .ref g5, .ref g6, .ref g7])), (h0, .inr (0, [.int (nI N), .ref h1, .ref h2, .ref h3, .ref h4, .ref h5, .ref h6])), (h1, .inl (E 0, 15, .inl hm)), (h2, .inl (E 0, 15, .inl aw)), (h3, .inl (E 0, 30, .inl rv)), (h4, .inl (E 0, 30, .inl sd)), (h5, .inl (E 0, 30, .inl gm)), (h6, .inl (E 0, 36, .inl ca)), (g7, .inr (1, [.int (nI 8), .ref s7, .int (nI bn)])), (s7, .inl (E 0, 48, .inl c7))]) (zw_Qi D [(x0, .inr (5, [.ref g0, .ref xk, .ref xt, .ref xx, .ref xp, .int ik])), (g0, .inr (2, [.ref h0, .ref g1, .ref g2, .ref g3, .ref g4, .int (nI kd), .ref g5, .ref g6, .ref g7])), (h0, .inr (0, [.int (nI N), .ref h1, .ref h2, .ref h3, .ref h4, .ref h5, .ref h6])), (h1, .inl (E 0, 15, .inl hm)), (h2, .inl (E 0, 15, .inl aw)), (h3, .inl (E 0, 30, .inl rv)), (h4, .inl (E 0, 30, .inl sd)), (h5, .inl (E 0, 30, .inl gm)), (h6, .inl (E 0, 36, .inl ca)), (g7, .inr (1, [.int (nI 8), .ref s7, .int (nI bn)])), (s7, .inl (E 0, 48, .inl c7))] (fun zv (u : (Nat) × (Nat → Int32)) => zv = zo_book N bn v w ∧ u.1 = cond (decide (v = -1)) 0 (cond (zc_book N bn v w) (bn + 1) bn) ∧ zm_bc u.1 (cond (zc_book N bn v w) (zm_up bT bn (zq v)) bT) (cond (zc_book N bn v w) (zm_up bN bn (zq w)) bN) u.2) (fun (u : (Nat) × (Nat → Int32)) => [(x0, .inr (5, [.ref g0, .ref xk, .ref xt, .ref xx, .ref xp, .int ik])), (g0, .inr (2, [.ref h0, .ref g1, .ref g2, .ref g3, .ref g4, .int (nI kd), .ref g5, .ref g6, .ref g7])), (h0, .inr (0, [.int (nI N), .ref h1, .ref h2, .ref h3, .ref h4, .ref h5, .ref h6])), (h1, .inl (E 0, 15, .inl hm)), (h2, .inl (E 0, 15, .inl aw)), (h3, .inl (E 0, 30, .inl rv)), (h4, .inl (E 0, 30, .inl sd)), (h5, .inl (E 0, 30, .inl gm)), (h6, .inl (E 0, 36, .inl ca)), (g7, .inr (1, [.int (nI 8), .ref s7, .int (nI u.1)])), (s7, .inl (E 0, 48, .inl u.2))])) 0 0 (zw_A [(x0, .inr (5, [.ref g0, .ref xk, .ref xt, .ref xx, .ref xp, .int ik])), (g0, .inr (2, [.ref h0, .ref g1, .ref g2, .ref g3, .ref g4, .int (nI kd), .ref g5, .ref g6, .ref g7])), (h0, .inr (0, [.int (nI N), .ref h1, .ref h2, .ref h3, .ref h4, .ref h5, .ref h6])), (h1, .inl (E 0, 15, .inl hm)), (h2, .inl (E 0, 15, .inl aw)), (h3, .inl (E 0, 30, .inl rv)), (h4, .inl (E 0, 30, .inl sd)), (h5, .inl (E 0, 30, .inl gm)), (h6, .inl (E 0, 36, .inl ca)), (g7, .inr (1, [.int (nI 8), .ref s7, .int (nI bn)])), (s7, .inl (E 0, 48, .inl c7))]) := by
  refine Met.ofW (cc := cX7_book) (maxL := 3) (ret := (some .int)) (by decide) rfl ?_
  intro p e s m args below meth c s₁ Bz hml hv
  obtain ⟨rfl, hP, hK, hD0⟩ := hv
  have hx := Bz.exec
  have hb := Bz.bytes
  have hr := Bz.returns
  have hts := atoms_spec (ws := wsX7_book) Bz.pre
  have hown : s.vm.findClass RX7 = some m.cls := findClass_of_methodNamed Bz.named
  have hlocks := Bz.notSynchronized
  have hP : va_P D vwCl [(x0, .inr (5, [.ref g0, .ref xk, .ref xt, .ref xx, .ref xp, .int ik])), (g0, .inr (2, [.ref h0, .ref g1, .ref g2, .ref g3, .ref g4, .int (nI kd), .ref g5, .ref g6, .ref g7])), (h0, .inr (0, [.int (nI N), .ref h1, .ref h2, .ref h3, .ref h4, .ref h5, .ref h6])), (h1, .inl (E 0, 15, .inl hm)), (h2, .inl (E 0, 15, .inl aw)), (h3, .inl (E 0, 30, .inl rv)), (h4, .inl (E 0, 30, .inl sd)), (h5, .inl (E 0, 30, .inl gm)), (h6, .inl (E 0, 36, .inl ca)), (g7, .inr (1, [.int (nI 8), .ref s7, .int (nI bn)])), (s7, .inl (E 0, 48, .inl c7))] s.heap := hP
  obtain ⟨A, hAe⟩ : ∃ A : Nat → Prop, A = zw_A [(x0, .inr (5, [.ref g0, .ref xk, .ref xt, .ref xx, .ref xp, .int ik])), (g0, .inr (2, [.ref h0, .ref g1, .ref g2, .ref g3, .ref g4, .int (nI kd), .ref g5, .ref g6, .ref g7])), (h0, .inr (0, [.int (nI N), .ref h1, .ref h2, .ref h3, .ref h4, .ref h5, .ref h6])), (h1, .inl (E 0, 15, .inl hm)), (h2, .inl (E 0, 15, .inl aw)), (h3, .inl (E 0, 30, .inl rv)), (h4, .inl (E 0, 30, .inl sd)), (h5, .inl (E 0, 30, .inl gm)), (h6, .inl (E 0, 36, .inl ca)), (g7, .inr (1, [.int (nI 8), .ref s7, .int (nI bn)])), (s7, .inl (E 0, 48, .inl c7))] := ⟨_, rfl⟩
  have hD : va_D A [(x0, .inr (5, [.ref g0, .ref xk, .ref xt, .ref xx, .ref xp, .int ik])), (g0, .inr (2, [.ref h0, .ref g1, .ref g2, .ref g3, .ref g4, .int (nI kd), .ref g5, .ref g6, .ref g7])), (h0, .inr (0, [.int (nI N), .ref h1, .ref h2, .ref h3, .ref h4, .ref h5, .ref h6])), (h1, .inl (E 0, 15, .inl hm)), (h2, .inl (E 0, 15, .inl aw)), (h3, .inl (E 0, 30, .inl rv)), (h4, .inl (E 0, 30, .inl sd)), (h5, .inl (E 0, 30, .inl gm)), (h6, .inl (E 0, 36, .inl ca)), (g7, .inr (1, [.int (nI 8), .ref s7, .int (nI bn)])), (s7, .inl (E 0, 48, .inl c7))] := hAe ▸ zw_own hD0
  have hS : va_S A s.heap s.heap [] := va_S.rf
  have hl := lv_entry ([.ref x0, .int v, .int w]) (n := 3) (Nat.le_of_ble_eq_true rfl)
  rw [lg_entry_eq]
  generalize (lg_sl ([.ref x0, .int v, .int w]) ++ List.replicate (3 - (lg_sl ([.ref x0, .int v, .int w])).length) Slot.unset).toArray = ls at hl ⊢
  have hl : lv_has ls 3 [(0, .ref x0), (1, .int v), (2, .int w)] := hl
  refine zr_nQ (fun Q hQ => ?_)
  have hN := hpl.1.1
  have hs0 := hbo.1
  refine lv_iload_n hx hb dX7_book_0 rfl (lv_at hl 1 rfl) ?_
  refine lv_iconst (v := (-1)) hx hb dX7_book_1 (by rfl) ?_
  refine lv_icmp_ne (tgt := 17) hx hb dX7_book_2 (by decide) (fun cn_1 => ?_) (fun cn_1 => ?_)
  · skip
    have d1 : decide (v = -1) = false := decide_eq_false cn_1
    refine lv_aload_n hx hb dX7_book_17 rfl (lv_at hl 0 rfl) ?_
    refine va_get (D := D) (ci := 5) (v := .ref g0) (C := RX7) (T := TX7) (N := 6) hx hb hts (by decide +kernel) hown hK.1 hP 0 rfl rfl 0 (by decide) (hts (.fieldLink RX7 12 "HomeRounds" "now" "LHomeRounds$Setting;") (by decide +kernel)) (fun _ h9 => h9) rfl dX7_book_18 ?_
    refine va_get (D := D) (ci := 2) (v := .ref h0) (C := RX3) (T := TX3) (N := 9) hx hb hts (by decide +kernel) hown hK.1 hP 1 rfl rfl 0 (by decide) (hts (.fieldLink RX7 38 "HomeRounds$Setting" "plan" "LHomeRounds$Plan;") (by decide +kernel)) (fun _ h9 => h9) rfl dX7_book_21 ?_
    refine lv_iload_n hx hb dX7_book_24 rfl (lv_at hl 1 rfl) ?_
    refine zr_ci hP hS (va_runV (As := [.int v]) (rest := []) ⟨hx, hb, hml, hown, hts⟩ (c_X1_hasTeam l D E h0 h1 h2 h3 h4 h5 h6 N hm aw rv sd gm ca v (hN)) (cwV 1 hts gX7_book_X1_hasTeam rfl rfl rfl (by decide +kernel) ⟨Nat.le_of_ble_eq_true rfl, Nat.le_of_ble_eq_true rfl⟩) (zr_V hK (hP.sub (ws' := [(h0, .inr (0, [.int (nI N), .ref h1, .ref h2, .ref h3, .ref h4, .ref h5, .ref h6])), (h1, .inl (E 0, 15, .inl hm)), (h2, .inl (E 0, 15, .inl aw)), (h3, .inl (E 0, 30, .inl rv)), (h4, .inl (E 0, 30, .inl sd)), (h5, .inl (E 0, 30, .inl gm)), (h6, .inl (E 0, 36, .inl ca))]) [2, 3, 4, 5, 6, 7, 8] rfl) (ci := 0) (q0 := 0) rfl rfl) rfl rfl hl.1 rfl (lv_room (Nat.le_of_ble_eq_true rfl)) dX7_book_25 ⟨Nat.zero_le _, Nat.zero_le _⟩) (fun r_2 H locs hw_3 hP hS => ?_)
    rcases hw_3 with ⟨rfl, hw_3⟩ | ⟨rfl, hw_3⟩
    · skip
      obtain ⟨t, ht, v_e⟩ := hw_3
      have e1 : zi N v = true := v_e ▸ zi_t ht (by omega)
      have q1 : zq v = t := v_e ▸ zq_t (by omega)
      rw [v_e] at hl
      refine zr_ti (y := nI 1) rfl ?_
      refine lv_if_ne (tgt := 33) hx hb dX7_book_28 (by decide) (fun cn_4 => ?_) (fun cn_4 => ?_)
      · skip
        refine lv_iload_n hx hb dX7_book_33 rfl (lv_at hl 2 rfl) ?_
        refine lv_if_lt (tgt := 42) hx hb dX7_book_34 (by decide) (fun cn_5 => ?_) (fun cn_5 => ?_)
        · skip
          have e2 : zi 5 w = false := zi_f (zn_lo (n := 5) cn_5 (by omega))
          refine lv_bipush (v := (-2)) hx hb dX7_book_42 (by rfl) ?_
          subst hQ; subst hAe
          exact W.iret (v := (-2)) hx hb hr (fun tz htz hWz => ⟨⟨(-2), (bn, c7), rfl, ⟨by unfold zo_book; simp only [cond_true, cond_false, Bool.and_true, Bool.and_false, Bool.true_and, Bool.false_and, d1, e1, e2], by unfold zc_book; simp only [cond_true, cond_false, Bool.and_true, Bool.and_false, Bool.true_and, Bool.false_and, d1, e1, e2], by unfold zc_book; simp only [cond_true, cond_false, Bool.and_true, Bool.and_false, Bool.true_and, Bool.false_and, d1, e1, e2]; exact hbc⟩, by rw [htz]; exact hP, hD⟩, hS.F htz⟩) hS.2.2 dX7_book_44
        · skip
          have gz2 := cn_5
          refine lv_iload_n hx hb dX7_book_37 rfl (lv_at hl 2 rfl) ?_
          refine lv_iconst (v := nI 4) hx hb dX7_book_38 (by rfl) ?_
          refine lv_icmp_le (tgt := 45) hx hb dX7_book_39 (by decide) (fun cn_6 => ?_) (fun cn_6 => ?_)
          · skip
            obtain ⟨u, hu, w_e⟩ := zn_in (n := 5) gz2 (fun q => absurd (zn_lt_of (n := 4) (by omega) q) (Int32.not_lt.mpr cn_6)) (by omega)
            have e2 : zi 5 w = true := w_e ▸ zi_t hu (by omega)
            have q2 : zq w = u := w_e ▸ zq_t (by omega)
            rw [w_e] at hl
            refine lv_aload_n hx hb dX7_book_45 rfl (lv_at hl 0 rfl) ?_
            refine va_get (D := D) (ci := 5) (v := .ref g0) (C := RX7) (T := TX7) (N := 6) hx hb hts (by decide +kernel) hown hK.1 hP 0 rfl rfl 0 (by decide) (hts (.fieldLink RX7 12 "HomeRounds" "now" "LHomeRounds$Setting;") (by decide +kernel)) (fun _ h9 => h9) rfl dX7_book_46 ?_
            refine va_get (D := D) (ci := 2) (v := .ref g7) (C := RX3) (T := TX3) (N := 9) hx hb hts (by decide +kernel) hown hK.1 hP 1 rfl rfl 8 (by decide) (hts (.fieldLink RX7 269 "HomeRounds$Setting" "ledger" "LHomeRounds$Rows;") (by decide +kernel)) (fun _ h9 => h9) rfl dX7_book_49 ?_
            refine zr_ci hP hS (va_runV (As := []) (rest := []) ⟨hx, hb, hml, hown, hts⟩ (c_X2_isFull l D E g7 s7 8 48 bn c7 (by omega) (by omega)) (cwV 0 hts gX7_book_X2_isFull rfl rfl rfl (by decide +kernel) ⟨Nat.le_of_ble_eq_true rfl, Nat.le_of_ble_eq_true rfl⟩) (zr_V hK (hP.sub (ws' := [(g7, .inr (1, [.int (nI 8), .ref s7, .int (nI bn)])), (s7, .inl (E 0, 48, .inl c7))]) [9, 10] rfl) (ci := 1) (q0 := 0) rfl rfl) rfl rfl hl.1 rfl (lv_room (Nat.le_of_ble_eq_true rfl)) dX7_book_52 ⟨Nat.zero_le _, Nat.zero_le _⟩) (fun r_7 H locs hw_8 hP hS => ?_)
            rcases hw_8 with ⟨rfl, hw_8⟩ | ⟨rfl, hw_8⟩
            · skip
              have e3 : decide (bn < 8) = false := decide_eq_false (by omega)
              refine zr_ti (y := nI 1) rfl ?_
              refine lv_if_eq (tgt := 61) hx hb dX7_book_55 (by decide) (fun cn_9 => ?_) (fun cn_9 => ?_)
              · skip
                exact absurd cn_9 (by decide)
              · skip
                refine lv_bipush (v := (-4)) hx hb dX7_book_58 (by rfl) ?_
                subst hQ; subst hAe
                exact W.iret (v := (-4)) hx hb hr (fun tz htz hWz => ⟨⟨(-4), (bn, c7), rfl, ⟨by unfold zo_book; simp only [cond_true, cond_false, Bool.and_true, Bool.and_false, Bool.true_and, Bool.false_and, d1, e1, e2, e3], by unfold zc_book; simp only [cond_true, cond_false, Bool.and_true, Bool.and_false, Bool.true_and, Bool.false_and, d1, e1, e2, e3], by unfold zc_book; simp only [cond_true, cond_false, Bool.and_true, Bool.and_false, Bool.true_and, Bool.false_and, d1, e1, e2, e3]; exact hbc⟩, by rw [htz]; exact hP, hD⟩, hS.F htz⟩) hS.2.2 dX7_book_60
            · skip
              have e3 : decide (bn < 8) = true := decide_eq_true (by omega)
              refine zr_ti (y := nI 0) rfl ?_
              refine lv_if_eq (tgt := 61) hx hb dX7_book_55 (by decide) (fun cn_10 => ?_) (fun cn_10 => ?_)
              · skip
                refine lv_aload_n hx hb dX7_book_61 rfl (lv_at hl 0 rfl) ?_
                refine va_get (D := D) (ci := 5) (v := .ref g0) (C := RX7) (T := TX7) (N := 6) hx hb hts (by decide +kernel) hown hK.1 hP 0 rfl rfl 0 (by decide) (hts (.fieldLink RX7 12 "HomeRounds" "now" "LHomeRounds$Setting;") (by decide +kernel)) (fun _ h9 => h9) rfl dX7_book_62 ?_
                refine va_get (D := D) (ci := 2) (v := .ref g7) (C := RX3) (T := TX3) (N := 9) hx hb hts (by decide +kernel) hown hK.1 hP 1 rfl rfl 8 (by decide) (hts (.fieldLink RX7 269 "HomeRounds$Setting" "ledger" "LHomeRounds$Rows;") (by decide +kernel)) (fun _ h9 => h9) rfl dX7_book_65 ?_
                refine lv_iload_n hx hb dX7_book_68 rfl (lv_at hl 1 rfl) ?_
                refine lv_iload_n hx hb dX7_book_69 rfl (lv_at hl 2 rfl) ?_
                refine lv_iconst (v := nI 0) hx hb dX7_book_70 (by rfl) ?_
                refine lv_iconst (v := nI 0) hx hb dX7_book_71 (by rfl) ?_
                have hPc := hP.sub (ws' := [(g7, .inr (1, [.int (nI 8), .ref s7, .int (nI bn)])), (s7, .inl (E 0, 48, .inl c7))]) [9, 10] rfl
                have hDc := hD.sub (ws' := [(g7, .inr (1, [.int (nI 8), .ref s7, .int (nI bn)])), (s7, .inl (E 0, 48, .inl c7))]) [9, 10] (by decide +kernel) rfl
                have hAc := zw_AA (wc := [(g7, .inr (1, [.int (nI 8), .ref s7, .int (nI bn)])), (s7, .inl (E 0, 48, .inl c7))]) hD [9, 10] rfl
                refine zw_cv hAc hS (va_runV (As := [.int (nI t), .int (nI u), .int (nI 0), .int (nI 0)]) (rest := []) ⟨hx, hb, hml, hown, hts⟩ (c_X2_add l D E g7 s7 8 48 bn c7 (nI t) (nI u) (nI 0) (nI 0) (by omega) (by omega) (by omega)) (cwV 4 hts gX7_book_X2_add rfl rfl rfl (by decide +kernel) ⟨Nat.le_of_ble_eq_true rfl, Nat.le_of_ble_eq_true rfl⟩) (zw_V hK hPc hDc (ci := 1) (q0 := 0) rfl rfl) rfl rfl hl.1 rfl (lv_room (Nat.le_of_ble_eq_true rfl)) dX7_book_72 ⟨Nat.zero_le _, Nat.zero_le _⟩) (fun u_13 H locs hw_12 hP1 hD1 hk1 hS => ?_)
                obtain ⟨hP, hD⟩ := zw_join (wr := [(x0, .inr (5, [.ref g0, .ref xk, .ref xt, .ref xx, .ref xp, .int ik])), (g0, .inr (2, [.ref h0, .ref g1, .ref g2, .ref g3, .ref g4, .int (nI kd), .ref g5, .ref g6, .ref g7])), (h0, .inr (0, [.int (nI N), .ref h1, .ref h2, .ref h3, .ref h4, .ref h5, .ref h6])), (h1, .inl (E 0, 15, .inl hm)), (h2, .inl (E 0, 15, .inl aw)), (h3, .inl (E 0, 30, .inl rv)), (h4, .inl (E 0, 30, .inl sd)), (h5, .inl (E 0, 30, .inl gm)), (h6, .inl (E 0, 36, .inl ca))]) (w1 := [(g7, .inr (1, [.int (nI 8), .ref s7, .int (nI (bn + 1))])), (s7, .inl (E 0, 48, .inl (upd (upd (upd (upd c7 (bn * 4) (nI t)) (bn * 4 + 1) (nI u)) (bn * 4 + 2) (nI 0)) (bn * 4 + 3) (nI 0))))]) (ws' := [(x0, .inr (5, [.ref g0, .ref xk, .ref xt, .ref xx, .ref xp, .int ik])), (g0, .inr (2, [.ref h0, .ref g1, .ref g2, .ref g3, .ref g4, .int (nI kd), .ref g5, .ref g6, .ref g7])), (h0, .inr (0, [.int (nI N), .ref h1, .ref h2, .ref h3, .ref h4, .ref h5, .ref h6])), (h1, .inl (E 0, 15, .inl hm)), (h2, .inl (E 0, 15, .inl aw)), (h3, .inl (E 0, 30, .inl rv)), (h4, .inl (E 0, 30, .inl sd)), (h5, .inl (E 0, 30, .inl gm)), (h6, .inl (E 0, 36, .inl ca)), (g7, .inr (1, [.int (nI 8), .ref s7, .int (nI (bn + 1))])), (s7, .inl (E 0, 48, .inl (upd (upd (upd (upd c7 (bn * 4) (nI t)) (bn * 4 + 1) (nI u)) (bn * 4 + 2) (nI 0)) (bn * 4 + 3) (nI 0))))]) hP hD [9, 10] [0, 1, 2, 3, 4, 5, 6, 7, 8] [0, 1, 2, 3, 4, 5, 6, 7, 8, 9, 10] rfl rfl (by decide +kernel) (by decide +kernel) hAc hk1 hP1 hD1 (by decide +kernel) rfl
                clear hP1 hD1 hk1 hPc hDc hAc
                refine lv_aload_n hx hb dX7_book_75 rfl (lv_at hl 0 rfl) ?_
                refine va_get (D := D) (ci := 5) (v := .ref g0) (C := RX7) (T := TX7) (N := 6) hx hb hts (by decide +kernel) hown hK.1 hP 0 rfl rfl 0 (by decide) (hts (.fieldLink RX7 12 "HomeRounds" "now" "LHomeRounds$Setting;") (by decide +kernel)) (fun _ h9 => h9) rfl dX7_book_76 ?_
                refine va_get (D := D) (ci := 2) (v := .ref g7) (C := RX3) (T := TX3) (N := 9) hx hb hts (by decide +kernel) hown hK.1 hP 1 rfl rfl 8 (by decide) (hts (.fieldLink RX7 269 "HomeRounds$Setting" "ledger" "LHomeRounds$Rows;") (by decide +kernel)) (fun _ h9 => h9) rfl dX7_book_79 ?_
                refine va_get (D := D) (ci := 1) (v := .int (nI (bn + 1))) (C := RX2) (T := TX2) (N := 3) hx hb hts (by decide +kernel) hown hK.1 hP 9 rfl rfl 2 (by decide) (hts (.fieldLink RX7 119 "HomeRounds$Rows" "size" "I") (by decide +kernel)) (fun _ h9 => h9) rfl dX7_book_82 ?_
                subst hQ; subst hAe
                exact W.iret (v := nI (bn + 1)) hx hb hr (fun tz htz hWz => ⟨⟨nI (bn + 1), (bn + 1, upd (upd (upd (upd c7 (bn * 4) (nI t)) (bn * 4 + 1) (nI u)) (bn * 4 + 2) (nI 0)) (bn * 4 + 3) (nI 0)), rfl, ⟨by unfold zo_book; simp only [cond_true, cond_false, Bool.and_true, Bool.and_false, Bool.true_and, Bool.false_and, d1, e1, e2, e3, q1, q2], by unfold zc_book; simp only [cond_true, cond_false, Bool.and_true, Bool.and_false, Bool.true_and, Bool.false_and, d1, e1, e2, e3, q1, q2], by unfold zc_book; simp only [cond_true, cond_false, Bool.and_true, Bool.and_false, Bool.true_and, Bool.false_and, d1, e1, e2, e3, q1, q2]; exact (zm_bc_up hbc)⟩, by rw [htz]; exact hP, hD⟩, hS.F htz⟩) hS.2.2 dX7_book_85
              · skip
                exact absurd cn_10 (by decide)
          · skip
            have e2 : zi 5 w = false := zi_f (zn_hi (n := 5) (zn_gt (n := 4) (by omega) (Int32.not_le.mp cn_6)) (by omega))
            refine lv_bipush (v := (-2)) hx hb dX7_book_42 (by rfl) ?_
            subst hQ; subst hAe
            exact W.iret (v := (-2)) hx hb hr (fun tz htz hWz => ⟨⟨(-2), (bn, c7), rfl, ⟨by unfold zo_book; simp only [cond_true, cond_false, Bool.and_true, Bool.and_false, Bool.true_and, Bool.false_and, d1, e1, e2], by unfold zc_book; simp only [cond_true, cond_false, Bool.and_true, Bool.and_false, Bool.true_and, Bool.false_and, d1, e1, e2], by unfold zc_book; simp only [cond_true, cond_false, Bool.and_true, Bool.and_false, Bool.true_and, Bool.false_and, d1, e1, e2]; exact hbc⟩, by rw [htz]; exact hP, hD⟩, hS.F htz⟩) hS.2.2 dX7_book_44
      · skip
        exact absurd cn_4 (by decide)
    · skip
      have e1 : zi N v = false := zi_f hw_3
      refine zr_ti (y := nI 0) rfl ?_
      refine lv_if_ne (tgt := 33) hx hb dX7_book_28 (by decide) (fun cn_14 => ?_) (fun cn_14 => ?_)
      · skip
        exact absurd cn_14 (by decide)
      · skip
        refine lv_iconst (v := (-1)) hx hb dX7_book_31 (by rfl) ?_
        subst hQ; subst hAe
        exact W.iret (v := (-1)) hx hb hr (fun tz htz hWz => ⟨⟨(-1), (bn, c7), rfl, ⟨by unfold zo_book; simp only [cond_true, cond_false, Bool.and_true, Bool.and_false, Bool.true_and, Bool.false_and, d1, e1], by unfold zc_book; simp only [cond_true, cond_false, Bool.and_true, Bool.and_false, Bool.true_and, Bool.false_and, d1, e1], by unfold zc_book; simp only [cond_true, cond_false, Bool.and_true, Bool.and_false, Bool.true_and, Bool.false_and, d1, e1]; exact hbc⟩, by rw [htz]; exact hP, hD⟩, hS.F htz⟩) hS.2.2 dX7_book_32
  · skip
    have d1 : decide (v = -1) = true := decide_eq_true cn_1
    have e1 : zi N v = false := zi_m1 (by omega) cn_1
    refine lv_aload_n hx hb dX7_book_5 rfl (lv_at hl 0 rfl) ?_
    refine va_get (D := D) (ci := 5) (v := .ref g0) (C := RX7) (T := TX7) (N := 6) hx hb hts (by decide +kernel) hown hK.1 hP 0 rfl rfl 0 (by decide) (hts (.fieldLink RX7 12 "HomeRounds" "now" "LHomeRounds$Setting;") (by decide +kernel)) (fun _ h9 => h9) rfl dX7_book_6 ?_
    refine va_get (D := D) (ci := 2) (v := .ref g7) (C := RX3) (T := TX3) (N := 9) hx hb hts (by decide +kernel) hown hK.1 hP 1 rfl rfl 8 (by decide) (hts (.fieldLink RX7 269 "HomeRounds$Setting" "ledger" "LHomeRounds$Rows;") (by decide +kernel)) (fun _ h9 => h9) rfl dX7_book_9 ?_
    have hPc := hP.sub (ws' := [(g7, .inr (1, [.int (nI 8), .ref s7, .int (nI bn)])), (s7, .inl (E 0, 48, .inl c7))]) [9, 10] rfl
    have hDc := hD.sub (ws' := [(g7, .inr (1, [.int (nI 8), .ref s7, .int (nI bn)])), (s7, .inl (E 0, 48, .inl c7))]) [9, 10] (by decide +kernel) rfl
    have hAc := zw_AA (wc := [(g7, .inr (1, [.int (nI 8), .ref s7, .int (nI bn)])), (s7, .inl (E 0, 48, .inl c7))]) hD [9, 10] rfl
    refine zw_cv hAc hS (va_runV (As := []) (rest := []) ⟨hx, hb, hml, hown, hts⟩ (c_X2_empty l D E g7 s7 8 48 bn c7 ) (cwV 0 hts gX7_book_X2_empty rfl rfl rfl (by decide +kernel) ⟨Nat.le_of_ble_eq_true rfl, Nat.le_of_ble_eq_true rfl⟩) (zw_V hK hPc hDc (ci := 1) (q0 := 0) rfl rfl) rfl rfl hl.1 rfl (lv_room (Nat.le_of_ble_eq_true rfl)) dX7_book_12 ⟨Nat.zero_le _, Nat.zero_le _⟩) (fun u_17 H locs hw_16 hP1 hD1 hk1 hS => ?_)
    obtain ⟨hP, hD⟩ := zw_join (wr := [(x0, .inr (5, [.ref g0, .ref xk, .ref xt, .ref xx, .ref xp, .int ik])), (g0, .inr (2, [.ref h0, .ref g1, .ref g2, .ref g3, .ref g4, .int (nI kd), .ref g5, .ref g6, .ref g7])), (h0, .inr (0, [.int (nI N), .ref h1, .ref h2, .ref h3, .ref h4, .ref h5, .ref h6])), (h1, .inl (E 0, 15, .inl hm)), (h2, .inl (E 0, 15, .inl aw)), (h3, .inl (E 0, 30, .inl rv)), (h4, .inl (E 0, 30, .inl sd)), (h5, .inl (E 0, 30, .inl gm)), (h6, .inl (E 0, 36, .inl ca))]) (w1 := [(g7, .inr (1, [.int (nI 8), .ref s7, .int (nI 0)])), (s7, .inl (E 0, 48, .inl c7))]) (ws' := [(x0, .inr (5, [.ref g0, .ref xk, .ref xt, .ref xx, .ref xp, .int ik])), (g0, .inr (2, [.ref h0, .ref g1, .ref g2, .ref g3, .ref g4, .int (nI kd), .ref g5, .ref g6, .ref g7])), (h0, .inr (0, [.int (nI N), .ref h1, .ref h2, .ref h3, .ref h4, .ref h5, .ref h6])), (h1, .inl (E 0, 15, .inl hm)), (h2, .inl (E 0, 15, .inl aw)), (h3, .inl (E 0, 30, .inl rv)), (h4, .inl (E 0, 30, .inl sd)), (h5, .inl (E 0, 30, .inl gm)), (h6, .inl (E 0, 36, .inl ca)), (g7, .inr (1, [.int (nI 8), .ref s7, .int (nI 0)])), (s7, .inl (E 0, 48, .inl c7))]) hP hD [9, 10] [0, 1, 2, 3, 4, 5, 6, 7, 8] [0, 1, 2, 3, 4, 5, 6, 7, 8, 9, 10] rfl rfl (by decide +kernel) (by decide +kernel) hAc hk1 hP1 hD1 (by decide +kernel) rfl
    clear hP1 hD1 hk1 hPc hDc hAc
    refine lv_iconst (v := nI 0) hx hb dX7_book_15 (by rfl) ?_
    subst hQ; subst hAe
    exact W.iret (v := nI 0) hx hb hr (fun tz htz hWz => ⟨⟨nI 0, (0, c7), rfl, ⟨by unfold zo_book; simp only [cond_true, cond_false, Bool.and_true, Bool.and_false, Bool.true_and, Bool.false_and, d1, e1], by unfold zc_book; simp only [cond_true, cond_false, Bool.and_true, Bool.and_false, Bool.true_and, Bool.false_and, d1, e1], by unfold zc_book; simp only [cond_true, cond_false, Bool.and_true, Bool.and_false, Bool.true_and, Bool.false_and, d1, e1]; exact (fun k hk => absurd hk (Nat.not_lt_zero _))⟩, by rw [htz]; exact hP, hD⟩, hS.F htz⟩) hS.2.2 dX7_book_16

set_option maxHeartbeats 4000000 in
set_option maxRecDepth 100000 in
theorem c_X7_looked (l : Launch) (D : va_G) (E : Nat → ClassId) (x0 : Nat) (xk : Nat) (xt : Nat) (xx : Nat) (xp : Nat) (ik : Int32) (g0 : Nat) (g1 : Nat) (g2 : Nat) (g3 : Nat) (g4 : Nat) (g5 : Nat) (g6 : Nat) (g7 : Nat) (kd : Nat) (h0 : Nat) (h1 : Nat) (h2 : Nat) (h3 : Nat) (h4 : Nat) (h5 : Nat) (h6 : Nat) (N : Nat) (hm : Nat → Int32) (aw : Nat → Int32) (rv : Nat → Int32) (sd : Nat → Int32) (gm : Nat → Int32) (ca : Nat → Int32) (G : Nat → Nat → Nat) (P : Nat → Nat → Nat) (s7 : Nat) (bn : Nat) (c7 : Nat → Int32) (bT : Nat → Nat) (bN : Nat → Nat) (hpl : zm_pl N G P hm aw rv sd gm) (hbo : zs_bo N bn bT bN) (hbc : zm_bc bn bT bN c7) : Met l yX7_looked wsX7_looked ({ frames := 3, cells := 0, slots := 0, locals := 67 }) (zr_P D E [.ref x0] [(x0, .inr (5, [.ref g0, .ref xk, .ref xt, .ref xx, .ref xp, .int ik])), (g0, .inr (2, [.ref h0, .ref g1, .ref g2, .ref g3, .ref g4, .int (nI kd), .ref g5, .ref g6, .ref g7])), (h0, .inr (0, [.int (nI N), .ref h1, .ref h2, .ref h3, .ref h4, .ref h5, .ref h6])), (h1, .inl (E 0, 15, .inl hm)), (h2, .inl (E 0, 15, .inl aw)), (h3, .inl (E 0, 30, .inl rv)), (h4, .inl (E 0, 30, .inl sd)), (h5, .inl (E 0, 30, .inl gm)), (h6, .inl (E 0, 36, .inl ca)), (g7, .inr (1, [.int (nI 8), .ref s7, .int (nI bn)])), (s7, .inl (E 0, 48, .inl c7))]) (zr_Qi (fun zv => zv = zm_look N P bT bN bn 0)) 0 0 (fun _ => False) := by
  refine Met.ofW (cc := cX7_looked) (maxL := 2) (ret := (some .int)) (by decide) rfl ?_
  intro p e s m args below meth c s₁ Bz hml hv
  obtain ⟨rfl, hP, hK⟩ := hv
  have hx := Bz.exec
  have hb := Bz.bytes
  have hr := Bz.returns
  have hts := atoms_spec (ws := wsX7_looked) Bz.pre
  have hown : s.vm.findClass RX7 = some m.cls := findClass_of_methodNamed Bz.named
  have hlocks := Bz.notSynchronized
  have hP : va_P D vwCl [(x0, .inr (5, [.ref g0, .ref xk, .ref xt, .ref xx, .ref xp, .int ik])), (g0, .inr (2, [.ref h0, .ref g1, .ref g2, .ref g3, .ref g4, .int (nI kd), .ref g5, .ref g6, .ref g7])), (h0, .inr (0, [.int (nI N), .ref h1, .ref h2, .ref h3, .ref h4, .ref h5, .ref h6])), (h1, .inl (E 0, 15, .inl hm)), (h2, .inl (E 0, 15, .inl aw)), (h3, .inl (E 0, 30, .inl rv)), (h4, .inl (E 0, 30, .inl sd)), (h5, .inl (E 0, 30, .inl gm)), (h6, .inl (E 0, 36, .inl ca)), (g7, .inr (1, [.int (nI 8), .ref s7, .int (nI bn)])), (s7, .inl (E 0, 48, .inl c7))] s.heap := hP
  have hS : va_S (fun _ : Nat => False) s.heap s.heap [] := va_S.rf
  have hl := lv_entry ([.ref x0]) (n := 2) (Nat.le_of_ble_eq_true rfl)
  rw [lg_entry_eq]
  generalize (lg_sl ([.ref x0]) ++ List.replicate (2 - (lg_sl ([.ref x0])).length) Slot.unset).toArray = ls at hl ⊢
  have hl : lv_has ls 2 [(0, .ref x0)] := hl
  refine zr_nQ (fun Q hQ => ?_)
  have hN := hpl.1.1
  have hok := hpl.1
  have hs0 := hbo.1
  refine lv_iconst (v := nI 0) hx hb dX7_looked_0 (by rfl) ?_
  refine lv_istore_n (lv' := [(1, .int (nI 0)), (0, .ref x0)]) hx hb dX7_looked_1 rfl hl (by decide) rfl (fun ls hl => ?_)
  suffices KL2 : ∀ (kz : Nat) (i : Nat) (H : Heap) (locs : List Loc) (ls : Array Slot), (bn - i) < kz → (zm_look N P bT bN bn 0 = zm_look N P bT bN (bn - i) i) → (i ≤ bn) → va_P D vwCl [(x0, .inr (5, [.ref g0, .ref xk, .ref xt, .ref xx, .ref xp, .int ik])), (g0, .inr (2, [.ref h0, .ref g1, .ref g2, .ref g3, .ref g4, .int (nI kd), .ref g5, .ref g6, .ref g7])), (h0, .inr (0, [.int (nI N), .ref h1, .ref h2, .ref h3, .ref h4, .ref h5, .ref h6])), (h1, .inl (E 0, 15, .inl hm)), (h2, .inl (E 0, 15, .inl aw)), (h3, .inl (E 0, 30, .inl rv)), (h4, .inl (E 0, 30, .inl sd)), (h5, .inl (E 0, 30, .inl gm)), (h6, .inl (E 0, 36, .inl ca)), (g7, .inr (1, [.int (nI 8), .ref s7, .int (nI bn)])), (s7, .inl (E 0, 48, .inl c7))] H → va_S (fun _ : Nat => False) s.heap H locs → lv_has ls 2 [(0, .ref x0), (1, .int (nI i))] → W p l e (headSpec wsX7_looked ({ frames := 3, cells := 0, slots := 0, locals := 67 })).room s m ([.ref x0] : List Value).toArray below meth c H locs 0 0 Q (F0 m 2 ls []) from
    KL2 _ 0 _ _ ls (Nat.lt_succ_self _) (rfl) (by omega) hP hS (lv_sub hl [1, 0] rfl)
  clear hP hS hl
  intro kz
  induction kz with
  | zero => intro i H locs ls hkz; exact absurd hkz (Nat.not_lt_zero _)
  | succ kz ih2 =>
    intro i H locs ls hkz hI hi hP hS hl
    refine lv_iload_n hx hb dX7_looked_2 rfl (lv_at hl 1 rfl) ?_
    refine lv_aload_n hx hb dX7_looked_3 rfl (lv_at hl 0 rfl) ?_
    refine va_get (D := D) (ci := 5) (v := .ref g0) (C := RX7) (T := TX7) (N := 6) hx hb hts (by decide +kernel) hown hK.1 hP 0 rfl rfl 0 (by decide) (hts (.fieldLink RX7 12 "HomeRounds" "now" "LHomeRounds$Setting;") (by decide +kernel)) (fun _ h9 => h9) rfl dX7_looked_4 ?_
    refine va_get (D := D) (ci := 2) (v := .ref g7) (C := RX3) (T := TX3) (N := 9) hx hb hts (by decide +kernel) hown hK.1 hP 1 rfl rfl 8 (by decide) (hts (.fieldLink RX7 269 "HomeRounds$Setting" "ledger" "LHomeRounds$Rows;") (by decide +kernel)) (fun _ h9 => h9) rfl dX7_looked_7 ?_
    refine va_get (D := D) (ci := 1) (v := .int (nI bn)) (C := RX2) (T := TX2) (N := 3) hx hb hts (by decide +kernel) hown hK.1 hP 9 rfl rfl 2 (by decide) (hts (.fieldLink RX7 119 "HomeRounds$Rows" "size" "I") (by decide +kernel)) (fun _ h9 => h9) rfl dX7_looked_10 ?_
    refine lv_icmp_ge (tgt := 61) hx hb dX7_looked_13 (by decide) (fun cn_1 => ?_) (fun cn_1 => ?_)
    · skip
      have cn_1 : bn ≤ i := (nI_leI (a := bn) (b := i) (by omega) (by omega)).mp cn_1
      have hie : i = bn := by omega
      refine lv_bipush (v := (-5)) hx hb dX7_looked_61 (by rfl) ?_
      subst hQ
      exact W.iret (v := (-5)) hx hb hr (fun tz htz hWz => ⟨⟨(-5), (), rfl, by rw [hI, hie, Nat.sub_self]; rfl, trivial⟩, hS.F htz⟩) hS.2.2 dX7_looked_63
    · skip
      have cn_1 : ¬ (bn ≤ i) := fun hz => cn_1 ((nI_leI (a := bn) (b := i) (by omega) (by omega)).mpr hz)
      have hin : i < bn := by omega
      obtain ⟨hb1, hb2⟩ := hbo.2 i hin
      obtain ⟨hc1, hc2⟩ := hbc i hin
      have hbl := zm_br_le (P := P) (t := bT i) hok.1
      refine lv_aload_n hx hb dX7_looked_16 rfl (lv_at hl 0 rfl) ?_
      refine va_get (D := D) (ci := 5) (v := .ref g0) (C := RX7) (T := TX7) (N := 6) hx hb hts (by decide +kernel) hown hK.1 hP 0 rfl rfl 0 (by decide) (hts (.fieldLink RX7 12 "HomeRounds" "now" "LHomeRounds$Setting;") (by decide +kernel)) (fun _ h9 => h9) rfl dX7_looked_17 ?_
      refine va_get (D := D) (ci := 2) (v := .ref h0) (C := RX3) (T := TX3) (N := 9) hx hb hts (by decide +kernel) hown hK.1 hP 1 rfl rfl 0 (by decide) (hts (.fieldLink RX7 38 "HomeRounds$Setting" "plan" "LHomeRounds$Plan;") (by decide +kernel)) (fun _ h9 => h9) rfl dX7_looked_20 ?_
      refine lv_aload_n hx hb dX7_looked_23 rfl (lv_at hl 0 rfl) ?_
      refine va_get (D := D) (ci := 5) (v := .ref g0) (C := RX7) (T := TX7) (N := 6) hx hb hts (by decide +kernel) hown hK.1 hP 0 rfl rfl 0 (by decide) (hts (.fieldLink RX7 12 "HomeRounds" "now" "LHomeRounds$Setting;") (by decide +kernel)) (fun _ h9 => h9) rfl dX7_looked_24 ?_
      refine va_get (D := D) (ci := 2) (v := .ref g7) (C := RX3) (T := TX3) (N := 9) hx hb hts (by decide +kernel) hown hK.1 hP 1 rfl rfl 8 (by decide) (hts (.fieldLink RX7 269 "HomeRounds$Setting" "ledger" "LHomeRounds$Rows;") (by decide +kernel)) (fun _ h9 => h9) rfl dX7_looked_27 ?_
      refine lv_iload_n hx hb dX7_looked_30 rfl (lv_at hl 1 rfl) ?_
      refine lv_iconst (v := nI 0) hx hb dX7_looked_31 (by rfl) ?_
      refine zr_ci hP hS (va_runV (As := [.int (nI i), .int (nI 0)]) (rest := [.ref h0]) ⟨hx, hb, hml, hown, hts⟩ (c_X2_at l D E g7 s7 8 48 bn c7 i 0 (by omega) (by omega) (by omega) (by omega) (by omega)) (cwV 2 hts gX7_looked_X2_at rfl rfl rfl (by decide +kernel) ⟨Nat.le_of_ble_eq_true rfl, Nat.le_of_ble_eq_true rfl⟩) (zr_V hK (hP.sub (ws' := [(g7, .inr (1, [.int (nI 8), .ref s7, .int (nI bn)])), (s7, .inl (E 0, 48, .inl c7))]) [9, 10] rfl) (ci := 1) (q0 := 0) rfl rfl) rfl rfl hl.1 rfl (lv_room (Nat.le_of_ble_eq_true rfl)) dX7_looked_32 ⟨Nat.zero_le _, Nat.zero_le _⟩) (fun r_2 H locs hw_3 hP hS => ?_)
      subst hw_3
      refine zr_ti (y := nI (bT i)) (hc1) ?_
      refine zr_ci hP hS (va_runV (As := [.int (nI (bT i))]) (rest := []) ⟨hx, hb, hml, hown, hts⟩ (c_X1_breaksOf l D E h0 h1 h2 h3 h4 h5 h6 N hm aw rv sd gm ca G P (bT i) (hpl) (by omega)) (cwV 1 hts gX7_looked_X1_breaksOf rfl rfl rfl (by decide +kernel) ⟨Nat.le_of_ble_eq_true rfl, Nat.le_of_ble_eq_true rfl⟩) (zr_V hK (hP.sub (ws' := [(h0, .inr (0, [.int (nI N), .ref h1, .ref h2, .ref h3, .ref h4, .ref h5, .ref h6])), (h1, .inl (E 0, 15, .inl hm)), (h2, .inl (E 0, 15, .inl aw)), (h3, .inl (E 0, 30, .inl rv)), (h4, .inl (E 0, 30, .inl sd)), (h5, .inl (E 0, 30, .inl gm)), (h6, .inl (E 0, 36, .inl ca))]) [2, 3, 4, 5, 6, 7, 8] rfl) (ci := 0) (q0 := 0) rfl rfl) rfl rfl hl.1 rfl (lv_room (Nat.le_of_ble_eq_true rfl)) dX7_looked_35 ⟨Nat.zero_le _, Nat.zero_le _⟩) (fun r_4 H locs hw_5 hP hS => ?_)
      subst hw_5
      refine lv_aload_n hx hb dX7_looked_38 rfl (lv_at hl 0 rfl) ?_
      refine va_get (D := D) (ci := 5) (v := .ref g0) (C := RX7) (T := TX7) (N := 6) hx hb hts (by decide +kernel) hown hK.1 hP 0 rfl rfl 0 (by decide) (hts (.fieldLink RX7 12 "HomeRounds" "now" "LHomeRounds$Setting;") (by decide +kernel)) (fun _ h9 => h9) rfl dX7_looked_39 ?_
      refine va_get (D := D) (ci := 2) (v := .ref g7) (C := RX3) (T := TX3) (N := 9) hx hb hts (by decide +kernel) hown hK.1 hP 1 rfl rfl 8 (by decide) (hts (.fieldLink RX7 269 "HomeRounds$Setting" "ledger" "LHomeRounds$Rows;") (by decide +kernel)) (fun _ h9 => h9) rfl dX7_looked_42 ?_
      refine lv_iload_n hx hb dX7_looked_45 rfl (lv_at hl 1 rfl) ?_
      refine lv_iconst (v := nI 1) hx hb dX7_looked_46 (by rfl) ?_
      refine zr_ci hP hS (va_runV (As := [.int (nI i), .int (nI 1)]) (rest := [.int (nI (zm_br N P (bT i)))]) ⟨hx, hb, hml, hown, hts⟩ (c_X2_at l D E g7 s7 8 48 bn c7 i 1 (by omega) (by omega) (by omega) (by omega) (by omega)) (cwV 2 hts gX7_looked_X2_at rfl rfl rfl (by decide +kernel) ⟨Nat.le_of_ble_eq_true rfl, Nat.le_of_ble_eq_true rfl⟩) (zr_V hK (hP.sub (ws' := [(g7, .inr (1, [.int (nI 8), .ref s7, .int (nI bn)])), (s7, .inl (E 0, 48, .inl c7))]) [9, 10] rfl) (ci := 1) (q0 := 0) rfl rfl) rfl rfl hl.1 rfl (lv_room (Nat.le_of_ble_eq_true rfl)) dX7_looked_47 ⟨Nat.zero_le _, Nat.zero_le _⟩) (fun r_6 H locs hw_7 hP hS => ?_)
      subst hw_7
      refine zr_ti (y := nI (bN i)) (hc2) ?_
      refine lv_icmp_eq (tgt := 55) hx hb dX7_looked_50 (by decide) (fun cn_8 => ?_) (fun cn_8 => ?_)
      · skip
        have cn_8 : zm_br N P (bT i) = bN i := (nI_eq (a := zm_br N P (bT i)) (b := bN i) (by omega) (by omega)).mp cn_8
        have hbr := cn_8
        refine lv_iinc (v := nI (i + 1)) (lv' := [(1, .int (nI (i + 1))), (0, .ref x0)]) hx hb dX7_looked_55 hl (k := 1) rfl (nI_add _ _) (by decide) rfl (fun ls hl => ?_)
        refine lv_goto (tgt := 2) hx hb dX7_looked_58 (by decide) ?_
        have hl : lv_has ls 2 [(0, .ref x0), (1, .int (nI (i + 1)))] := lv_sub hl [1, 0] rfl
        exact ih2 (i + 1) H locs ls (by omega) (by rw [hI, zm_look_s hin, if_pos hbr]) (by omega) hP hS hl
      · skip
        have cn_8 : ¬ (zm_br N P (bT i) = bN i) := fun hz => cn_8 ((nI_eq (a := zm_br N P (bT i)) (b := bN i) (by omega) (by omega)).mpr hz)
        have hbr := cn_8
        refine lv_iload_n hx hb dX7_looked_53 rfl (lv_at hl 1 rfl) ?_
        subst hQ
        exact W.iret (v := nI i) hx hb hr (fun tz htz hWz => ⟨⟨nI i, (), rfl, by rw [hI, zm_look_s hin, if_neg hbr], trivial⟩, hS.F htz⟩) hS.2.2 dX7_looked_54

