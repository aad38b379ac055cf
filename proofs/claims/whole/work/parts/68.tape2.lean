set_option maxHeartbeats 4000000 in
set_option maxRecDepth 100000 in
theorem c_X8_tape (l : Launch) (D : va_G) (E : Nat → ClassId) (m0 : Nat) (w0 : Nat) (w1 : Nat) (w2 : Nat) (w3 : Nat) (w4 : Nat) (w5 : Nat) (w6 : Nat) (w7 : Nat) (w8 : Nat) (w9 : Nat) (ik : Int32) (tx : Nat) (he : Int32) (fa : Int32) (cl : Nat) (wv : Nat → Int32) (sv : Nat → Int32) (zs : Nat → Int32) (iv : Nat → Int64) (mv : Nat → Int64) (so : Nat → Int32) (tn : Nat → Nat) (it : Nat → Nat → Int64) (v : Int32) (w : Int32) (y : Int32) (hst : ∀ k, k < 6 → sv k = so k ∧ zs k = nI (tn k)) (hit : ∀ k j, k < 6 → j < 60 → iv (60 * k + j) = it k j) (hto : zt_ok so tn) : Met l yX8_tape wsX8_tape ({ frames := 2, cells := 0, slots := 0, locals := 42 }) (zw_P D E [.ref m0, .int v, .int w, .int y] [(m0, .inr (6, [.ref w0, .ref w1, .ref w2, .int ik, .ref w3, .int (nI tx), .int he, .int fa, .ref w4, .ref w5, .int (nI cl), .ref w6, .ref w7, .ref w8, .ref w9])), (w6, .inl (E 0, 6, .inl sv)), (w7, .inl (E 0, 6, .inl zs)), (w8, .inl (E 3, 360, .inr (.inl iv))), (w9, .inl (E 3, 60, .inr (.inl mv)))]) (zw_Qi D [(m0, .inr (6, [.ref w0, .ref w1, .ref w2, .int ik, .ref w3, .int (nI tx), .int he, .int fa, .ref w4, .ref w5, .int (nI cl), .ref w6, .ref w7, .ref w8, .ref w9])), (w6, .inl (E 0, 6, .inl sv)), (w7, .inl (E 0, 6, .inl zs)), (w8, .inl (E 3, 360, .inr (.inl iv))), (w9, .inl (E 3, 60, .inr (.inl mv)))] (fun zv (u : (Nat → Int32) × (Nat → Int32) × (Nat → Int64)) => zv = zo_tape v w y ∧ (∀ k, k < 6 → u.1 k = zt_so so v w y k ∧ u.2.1 k = nI (zt_tn tn v w y k)) ∧ ∀ k j, k < 6 → j < 60 → u.2.2 (60 * k + j) = (zt_it it v w y) k j) (fun (u : (Nat → Int32) × (Nat → Int32) × (Nat → Int64)) => [(m0, .inr (6, [.ref w0, .ref w1, .ref w2, .int ik, .ref w3, .int (nI tx), .int he, .int fa, .ref w4, .ref w5, .int (nI cl), .ref w6, .ref w7, .ref w8, .ref w9])), (w6, .inl (E 0, 6, .inl u.1)), (w7, .inl (E 0, 6, .inl u.2.1)), (w8, .inl (E 3, 360, .inr (.inl u.2.2))), (w9, .inl (E 3, 60, .inr (.inl mv)))])) 0 0 (zw_A [(m0, .inr (6, [.ref w0, .ref w1, .ref w2, .int ik, .ref w3, .int (nI tx), .int he, .int fa, .ref w4, .ref w5, .int (nI cl), .ref w6, .ref w7, .ref w8, .ref w9])), (w6, .inl (E 0, 6, .inl sv)), (w7, .inl (E 0, 6, .inl zs)), (w8, .inl (E 3, 360, .inr (.inl iv))), (w9, .inl (E 3, 60, .inr (.inl mv)))]) := by
  refine Met.ofW (cc := cX8_tape) (maxL := 5) (ret := (some .int)) (by decide) rfl ?_
  intro p e s m args below meth c s₁ Bz hml hv
  obtain ⟨rfl, hP, hK, hD0⟩ := hv
  have hx := Bz.exec
  have hb := Bz.bytes
  have hr := Bz.returns
  have hts := atoms_spec (ws := wsX8_tape) Bz.pre
  have hown : s.vm.findClass RX8 = some m.cls := findClass_of_methodNamed Bz.named
  have hlocks := Bz.notSynchronized
  have hP : va_P D vwCl [(m0, .inr (6, [.ref w0, .ref w1, .ref w2, .int ik, .ref w3, .int (nI tx), .int he, .int fa, .ref w4, .ref w5, .int (nI cl), .ref w6, .ref w7, .ref w8, .ref w9])), (w6, .inl (E 0, 6, .inl sv)), (w7, .inl (E 0, 6, .inl zs)), (w8, .inl (E 3, 360, .inr (.inl iv))), (w9, .inl (E 3, 60, .inr (.inl mv)))] s.heap := hP
  obtain ⟨A, hAe⟩ : ∃ A : Nat → Prop, A = zw_A [(m0, .inr (6, [.ref w0, .ref w1, .ref w2, .int ik, .ref w3, .int (nI tx), .int he, .int fa, .ref w4, .ref w5, .int (nI cl), .ref w6, .ref w7, .ref w8, .ref w9])), (w6, .inl (E 0, 6, .inl sv)), (w7, .inl (E 0, 6, .inl zs)), (w8, .inl (E 3, 360, .inr (.inl iv))), (w9, .inl (E 3, 60, .inr (.inl mv)))] := ⟨_, rfl⟩
  have hD : va_D A [(m0, .inr (6, [.ref w0, .ref w1, .ref w2, .int ik, .ref w3, .int (nI tx), .int he, .int fa, .ref w4, .ref w5, .int (nI cl), .ref w6, .ref w7, .ref w8, .ref w9])), (w6, .inl (E 0, 6, .inl sv)), (w7, .inl (E 0, 6, .inl zs)), (w8, .inl (E 3, 360, .inr (.inl iv))), (w9, .inl (E 3, 60, .inr (.inl mv)))] := hAe ▸ zw_own hD0
  have hS : va_S A s.heap s.heap [] := va_S.rf
  have hl := lv_entry ([.ref m0, .int v, .int w, .int y]) (n := 5) (Nat.le_of_ble_eq_true rfl)
  rw [lg_entry_eq]
  generalize (lg_sl ([.ref m0, .int v, .int w, .int y]) ++ List.replicate (5 - (lg_sl ([.ref m0, .int v, .int w, .int y])).length) Slot.unset).toArray = ls at hl ⊢
  have hl : lv_has ls 5 [(0, .ref m0), (1, .int v), (2, .int w), (3, .int y)] := hl
  refine zr_nQ (fun Q hQ => ?_)
  refine lv_iload_n hx hb dX8_tape_0 rfl (lv_at hl 1 rfl) ?_
  refine zr_ci hP hS (va_runS (As := [.int v]) (rest := []) ⟨hx, hb, hml, hown, hts⟩ (c_X8_isTape l D E v ) (va_cwS 1 hts gX8_tape_X8_isTape rfl rfl rfl (by decide +kernel) ⟨Nat.le_of_ble_eq_true rfl, Nat.le_of_ble_eq_true rfl⟩) (zr_S hK (hP.sub (ws' := []) [] rfl)) rfl rfl hl.1 rfl (lv_room (Nat.le_of_ble_eq_true rfl)) dX8_tape_1 ⟨Nat.zero_le _, Nat.zero_le _⟩) (fun r_1 H locs hw_2 hP hS => ?_)
  rcases hw_2 with ⟨rfl, hw_2⟩ | ⟨rfl, hw_2⟩
  · skip
    obtain ⟨t, ht, v_e⟩ := hw_2
    have e1 : zi 6 v = true := v_e ▸ zi_t ht (by omega)
    have q1 : zq v = t := v_e ▸ zq_t (by omega)
    rw [v_e] at hl
    refine zr_ti (y := nI 1) rfl ?_
    refine lv_if_ne (tgt := 9) hx hb dX8_tape_4 (by decide) (fun cn_3 => ?_) (fun cn_3 => ?_)
    · skip
      rcases zi_5m w with w_e | ⟨u, hu, w_e⟩ | ⟨e3, hwm⟩
      · skip
        have e2 : decide (w = -1) = true := decide_eq_true w_e
        rw [w_e] at hl
        refine lv_iload_n hx hb dX8_tape_9 rfl (lv_at hl 2 rfl) ?_
        refine lv_iconst (v := (-1)) hx hb dX8_tape_10 (by rfl) ?_
        refine lv_iconst (v := nI 4) hx hb dX8_tape_11 (by rfl) ?_
        refine zr_ci hP hS (va_runS (As := [.int (-1), .int (-1), .int (nI 4)]) (rest := []) ⟨hx, hb, hml, hown, hts⟩ (c_X8_isIn l D E (-1) (-1) (nI 4) ) (va_cwS 3 hts gX8_tape_X8_isIn rfl rfl rfl (by decide +kernel) ⟨Nat.le_of_ble_eq_true rfl, Nat.le_of_ble_eq_true rfl⟩) (zr_S hK (hP.sub (ws' := []) [] rfl)) rfl rfl hl.1 rfl (lv_room (Nat.le_of_ble_eq_true rfl)) dX8_tape_12 ⟨Nat.zero_le _, Nat.zero_le _⟩) (fun r_4 H locs hw_5 hP hS => ?_)
        have hrz : r_4 = 1 := by rcases hw_5 with ⟨h9, -⟩ | ⟨-, h9⟩; exact h9; exact absurd h9 (by decide)
        subst hrz; clear hw_5
        refine zr_ti (y := nI 1) rfl ?_
        refine lv_if_eq (tgt := 28) hx hb dX8_tape_15 (by decide) (fun cn_6 => ?_) (fun cn_6 => ?_)
        · skip
          exact absurd cn_6 (by decide)
        · skip
          refine lv_iload_n hx hb dX8_tape_18 rfl (lv_at hl 2 rfl) ?_
          refine lv_if_lt (tgt := 31) hx hb dX8_tape_19 (by decide) (fun cn_7 => ?_) (fun cn_7 => ?_)
          · skip
            refine lv_iload_n hx hb dX8_tape_31 rfl (lv_at hl 2 rfl) ?_
            refine lv_if_lt (tgt := 42) hx hb dX8_tape_32 (by decide) (fun cn_8 => ?_) (fun cn_8 => ?_)
            · skip
              refine lv_aload_n hx hb dX8_tape_42 rfl (lv_at hl 0 rfl) ?_
              refine va_get (D := D) (ci := 6) (v := .ref w6) (C := RX8) (T := TX8) (N := 15) hx hb hts (by decide +kernel) hown hK.1 hP 0 rfl rfl 11 (by decide) (hts (.fieldLink RX8 30 "HomeRoundsModel" "sorts" "[I") (by decide +kernel)) (fun _ h9 => h9) rfl dX8_tape_43 ?_
              refine lv_iload_n hx hb dX8_tape_46 rfl (lv_at hl 1 rfl) ?_
              refine lv_iload_n hx hb dX8_tape_47 rfl (lv_at hl 2 rfl) ?_
              refine va_iast hx hb hK.1 hP hD hS 1 0 rfl rfl (vp_in_nI (by omega) (by omega)) dX8_tape_48 (fun H locs hP hD hS => ?_)
              have hP : va_P D vwCl [(m0, .inr (6, [.ref w0, .ref w1, .ref w2, .int ik, .ref w3, .int (nI tx), .int he, .int fa, .ref w4, .ref w5, .int (nI cl), .ref w6, .ref w7, .ref w8, .ref w9])), (w6, .inl (E 0, 6, .inl (upd sv (nI t).toNatClampNeg (-1)))), (w7, .inl (E 0, 6, .inl zs)), (w8, .inl (E 3, 360, .inr (.inl iv))), (w9, .inl (E 3, 60, .inr (.inl mv)))] H := hP
              have hD : va_D A [(m0, .inr (6, [.ref w0, .ref w1, .ref w2, .int ik, .ref w3, .int (nI tx), .int he, .int fa, .ref w4, .ref w5, .int (nI cl), .ref w6, .ref w7, .ref w8, .ref w9])), (w6, .inl (E 0, 6, .inl (upd sv (nI t).toNatClampNeg (-1)))), (w7, .inl (E 0, 6, .inl zs)), (w8, .inl (E 3, 360, .inr (.inl iv))), (w9, .inl (E 3, 60, .inr (.inl mv)))] := hD
              have hcz : (upd sv (nI t).toNatClampNeg (-1)) = (upd sv t (-1)) := by rw [nI_clamp (n := t) (by omega)]
              rw [hcz] at hP hD
              refine lv_aload_n hx hb dX8_tape_49 rfl (lv_at hl 0 rfl) ?_
              refine va_get (D := D) (ci := 6) (v := .ref w7) (C := RX8) (T := TX8) (N := 15) hx hb hts (by decide +kernel) hown hK.1 hP 0 rfl rfl 12 (by decide) (hts (.fieldLink RX8 33 "HomeRoundsModel" "sizes" "[I") (by decide +kernel)) (fun _ h9 => h9) rfl dX8_tape_50 ?_
              refine lv_iload_n hx hb dX8_tape_53 rfl (lv_at hl 1 rfl) ?_
              refine lv_iload_n hx hb dX8_tape_54 rfl (lv_at hl 2 rfl) ?_
              refine lv_if_ge (tgt := 62) hx hb dX8_tape_55 (by decide) (fun cn_9 => ?_) (fun cn_9 => ?_)
              · skip
                exact absurd cn_9 (by decide)
              · skip
                refine lv_iconst (v := nI 0) hx hb dX8_tape_58 (by rfl) ?_
                refine lv_goto (tgt := 63) hx hb dX8_tape_59 (by decide) ?_
                refine va_iast hx hb hK.1 hP hD hS 2 0 rfl rfl (vp_in_nI (by omega) (by omega)) dX8_tape_63 (fun H locs hP hD hS => ?_)
                have hP : va_P D vwCl [(m0, .inr (6, [.ref w0, .ref w1, .ref w2, .int ik, .ref w3, .int (nI tx), .int he, .int fa, .ref w4, .ref w5, .int (nI cl), .ref w6, .ref w7, .ref w8, .ref w9])), (w6, .inl (E 0, 6, .inl (upd sv t (-1)))), (w7, .inl (E 0, 6, .inl (upd zs (nI t).toNatClampNeg (nI 0)))), (w8, .inl (E 3, 360, .inr (.inl iv))), (w9, .inl (E 3, 60, .inr (.inl mv)))] H := hP
                have hD : va_D A [(m0, .inr (6, [.ref w0, .ref w1, .ref w2, .int ik, .ref w3, .int (nI tx), .int he, .int fa, .ref w4, .ref w5, .int (nI cl), .ref w6, .ref w7, .ref w8, .ref w9])), (w6, .inl (E 0, 6, .inl (upd sv t (-1)))), (w7, .inl (E 0, 6, .inl (upd zs (nI t).toNatClampNeg (nI 0)))), (w8, .inl (E 3, 360, .inr (.inl iv))), (w9, .inl (E 3, 60, .inr (.inl mv)))] := hD
                have hcz : (upd zs (nI t).toNatClampNeg (nI 0)) = (upd zs t (nI 0)) := by rw [nI_clamp (n := t) (by omega)]
                rw [hcz] at hP hD
                refine lv_iconst (v := nI 0) hx hb dX8_tape_64 (by rfl) ?_
                refine lv_istore (lv' := [(4, .int (nI 0)), (0, .ref m0), (1, .int (nI t)), (2, .int (-1)), (3, .int y)]) hx hb dX8_tape_65 hl (by decide) rfl (fun ls hl => ?_)
                suffices KL67 : ∀ (kz : Nat) (k : Nat) (ivk : Nat → Int64) (H : Heap) (locs : List Loc) (ls : Array Slot), (60 - k) < kz → (∀ j, j < k → ivk (60 * t + j) = lN 0) → (∀ x, (x < 60 * t ∨ 60 * t + 60 ≤ x) → ivk x = iv x) → (k ≤ 60) → va_P D vwCl [(m0, .inr (6, [.ref w0, .ref w1, .ref w2, .int ik, .ref w3, .int (nI tx), .int he, .int fa, .ref w4, .ref w5, .int (nI cl), .ref w6, .ref w7, .ref w8, .ref w9])), (w6, .inl (E 0, 6, .inl (upd sv t (-1)))), (w7, .inl (E 0, 6, .inl (upd zs t (nI 0)))), (w8, .inl (E 3, 360, .inr (.inl ivk))), (w9, .inl (E 3, 60, .inr (.inl mv)))] H → va_D A [(m0, .inr (6, [.ref w0, .ref w1, .ref w2, .int ik, .ref w3, .int (nI tx), .int he, .int fa, .ref w4, .ref w5, .int (nI cl), .ref w6, .ref w7, .ref w8, .ref w9])), (w6, .inl (E 0, 6, .inl (upd sv t (-1)))), (w7, .inl (E 0, 6, .inl (upd zs t (nI 0)))), (w8, .inl (E 3, 360, .inr (.inl ivk))), (w9, .inl (E 3, 60, .inr (.inl mv)))] → va_S A s.heap H locs → lv_has ls 5 [(0, .ref m0), (1, .int (nI t)), (4, .int (nI k))] → W p l e (headSpec wsX8_tape ({ frames := 2, cells := 0, slots := 0, locals := 42 })).room s m ([.ref m0, .int v, .int w, .int y] : List Value).toArray below meth c H locs 0 0 Q (F0 m 67 ls []) from
                  KL67 _ 0 iv _ _ ls (Nat.lt_succ_self _) (fun j hj => absurd hj (Nat.not_lt_zero _)) (fun _ _ => rfl) (by omega) hP hD hS (lv_sub hl [1, 2, 0] rfl)
                clear hP hS hl hD
                intro kz
                induction kz with
                | zero => intro k ivk H locs ls hkz; exact absurd hkz (Nat.not_lt_zero _)
                | succ kz ih67 =>
                  intro k ivk H locs ls hkz hI hO hk hP hD hS hl
                  refine lv_iload hx hb dX8_tape_67 (lv_at hl 2 rfl) ?_
                  refine lv_bipush (v := nI 60) hx hb dX8_tape_69 (by rfl) ?_
                  refine lv_icmp_ge (tgt := 93) hx hb dX8_tape_71 (by decide) (fun cn_10 => ?_) (fun cn_10 => ?_)
                  · skip
                    have cn_10 : 60 ≤ k := (nI_leI (a := 60) (b := k) (by omega) (by omega)).mp cn_10
                    have hke : k = 60 := by omega
                    refine lv_iconst (v := nI 1) hx hb dX8_tape_93 (by rfl) ?_
                    subst hQ; subst hAe
                    exact W.iret (v := nI 1) hx hb hr (fun tz htz hWz => ⟨⟨nI 1, (upd sv t (-1), upd zs t (nI 0), ivk), rfl, by first | exact ⟨by unfold zo_tape; simp only [decide_true, cond_true, cond_false, Bool.and_true, Bool.and_false, Bool.true_and, Bool.false_and, Bool.or_true, Bool.or_false, Bool.true_or, Bool.false_or, Bool.not_true, Bool.not_false, e1, q1, e2, w_e], by unfold zt_so zt_tn zt_c1 zt_c2; simp only [decide_true, cond_true, cond_false, Bool.and_true, Bool.and_false, Bool.true_and, Bool.false_and, Bool.or_true, Bool.or_false, Bool.true_or, Bool.false_or, Bool.not_true, Bool.not_false, e1, q1, e2, w_e]; exact (zt_st_u hst ht), by unfold zt_it zt_c1 zt_c2; simp only [decide_true, cond_true, cond_false, Bool.and_true, Bool.and_false, Bool.true_and, Bool.false_and, Bool.or_true, Bool.or_false, Bool.true_or, Bool.false_or, Bool.not_true, Bool.not_false, e1, q1, e2, w_e]; exact (zt_it_u hit ht (fun j hj => hI j (by omega)) hO)⟩ | exact ⟨by unfold zo_tape; simp only [decide_true, cond_true, cond_false, Bool.and_true, Bool.and_false, Bool.true_and, Bool.false_and, Bool.or_true, Bool.or_false, Bool.true_or, Bool.false_or, Bool.not_true, Bool.not_false, e1, q1, e2, e3, e4, e5, e6, q3, q6], by unfold zt_so zt_tn zt_c1 zt_c2; simp only [decide_true, cond_true, cond_false, Bool.and_true, Bool.and_false, Bool.true_and, Bool.false_and, Bool.or_true, Bool.or_false, Bool.true_or, Bool.false_or, Bool.not_true, Bool.not_false, e1, q1, e2, e3, e4, e5, e6, q3, q6]; exact (zt_st_u hst ht), by unfold zt_it zt_c1 zt_c2; simp only [decide_true, cond_true, cond_false, Bool.and_true, Bool.and_false, Bool.true_and, Bool.false_and, Bool.or_true, Bool.or_false, Bool.true_or, Bool.false_or, Bool.not_true, Bool.not_false, e1, q1, e2, e3, e4, e5, e6, q3, q6]; exact (zt_it_u hit ht (fun j hj => hI j (by omega)) hO)⟩, by rw [htz]; exact hP, hD⟩, hS.F htz⟩) hS.2.2 dX8_tape_94
                  · skip
                    have cn_10 : ¬ (60 ≤ k) := fun hz => cn_10 ((nI_leI (a := 60) (b := k) (by omega) (by omega)).mpr hz)
                    refine lv_aload_n hx hb dX8_tape_74 rfl (lv_at hl 0 rfl) ?_
                    refine va_get (D := D) (ci := 6) (v := .ref w8) (C := RX8) (T := TX8) (N := 15) hx hb hts (by decide +kernel) hown hK.1 hP 0 rfl rfl 13 (by decide) (hts (.fieldLink RX8 36 "HomeRoundsModel" "items" "[J") (by decide +kernel)) (fun _ h9 => h9) rfl dX8_tape_75 ?_
                    refine lv_bipush (v := nI 60) hx hb dX8_tape_78 (by rfl) ?_
                    refine lv_iload_n hx hb dX8_tape_80 rfl (lv_at hl 1 rfl) ?_
                    refine lv_imul hx hb dX8_tape_81 ?_
                    refine zr_ti (y := nI (60 * t)) (pk_mul _ _) ?_
                    refine lv_iload hx hb dX8_tape_82 (lv_at hl 2 rfl) ?_
                    refine lv_iadd hx hb dX8_tape_84 ?_
                    refine zr_ti (y := nI ((60 * t) + k)) (nI_add _ _) ?_
                    refine lv_lconst (v := lN 0) hx hb dX8_tape_85 (by rfl) ?_
                    refine va_last hx hb hK.1 hP hD hS 3 3 rfl rfl (vp_in_nI (by omega) (by omega)) dX8_tape_86 (fun H locs hP hD hS => ?_)
                    have hP : va_P D vwCl [(m0, .inr (6, [.ref w0, .ref w1, .ref w2, .int ik, .ref w3, .int (nI tx), .int he, .int fa, .ref w4, .ref w5, .int (nI cl), .ref w6, .ref w7, .ref w8, .ref w9])), (w6, .inl (E 0, 6, .inl (upd sv t (-1)))), (w7, .inl (E 0, 6, .inl (upd zs t (nI 0)))), (w8, .inl (E 3, 360, .inr (.inl (vp_updL ivk (nI ((60 * t) + k)).toNatClampNeg (lN 0))))), (w9, .inl (E 3, 60, .inr (.inl mv)))] H := hP
                    have hD : va_D A [(m0, .inr (6, [.ref w0, .ref w1, .ref w2, .int ik, .ref w3, .int (nI tx), .int he, .int fa, .ref w4, .ref w5, .int (nI cl), .ref w6, .ref w7, .ref w8, .ref w9])), (w6, .inl (E 0, 6, .inl (upd sv t (-1)))), (w7, .inl (E 0, 6, .inl (upd zs t (nI 0)))), (w8, .inl (E 3, 360, .inr (.inl (vp_updL ivk (nI ((60 * t) + k)).toNatClampNeg (lN 0))))), (w9, .inl (E 3, 60, .inr (.inl mv)))] := hD
                    have hcz : (vp_updL ivk (nI ((60 * t) + k)).toNatClampNeg (lN 0)) = (vp_updL ivk ((60 * t) + k) (lN 0)) := by rw [nI_clamp (n := (60 * t) + k) (by omega)]
                    rw [hcz] at hP hD
                    refine lv_iinc (v := nI (k + 1)) (lv' := [(4, .int (nI (k + 1))), (0, .ref m0), (1, .int (nI t))]) hx hb dX8_tape_87 hl (k := 2) rfl (nI_add _ _) (by decide) rfl (fun ls hl => ?_)
                    refine lv_goto (tgt := 67) hx hb dX8_tape_90 (by decide) ?_
                    have hl : lv_has ls 5 [(0, .ref m0), (1, .int (nI t)), (4, .int (nI (k + 1)))] := lv_sub hl [1, 2, 0] rfl
                    exact ih67 (k + 1) (vp_updL ivk ((60 * t) + k) (lN 0)) H locs ls (by omega) (fun j hj => by unfold vp_updL; split; exact rfl; exact hI j (by omega)) (fun x hx => by unfold vp_updL; rw [if_neg (by omega)]; exact hO x hx) (by omega) hP hD hS hl
            · skip
              exact absurd cn_8 (by decide)
          · skip
            exact absurd cn_7 (by decide)
      · skip
        have e3 : zi 5 w = true := w_e ▸ zi_t hu (by omega)
        have q3 : zq w = u := w_e ▸ zq_t (by omega)
        have e2 : decide (w = -1) = false := decide_eq_false (fun q => absurd (zi_m1 (n := 5) (by omega) q) (by rw [e3]; exact Bool.noConfusion))
        rw [w_e] at hl
        refine lv_iload_n hx hb dX8_tape_9 rfl (lv_at hl 2 rfl) ?_
        refine lv_iconst (v := (-1)) hx hb dX8_tape_10 (by rfl) ?_
        refine lv_iconst (v := nI 4) hx hb dX8_tape_11 (by rfl) ?_
        refine zr_ci hP hS (va_runS (As := [.int (nI u), .int (-1), .int (nI 4)]) (rest := []) ⟨hx, hb, hml, hown, hts⟩ (c_X8_isIn l D E (nI u) (-1) (nI 4) ) (va_cwS 3 hts gX8_tape_X8_isIn rfl rfl rfl (by decide +kernel) ⟨Nat.le_of_ble_eq_true rfl, Nat.le_of_ble_eq_true rfl⟩) (zr_S hK (hP.sub (ws' := []) [] rfl)) rfl rfl hl.1 rfl (lv_room (Nat.le_of_ble_eq_true rfl)) dX8_tape_12 ⟨Nat.zero_le _, Nat.zero_le _⟩) (fun r_11 H locs hw_12 hP hS => ?_)
        have hrz : r_11 = 1 := by rcases hw_12 with ⟨h9, -⟩ | ⟨-, h9⟩; exact h9; exact absurd h9 (isn_B hu)
        subst hrz; clear hw_12
        refine zr_ti (y := nI 1) rfl ?_
        refine lv_if_eq (tgt := 28) hx hb dX8_tape_15 (by decide) (fun cn_13 => ?_) (fun cn_13 => ?_)
        · skip
          exact absurd cn_13 (by decide)
        · skip
          refine lv_iload_n hx hb dX8_tape_18 rfl (lv_at hl 2 rfl) ?_
          refine lv_if_lt (tgt := 31) hx hb dX8_tape_19 (by decide) (fun cn_14 => ?_) (fun cn_14 => ?_)
          · skip
            have cn_14 : u < 0 := (nI_ltI (a := u) (b := 0) (by omega) (by omega)).mp cn_14
            exfalso; omega
          · skip
            have cn_14 : ¬ (u < 0) := fun hz => cn_14 ((nI_ltI (a := u) (b := 0) (by omega) (by omega)).mpr hz)
            refine lv_iload_n hx hb dX8_tape_22 rfl (lv_at hl 3 rfl) ?_
            refine lv_bipush (v := nI 60) hx hb dX8_tape_23 (by rfl) ?_
            refine lv_icmp_le (tgt := 31) hx hb dX8_tape_25 (by decide) (fun cn_15 => ?_) (fun cn_15 => ?_)
            · skip
              have e4 : decide (y ≤ nI 60) = true := decide_eq_true cn_15
              have gy := cn_15
              refine lv_iload_n hx hb dX8_tape_31 rfl (lv_at hl 2 rfl) ?_
              refine lv_if_lt (tgt := 42) hx hb dX8_tape_32 (by decide) (fun cn_16 => ?_) (fun cn_16 => ?_)
              · skip
                have cn_16 : u < 0 := (nI_ltI (a := u) (b := 0) (by omega) (by omega)).mp cn_16
                exfalso; omega
              · skip
                have cn_16 : ¬ (u < 0) := fun hz => cn_16 ((nI_ltI (a := u) (b := 0) (by omega) (by omega)).mpr hz)
                refine lv_iload_n hx hb dX8_tape_35 rfl (lv_at hl 3 rfl) ?_
                refine lv_if_ge (tgt := 42) hx hb dX8_tape_36 (by decide) (fun cn_17 => ?_) (fun cn_17 => ?_)
                · skip
                  have e5 : decide (y < 0) = false := decide_eq_false (Int32.not_lt.mpr cn_17)
                  obtain ⟨z, hz, y_e⟩ := zn_in (n := 61) (Int32.not_lt.mpr cn_17) (fun q => absurd (zn_lt_of (n := 60) (by omega) q) (Int32.not_lt.mpr gy)) (by omega)
                  have e6 : zi 61 y = true := y_e ▸ zi_t hz (by omega)
                  have q6 : zq y = z := y_e ▸ zq_t (by omega)
                  rw [y_e] at hl
                  refine lv_aload_n hx hb dX8_tape_42 rfl (lv_at hl 0 rfl) ?_
                  refine va_get (D := D) (ci := 6) (v := .ref w6) (C := RX8) (T := TX8) (N := 15) hx hb hts (by decide +kernel) hown hK.1 hP 0 rfl rfl 11 (by decide) (hts (.fieldLink RX8 30 "HomeRoundsModel" "sorts" "[I") (by decide +kernel)) (fun _ h9 => h9) rfl dX8_tape_43 ?_
                  refine lv_iload_n hx hb dX8_tape_46 rfl (lv_at hl 1 rfl) ?_
                  refine lv_iload_n hx hb dX8_tape_47 rfl (lv_at hl 2 rfl) ?_
                  refine va_iast hx hb hK.1 hP hD hS 1 0 rfl rfl (vp_in_nI (by omega) (by omega)) dX8_tape_48 (fun H locs hP hD hS => ?_)
                  have hP : va_P D vwCl [(m0, .inr (6, [.ref w0, .ref w1, .ref w2, .int ik, .ref w3, .int (nI tx), .int he, .int fa, .ref w4, .ref w5, .int (nI cl), .ref w6, .ref w7, .ref w8, .ref w9])), (w6, .inl (E 0, 6, .inl (upd sv (nI t).toNatClampNeg (nI u)))), (w7, .inl (E 0, 6, .inl zs)), (w8, .inl (E 3, 360, .inr (.inl iv))), (w9, .inl (E 3, 60, .inr (.inl mv)))] H := hP
                  have hD : va_D A [(m0, .inr (6, [.ref w0, .ref w1, .ref w2, .int ik, .ref w3, .int (nI tx), .int he, .int fa, .ref w4, .ref w5, .int (nI cl), .ref w6, .ref w7, .ref w8, .ref w9])), (w6, .inl (E 0, 6, .inl (upd sv (nI t).toNatClampNeg (nI u)))), (w7, .inl (E 0, 6, .inl zs)), (w8, .inl (E 3, 360, .inr (.inl iv))), (w9, .inl (E 3, 60, .inr (.inl mv)))] := hD
                  have hcz : (upd sv (nI t).toNatClampNeg (nI u)) = (upd sv t (nI u)) := by rw [nI_clamp (n := t) (by omega)]
                  rw [hcz] at hP hD
                  refine lv_aload_n hx hb dX8_tape_49 rfl (lv_at hl 0 rfl) ?_
                  refine va_get (D := D) (ci := 6) (v := .ref w7) (C := RX8) (T := TX8) (N := 15) hx hb hts (by decide +kernel) hown hK.1 hP 0 rfl rfl 12 (by decide) (hts (.fieldLink RX8 33 "HomeRoundsModel" "sizes" "[I") (by decide +kernel)) (fun _ h9 => h9) rfl dX8_tape_50 ?_
                  refine lv_iload_n hx hb dX8_tape_53 rfl (lv_at hl 1 rfl) ?_
                  refine lv_iload_n hx hb dX8_tape_54 rfl (lv_at hl 2 rfl) ?_
                  refine lv_if_ge (tgt := 62) hx hb dX8_tape_55 (by decide) (fun cn_18 => ?_) (fun cn_18 => ?_)
                  · skip
                    have cn_18 : 0 ≤ u := (nI_leI (a := 0) (b := u) (by omega) (by omega)).mp cn_18
                    refine lv_iload_n hx hb dX8_tape_62 rfl (lv_at hl 3 rfl) ?_
                    refine va_iast hx hb hK.1 hP hD hS 2 0 rfl rfl (vp_in_nI (by omega) (by omega)) dX8_tape_63 (fun H locs hP hD hS => ?_)
                    have hP : va_P D vwCl [(m0, .inr (6, [.ref w0, .ref w1, .ref w2, .int ik, .ref w3, .int (nI tx), .int he, .int fa, .ref w4, .ref w5, .int (nI cl), .ref w6, .ref w7, .ref w8, .ref w9])), (w6, .inl (E 0, 6, .inl (upd sv t (nI u)))), (w7, .inl (E 0, 6, .inl (upd zs (nI t).toNatClampNeg (nI z)))), (w8, .inl (E 3, 360, .inr (.inl iv))), (w9, .inl (E 3, 60, .inr (.inl mv)))] H := hP
                    have hD : va_D A [(m0, .inr (6, [.ref w0, .ref w1, .ref w2, .int ik, .ref w3, .int (nI tx), .int he, .int fa, .ref w4, .ref w5, .int (nI cl), .ref w6, .ref w7, .ref w8, .ref w9])), (w6, .inl (E 0, 6, .inl (upd sv t (nI u)))), (w7, .inl (E 0, 6, .inl (upd zs (nI t).toNatClampNeg (nI z)))), (w8, .inl (E 3, 360, .inr (.inl iv))), (w9, .inl (E 3, 60, .inr (.inl mv)))] := hD
                    have hcz : (upd zs (nI t).toNatClampNeg (nI z)) = (upd zs t (nI z)) := by rw [nI_clamp (n := t) (by omega)]
                    rw [hcz] at hP hD
                    refine lv_iconst (v := nI 0) hx hb dX8_tape_64 (by rfl) ?_
                    refine lv_istore (lv' := [(4, .int (nI 0)), (0, .ref m0), (1, .int (nI t)), (2, .int (nI u)), (3, .int (nI z))]) hx hb dX8_tape_65 hl (by decide) rfl (fun ls hl => ?_)
                    suffices KL67 : ∀ (kz : Nat) (k : Nat) (ivk : Nat → Int64) (H : Heap) (locs : List Loc) (ls : Array Slot), (60 - k) < kz → (∀ j, j < k → ivk (60 * t + j) = lN 0) → (∀ x, (x < 60 * t ∨ 60 * t + 60 ≤ x) → ivk x = iv x) → (k ≤ 60) → va_P D vwCl [(m0, .inr (6, [.ref w0, .ref w1, .ref w2, .int ik, .ref w3, .int (nI tx), .int he, .int fa, .ref w4, .ref w5, .int (nI cl), .ref w6, .ref w7, .ref w8, .ref w9])), (w6, .inl (E 0, 6, .inl (upd sv t (nI u)))), (w7, .inl (E 0, 6, .inl (upd zs t (nI z)))), (w8, .inl (E 3, 360, .inr (.inl ivk))), (w9, .inl (E 3, 60, .inr (.inl mv)))] H → va_D A [(m0, .inr (6, [.ref w0, .ref w1, .ref w2, .int ik, .ref w3, .int (nI tx), .int he, .int fa, .ref w4, .ref w5, .int (nI cl), .ref w6, .ref w7, .ref w8, .ref w9])), (w6, .inl (E 0, 6, .inl (upd sv t (nI u)))), (w7, .inl (E 0, 6, .inl (upd zs t (nI z)))), (w8, .inl (E 3, 360, .inr (.inl ivk))), (w9, .inl (E 3, 60, .inr (.inl mv)))] → va_S A s.heap H locs → lv_has ls 5 [(0, .ref m0), (1, .int (nI t)), (4, .int (nI k))] → W p l e (headSpec wsX8_tape ({ frames := 2, cells := 0, slots := 0, locals := 42 })).room s m ([.ref m0, .int v, .int w, .int y] : List Value).toArray below meth c H locs 0 0 Q (F0 m 67 ls []) from
                      KL67 _ 0 iv _ _ ls (Nat.lt_succ_self _) (fun j hj => absurd hj (Nat.not_lt_zero _)) (fun _ _ => rfl) (by omega) hP hD hS (lv_sub hl [1, 2, 0] rfl)
                    clear hP hS hl hD
                    intro kz
                    induction kz with
                    | zero => intro k ivk H locs ls hkz; exact absurd hkz (Nat.not_lt_zero _)
                    | succ kz ih67 =>
                      intro k ivk H locs ls hkz hI hO hk hP hD hS hl
                      refine lv_iload hx hb dX8_tape_67 (lv_at hl 2 rfl) ?_
                      refine lv_bipush (v := nI 60) hx hb dX8_tape_69 (by rfl) ?_
                      refine lv_icmp_ge (tgt := 93) hx hb dX8_tape_71 (by decide) (fun cn_19 => ?_) (fun cn_19 => ?_)
                      · skip
                        have cn_19 : 60 ≤ k := (nI_leI (a := 60) (b := k) (by omega) (by omega)).mp cn_19
                        have hke : k = 60 := by omega
                        refine lv_iconst (v := nI 1) hx hb dX8_tape_93 (by rfl) ?_
                        subst hQ; subst hAe
                        exact W.iret (v := nI 1) hx hb hr (fun tz htz hWz => ⟨⟨nI 1, (upd sv t (nI u), upd zs t (nI z), ivk), rfl, by first | exact ⟨by unfold zo_tape; simp only [decide_true, cond_true, cond_false, Bool.and_true, Bool.and_false, Bool.true_and, Bool.false_and, Bool.or_true, Bool.or_false, Bool.true_or, Bool.false_or, Bool.not_true, Bool.not_false, e1, q1, e2, w_e], by unfold zt_so zt_tn zt_c1 zt_c2; simp only [decide_true, cond_true, cond_false, Bool.and_true, Bool.and_false, Bool.true_and, Bool.false_and, Bool.or_true, Bool.or_false, Bool.true_or, Bool.false_or, Bool.not_true, Bool.not_false, e1, q1, e2, w_e]; exact (zt_st_u hst ht), by unfold zt_it zt_c1 zt_c2; simp only [decide_true, cond_true, cond_false, Bool.and_true, Bool.and_false, Bool.true_and, Bool.false_and, Bool.or_true, Bool.or_false, Bool.true_or, Bool.false_or, Bool.not_true, Bool.not_false, e1, q1, e2, w_e]; exact (zt_it_u hit ht (fun j hj => hI j (by omega)) hO)⟩ | exact ⟨by unfold zo_tape; simp only [decide_true, cond_true, cond_false, Bool.and_true, Bool.and_false, Bool.true_and, Bool.false_and, Bool.or_true, Bool.or_false, Bool.true_or, Bool.false_or, Bool.not_true, Bool.not_false, e1, q1, e2, e3, e4, e5, e6, q3, q6], by unfold zt_so zt_tn zt_c1 zt_c2; simp only [decide_true, cond_true, cond_false, Bool.and_true, Bool.and_false, Bool.true_and, Bool.false_and, Bool.or_true, Bool.or_false, Bool.true_or, Bool.false_or, Bool.not_true, Bool.not_false, e1, q1, e2, e3, e4, e5, e6, q3, q6]; exact (zt_st_u hst ht), by unfold zt_it zt_c1 zt_c2; simp only [decide_true, cond_true, cond_false, Bool.and_true, Bool.and_false, Bool.true_and, Bool.false_and, Bool.or_true, Bool.or_false, Bool.true_or, Bool.false_or, Bool.not_true, Bool.not_false, e1, q1, e2, e3, e4, e5, e6, q3, q6]; exact (zt_it_u hit ht (fun j hj => hI j (by omega)) hO)⟩, by rw [htz]; exact hP, hD⟩, hS.F htz⟩) hS.2.2 dX8_tape_94
                      · skip
                        have cn_19 : ¬ (60 ≤ k) := fun hz => cn_19 ((nI_leI (a := 60) (b := k) (by omega) (by omega)).mpr hz)
                        refine lv_aload_n hx hb dX8_tape_74 rfl (lv_at hl 0 rfl) ?_
                        refine va_get (D := D) (ci := 6) (v := .ref w8) (C := RX8) (T := TX8) (N := 15) hx hb hts (by decide +kernel) hown hK.1 hP 0 rfl rfl 13 (by decide) (hts (.fieldLink RX8 36 "HomeRoundsModel" "items" "[J") (by decide +kernel)) (fun _ h9 => h9) rfl dX8_tape_75 ?_
                        refine lv_bipush (v := nI 60) hx hb dX8_tape_78 (by rfl) ?_
                        refine lv_iload_n hx hb dX8_tape_80 rfl (lv_at hl 1 rfl) ?_
                        refine lv_imul hx hb dX8_tape_81 ?_
                        refine zr_ti (y := nI (60 * t)) (pk_mul _ _) ?_
                        refine lv_iload hx hb dX8_tape_82 (lv_at hl 2 rfl) ?_
                        refine lv_iadd hx hb dX8_tape_84 ?_
                        refine zr_ti (y := nI ((60 * t) + k)) (nI_add _ _) ?_
                        refine lv_lconst (v := lN 0) hx hb dX8_tape_85 (by rfl) ?_
                        refine va_last hx hb hK.1 hP hD hS 3 3 rfl rfl (vp_in_nI (by omega) (by omega)) dX8_tape_86 (fun H locs hP hD hS => ?_)
                        have hP : va_P D vwCl [(m0, .inr (6, [.ref w0, .ref w1, .ref w2, .int ik, .ref w3, .int (nI tx), .int he, .int fa, .ref w4, .ref w5, .int (nI cl), .ref w6, .ref w7, .ref w8, .ref w9])), (w6, .inl (E 0, 6, .inl (upd sv t (nI u)))), (w7, .inl (E 0, 6, .inl (upd zs t (nI z)))), (w8, .inl (E 3, 360, .inr (.inl (vp_updL ivk (nI ((60 * t) + k)).toNatClampNeg (lN 0))))), (w9, .inl (E 3, 60, .inr (.inl mv)))] H := hP
                        have hD : va_D A [(m0, .inr (6, [.ref w0, .ref w1, .ref w2, .int ik, .ref w3, .int (nI tx), .int he, .int fa, .ref w4, .ref w5, .int (nI cl), .ref w6, .ref w7, .ref w8, .ref w9])), (w6, .inl (E 0, 6, .inl (upd sv t (nI u)))), (w7, .inl (E 0, 6, .inl (upd zs t (nI z)))), (w8, .inl (E 3, 360, .inr (.inl (vp_updL ivk (nI ((60 * t) + k)).toNatClampNeg (lN 0))))), (w9, .inl (E 3, 60, .inr (.inl mv)))] := hD
                        have hcz : (vp_updL ivk (nI ((60 * t) + k)).toNatClampNeg (lN 0)) = (vp_updL ivk ((60 * t) + k) (lN 0)) := by rw [nI_clamp (n := (60 * t) + k) (by omega)]
                        rw [hcz] at hP hD
                        refine lv_iinc (v := nI (k + 1)) (lv' := [(4, .int (nI (k + 1))), (0, .ref m0), (1, .int (nI t))]) hx hb dX8_tape_87 hl (k := 2) rfl (nI_add _ _) (by decide) rfl (fun ls hl => ?_)
                        refine lv_goto (tgt := 67) hx hb dX8_tape_90 (by decide) ?_
                        have hl : lv_has ls 5 [(0, .ref m0), (1, .int (nI t)), (4, .int (nI (k + 1)))] := lv_sub hl [1, 2, 0] rfl
                        exact ih67 (k + 1) (vp_updL ivk ((60 * t) + k) (lN 0)) H locs ls (by omega) (fun j hj => by unfold vp_updL; split; exact rfl; exact hI j (by omega)) (fun x hx => by unfold vp_updL; rw [if_neg (by omega)]; exact hO x hx) (by omega) hP hD hS hl
                  · skip
                    have cn_18 : ¬ (0 ≤ u) := fun hz => cn_18 ((nI_leI (a := 0) (b := u) (by omega) (by omega)).mpr hz)
                    exfalso; omega
                · skip
                  have e5 : decide (y < 0) = true := decide_eq_true (Int32.not_le.mp cn_17)
                  have e6 : zi 61 y = false := zi_ng (by omega) (Int32.not_le.mp cn_17)
                  refine lv_bipush (v := (-14)) hx hb dX8_tape_39 (by rfl) ?_
                  subst hQ; subst hAe
                  exact W.iret (v := (-14)) hx hb hr (fun tz htz hWz => ⟨⟨(-14), (sv, zs, iv), rfl, ⟨by unfold zo_tape; simp only [decide_true, cond_true, cond_false, Bool.and_true, Bool.and_false, Bool.true_and, Bool.false_and, Bool.or_true, Bool.or_false, Bool.true_or, Bool.false_or, Bool.not_true, Bool.not_false, e1, e2, e3, e4, e5, e6], by unfold zt_so zt_tn zt_c1 zt_c2; simp only [decide_true, cond_true, cond_false, Bool.and_true, Bool.and_false, Bool.true_and, Bool.false_and, Bool.or_true, Bool.or_false, Bool.true_or, Bool.false_or, Bool.not_true, Bool.not_false, e1, e2, e3, e4, e5, e6]; exact hst, by unfold zt_it zt_c1 zt_c2; simp only [decide_true, cond_true, cond_false, Bool.and_true, Bool.and_false, Bool.true_and, Bool.false_and, Bool.or_true, Bool.or_false, Bool.true_or, Bool.false_or, Bool.not_true, Bool.not_false, e1, e2, e3, e4, e5, e6]; exact hit⟩, by rw [htz]; exact hP, hD⟩, hS.F htz⟩) hS.2.2 dX8_tape_41
            · skip
              have e4 : decide (y ≤ nI 60) = false := decide_eq_false cn_15
              have e6 : zi 61 y = false := zi_f (zn_hi (n := 61) (zn_gt (n := 60) (by omega) (Int32.not_le.mp cn_15)) (by omega))
              refine lv_bipush (v := (-2)) hx hb dX8_tape_28 (by rfl) ?_
              subst hQ; subst hAe
              exact W.iret (v := (-2)) hx hb hr (fun tz htz hWz => ⟨⟨(-2), (sv, zs, iv), rfl, by first | exact ⟨by unfold zo_tape; simp only [decide_true, cond_true, cond_false, Bool.and_true, Bool.and_false, Bool.true_and, Bool.false_and, Bool.or_true, Bool.or_false, Bool.true_or, Bool.false_or, Bool.not_true, Bool.not_false, e1, e2, e3], by unfold zt_so zt_tn zt_c1 zt_c2; simp only [decide_true, cond_true, cond_false, Bool.and_true, Bool.and_false, Bool.true_and, Bool.false_and, Bool.or_true, Bool.or_false, Bool.true_or, Bool.false_or, Bool.not_true, Bool.not_false, e1, e2, e3]; exact hst, by unfold zt_it zt_c1 zt_c2; simp only [decide_true, cond_true, cond_false, Bool.and_true, Bool.and_false, Bool.true_and, Bool.false_and, Bool.or_true, Bool.or_false, Bool.true_or, Bool.false_or, Bool.not_true, Bool.not_false, e1, e2, e3]; exact hit⟩ | exact ⟨by unfold zo_tape; simp only [decide_true, cond_true, cond_false, Bool.and_true, Bool.and_false, Bool.true_and, Bool.false_and, Bool.or_true, Bool.or_false, Bool.true_or, Bool.false_or, Bool.not_true, Bool.not_false, e1, e2, e3, e4, e6], by unfold zt_so zt_tn zt_c1 zt_c2; simp only [decide_true, cond_true, cond_false, Bool.and_true, Bool.and_false, Bool.true_and, Bool.false_and, Bool.or_true, Bool.or_false, Bool.true_or, Bool.false_or, Bool.not_true, Bool.not_false, e1, e2, e3, e4, e6]; exact hst, by unfold zt_it zt_c1 zt_c2; simp only [decide_true, cond_true, cond_false, Bool.and_true, Bool.and_false, Bool.true_and, Bool.false_and, Bool.or_true, Bool.or_false, Bool.true_or, Bool.false_or, Bool.not_true, Bool.not_false, e1, e2, e3, e4, e6]; exact hit⟩, by rw [htz]; exact hP, hD⟩, hS.F htz⟩) hS.2.2 dX8_tape_30
      · skip
        have e2 : decide (w = -1) = false := decide_eq_false hwm
        refine lv_iload_n hx hb dX8_tape_9 rfl (lv_at hl 2 rfl) ?_
        refine lv_iconst (v := (-1)) hx hb dX8_tape_10 (by rfl) ?_
        refine lv_iconst (v := nI 4) hx hb dX8_tape_11 (by rfl) ?_
        refine zr_ci hP hS (va_runS (As := [.int w, .int (-1), .int (nI 4)]) (rest := []) ⟨hx, hb, hml, hown, hts⟩ (c_X8_isIn l D E w (-1) (nI 4) ) (va_cwS 3 hts gX8_tape_X8_isIn rfl rfl rfl (by decide +kernel) ⟨Nat.le_of_ble_eq_true rfl, Nat.le_of_ble_eq_true rfl⟩) (zr_S hK (hP.sub (ws' := []) [] rfl)) rfl rfl hl.1 rfl (lv_room (Nat.le_of_ble_eq_true rfl)) dX8_tape_12 ⟨Nat.zero_le _, Nat.zero_le _⟩) (fun r_20 H locs hw_21 hP hS => ?_)
        have hrz : r_20 = 0 := by rcases hw_21 with ⟨-, h9⟩ | ⟨h9, -⟩; exact (isn_C e3 hwm h9).elim; exact h9
        subst hrz; clear hw_21
        refine zr_ti (y := nI 0) rfl ?_
        refine lv_if_eq (tgt := 28) hx hb dX8_tape_15 (by decide) (fun cn_22 => ?_) (fun cn_22 => ?_)
        · skip
          refine lv_bipush (v := (-2)) hx hb dX8_tape_28 (by rfl) ?_
          subst hQ; subst hAe
          exact W.iret (v := (-2)) hx hb hr (fun tz htz hWz => ⟨⟨(-2), (sv, zs, iv), rfl, by first | exact ⟨by unfold zo_tape; simp only [decide_true, cond_true, cond_false, Bool.and_true, Bool.and_false, Bool.true_and, Bool.false_and, Bool.or_true, Bool.or_false, Bool.true_or, Bool.false_or, Bool.not_true, Bool.not_false, e1, e2, e3], by unfold zt_so zt_tn zt_c1 zt_c2; simp only [decide_true, cond_true, cond_false, Bool.and_true, Bool.and_false, Bool.true_and, Bool.false_and, Bool.or_true, Bool.or_false, Bool.true_or, Bool.false_or, Bool.not_true, Bool.not_false, e1, e2, e3]; exact hst, by unfold zt_it zt_c1 zt_c2; simp only [decide_true, cond_true, cond_false, Bool.and_true, Bool.and_false, Bool.true_and, Bool.false_and, Bool.or_true, Bool.or_false, Bool.true_or, Bool.false_or, Bool.not_true, Bool.not_false, e1, e2, e3]; exact hit⟩ | exact ⟨by unfold zo_tape; simp only [decide_true, cond_true, cond_false, Bool.and_true, Bool.and_false, Bool.true_and, Bool.false_and, Bool.or_true, Bool.or_false, Bool.true_or, Bool.false_or, Bool.not_true, Bool.not_false, e1, e2, e3, e4, e6], by unfold zt_so zt_tn zt_c1 zt_c2; simp only [decide_true, cond_true, cond_false, Bool.and_true, Bool.and_false, Bool.true_and, Bool.false_and, Bool.or_true, Bool.or_false, Bool.true_or, Bool.false_or, Bool.not_true, Bool.not_false, e1, e2, e3, e4, e6]; exact hst, by unfold zt_it zt_c1 zt_c2; simp only [decide_true, cond_true, cond_false, Bool.and_true, Bool.and_false, Bool.true_and, Bool.false_and, Bool.or_true, Bool.or_false, Bool.true_or, Bool.false_or, Bool.not_true, Bool.not_false, e1, e2, e3, e4, e6]; exact hit⟩, by rw [htz]; exact hP, hD⟩, hS.F htz⟩) hS.2.2 dX8_tape_30
        · skip
          exact absurd cn_22 (by decide)
    · skip
      exact absurd cn_3 (by decide)
  · skip
    have e1 : zi 6 v = false := zi_f hw_2
    refine zr_ti (y := nI 0) rfl ?_
    refine lv_if_ne (tgt := 9) hx hb dX8_tape_4 (by decide) (fun cn_23 => ?_) (fun cn_23 => ?_)
    · skip
      exact absurd cn_23 (by decide)
    · skip
      refine lv_iconst (v := (-1)) hx hb dX8_tape_7 (by rfl) ?_
      subst hQ; subst hAe
      exact W.iret (v := (-1)) hx hb hr (fun tz htz hWz => ⟨⟨(-1), (sv, zs, iv), rfl, ⟨by unfold zo_tape; simp only [decide_true, cond_true, cond_false, Bool.and_true, Bool.and_false, Bool.true_and, Bool.false_and, Bool.or_true, Bool.or_false, Bool.true_or, Bool.false_or, Bool.not_true, Bool.not_false, e1], by unfold zt_so zt_tn zt_c1 zt_c2; simp only [decide_true, cond_true, cond_false, Bool.and_true, Bool.and_false, Bool.true_and, Bool.false_and, Bool.or_true, Bool.or_false, Bool.true_or, Bool.false_or, Bool.not_true, Bool.not_false, e1]; exact hst, by unfold zt_it zt_c1 zt_c2; simp only [decide_true, cond_true, cond_false, Bool.and_true, Bool.and_false, Bool.true_and, Bool.false_and, Bool.or_true, Bool.or_false, Bool.true_or, Bool.false_or, Bool.not_true, Bool.not_false, e1]; exact hit⟩, by rw [htz]; exact hP, hD⟩, hS.F htz⟩) hS.2.2 dX8_tape_8

set_option maxHeartbeats 4000000 in
set_option maxRecDepth 100000 in
theorem c_X8_item (l : Launch) (D : va_G) (E : Nat → ClassId) (m0 : Nat) (w0 : Nat) (w1 : Nat) (w2 : Nat) (w3 : Nat) (w4 : Nat) (w5 : Nat) (w6 : Nat) (w7 : Nat) (w8 : Nat) (w9 : Nat) (ik : Int32) (tx : Nat) (he : Int32) (fa : Int32) (cl : Nat) (wv : Nat → Int32) (sv : Nat → Int32) (zs : Nat → Int32) (iv : Nat → Int64) (mv : Nat → Int64) (so : Nat → Int32) (tn : Nat → Nat) (it : Nat → Nat → Int64) (v : Int32) (w : Int32) (x : Int64) (hst : ∀ k, k < 6 → sv k = so k ∧ zs k = nI (tn k)) (hit : ∀ k j, k < 6 → j < 60 → iv (60 * k + j) = it k j) (hto : zt_ok so tn) : Met l yX8_item wsX8_item ({ frames := 2, cells := 0, slots := 0, locals := 42 }) (zw_P D E [.ref m0, .int v, .int w, .long x] [(m0, .inr (6, [.ref w0, .ref w1, .ref w2, .int ik, .ref w3, .int (nI tx), .int he, .int fa, .ref w4, .ref w5, .int (nI cl), .ref w6, .ref w7, .ref w8, .ref w9])), (w6, .inl (E 0, 6, .inl sv)), (w7, .inl (E 0, 6, .inl zs)), (w8, .inl (E 3, 360, .inr (.inl iv))), (w9, .inl (E 3, 60, .inr (.inl mv)))]) (zw_Qi D [(m0, .inr (6, [.ref w0, .ref w1, .ref w2, .int ik, .ref w3, .int (nI tx), .int he, .int fa, .ref w4, .ref w5, .int (nI cl), .ref w6, .ref w7, .ref w8, .ref w9])), (w6, .inl (E 0, 6, .inl sv)), (w7, .inl (E 0, 6, .inl zs)), (w8, .inl (E 3, 360, .inr (.inl iv))), (w9, .inl (E 3, 60, .inr (.inl mv)))] (fun zv (u : (Nat → Int64)) => zv = zo_item so tn v w ∧ ∀ k j, k < 6 → j < 60 → u (60 * k + j) = (zt_put so tn it v w x) k j) (fun (u : (Nat → Int64)) => [(m0, .inr (6, [.ref w0, .ref w1, .ref w2, .int ik, .ref w3, .int (nI tx), .int he, .int fa, .ref w4, .ref w5, .int (nI cl), .ref w6, .ref w7, .ref w8, .ref w9])), (w6, .inl (E 0, 6, .inl sv)), (w7, .inl (E 0, 6, .inl zs)), (w8, .inl (E 3, 360, .inr (.inl u))), (w9, .inl (E 3, 60, .inr (.inl mv)))])) 0 0 (zw_A [(m0, .inr (6, [.ref w0, .ref w1, .ref w2, .int ik, .ref w3, .int (nI tx), .int he, .int fa, .ref w4, .ref w5, .int (nI cl), .ref w6, .ref w7, .ref w8, .ref w9])), (w6, .inl (E 0, 6, .inl sv)), (w7, .inl (E 0, 6, .inl zs)), (w8, .inl (E 3, 360, .inr (.inl iv))), (w9, .inl (E 3, 60, .inr (.inl mv)))]) := by
  refine Met.ofW (cc := cX8_item) (maxL := 5) (ret := (some .int)) (by decide) rfl ?_
  intro p e s m args below meth c s₁ Bz hml hv
  obtain ⟨rfl, hP, hK, hD0⟩ := hv
  have hx := Bz.exec
  have hb := Bz.bytes
  have hr := Bz.returns
  have hts := atoms_spec (ws := wsX8_item) Bz.pre
  have hown : s.vm.findClass RX8 = some m.cls := findClass_of_methodNamed Bz.named
  have hlocks := Bz.notSynchronized
  have hP : va_P D vwCl [(m0, .inr (6, [.ref w0, .ref w1, .ref w2, .int ik, .ref w3, .int (nI tx), .int he, .int fa, .ref w4, .ref w5, .int (nI cl), .ref w6, .ref w7, .ref w8, .ref w9])), (w6, .inl (E 0, 6, .inl sv)), (w7, .inl (E 0, 6, .inl zs)), (w8, .inl (E 3, 360, .inr (.inl iv))), (w9, .inl (E 3, 60, .inr (.inl mv)))] s.heap := hP
  obtain ⟨A, hAe⟩ : ∃ A : Nat → Prop, A = zw_A [(m0, .inr (6, [.ref w0, .ref w1, .ref w2, .int ik, .ref w3, .int (nI tx), .int he, .int fa, .ref w4, .ref w5, .int (nI cl), .ref w6, .ref w7, .ref w8, .ref w9])), (w6, .inl (E 0, 6, .inl sv)), (w7, .inl (E 0, 6, .inl zs)), (w8, .inl (E 3, 360, .inr (.inl iv))), (w9, .inl (E 3, 60, .inr (.inl mv)))] := ⟨_, rfl⟩
  have hD : va_D A [(m0, .inr (6, [.ref w0, .ref w1, .ref w2, .int ik, .ref w3, .int (nI tx), .int he, .int fa, .ref w4, .ref w5, .int (nI cl), .ref w6, .ref w7, .ref w8, .ref w9])), (w6, .inl (E 0, 6, .inl sv)), (w7, .inl (E 0, 6, .inl zs)), (w8, .inl (E 3, 360, .inr (.inl iv))), (w9, .inl (E 3, 60, .inr (.inl mv)))] := hAe ▸ zw_own hD0
  have hS : va_S A s.heap s.heap [] := va_S.rf
  have hl := lv_entry ([.ref m0, .int v, .int w, .long x]) (n := 5) (Nat.le_of_ble_eq_true rfl)
  rw [lg_entry_eq]
  generalize (lg_sl ([.ref m0, .int v, .int w, .long x]) ++ List.replicate (5 - (lg_sl ([.ref m0, .int v, .int w, .long x])).length) Slot.unset).toArray = ls at hl ⊢
  have hl : lv_has ls 5 [(0, .ref m0), (1, .int v), (2, .int w), (3, .long x)] := hl
  refine zr_nQ (fun Q hQ => ?_)
  refine lv_iload_n hx hb dX8_item_0 rfl (lv_at hl 1 rfl) ?_
  refine zr_ci hP hS (va_runS (As := [.int v]) (rest := []) ⟨hx, hb, hml, hown, hts⟩ (c_X8_isTape l D E v ) (va_cwS 1 hts gX8_item_X8_isTape rfl rfl rfl (by decide +kernel) ⟨Nat.le_of_ble_eq_true rfl, Nat.le_of_ble_eq_true rfl⟩) (zr_S hK (hP.sub (ws' := []) [] rfl)) rfl rfl hl.1 rfl (lv_room (Nat.le_of_ble_eq_true rfl)) dX8_item_1 ⟨Nat.zero_le _, Nat.zero_le _⟩) (fun r_1 H locs hw_2 hP hS => ?_)
  rcases hw_2 with ⟨rfl, hw_2⟩ | ⟨rfl, hw_2⟩
  · skip
    obtain ⟨t, ht, v_e⟩ := hw_2
    have e1 : zi 6 v = true := v_e ▸ zi_t ht (by omega)
    have q1 : zq v = t := v_e ▸ zq_t (by omega)
    rw [v_e] at hl
    refine zr_ti (y := nI 1) rfl ?_
    refine lv_if_ne (tgt := 9) hx hb dX8_item_4 (by decide) (fun cn_3 => ?_) (fun cn_3 => ?_)
    · skip
      obtain ⟨hs1, hs2⟩ := hst t (by omega)
      obtain ⟨hn1, ho1⟩ := hto t (by omega)
      rcases ho1 with ⟨hsm, htn0⟩ | ⟨jk, hjk, hsj⟩
      · skip
        have e2 : decide (so t = -1) = true := decide_eq_true hsm
        refine lv_aload_n hx hb dX8_item_9 rfl (lv_at hl 0 rfl) ?_
        refine va_get (D := D) (ci := 6) (v := .ref w6) (C := RX8) (T := TX8) (N := 15) hx hb hts (by decide +kernel) hown hK.1 hP 0 rfl rfl 11 (by decide) (hts (.fieldLink RX8 30 "HomeRoundsModel" "sorts" "[I") (by decide +kernel)) (fun _ h9 => h9) rfl dX8_item_10 ?_
        refine lv_iload_n hx hb dX8_item_13 rfl (lv_at hl 1 rfl) ?_
        refine va_iald hx hb hK.1 hP 1 0 rfl rfl (vp_in_nI (by omega) (by omega)) dX8_item_14 ?_
        refine zr_ti (y := (-1)) ((congrArg sv (nI_clamp (by omega))).trans (hs1.trans hsm)) ?_
        refine lv_if_ge (tgt := 21) hx hb dX8_item_15 (by decide) (fun cn_4 => ?_) (fun cn_4 => ?_)
        · skip
          exact absurd cn_4 (by decide)
        · skip
          refine lv_bipush (v := (-11)) hx hb dX8_item_18 (by rfl) ?_
          subst hQ; subst hAe
          exact W.iret (v := (-11)) hx hb hr (fun tz htz hWz => ⟨⟨(-11), iv, rfl, ⟨by unfold zo_item; simp only [decide_true, cond_true, cond_false, Bool.and_true, Bool.and_false, Bool.true_and, Bool.false_and, Bool.or_true, Bool.or_false, Bool.true_or, Bool.false_or, Bool.not_true, Bool.not_false, e1, q1, e2], by unfold zt_put; simp only [decide_true, cond_true, cond_false, Bool.and_true, Bool.and_false, Bool.true_and, Bool.false_and, Bool.or_true, Bool.or_false, Bool.true_or, Bool.false_or, Bool.not_true, Bool.not_false, e1, q1, e2]; exact hit⟩, by rw [htz]; exact hP, hD⟩, hS.F htz⟩) hS.2.2 dX8_item_20
      · skip
        have e2 : decide (so t = -1) = false := decide_eq_false (fun q => absurd (zi_m1 (n := 5) (by omega) q) (by rw [hsj, zi_t hjk (by omega)]; exact Bool.noConfusion))
        have q4 : zq (so t) = jk := by rw [hsj]; exact zq_t (by omega)
        refine lv_aload_n hx hb dX8_item_9 rfl (lv_at hl 0 rfl) ?_
        refine va_get (D := D) (ci := 6) (v := .ref w6) (C := RX8) (T := TX8) (N := 15) hx hb hts (by decide +kernel) hown hK.1 hP 0 rfl rfl 11 (by decide) (hts (.fieldLink RX8 30 "HomeRoundsModel" "sorts" "[I") (by decide +kernel)) (fun _ h9 => h9) rfl dX8_item_10 ?_
        refine lv_iload_n hx hb dX8_item_13 rfl (lv_at hl 1 rfl) ?_
        refine va_iald hx hb hK.1 hP 1 0 rfl rfl (vp_in_nI (by omega) (by omega)) dX8_item_14 ?_
        refine zr_ti (y := nI jk) ((congrArg sv (nI_clamp (by omega))).trans (hs1.trans hsj)) ?_
        refine lv_if_ge (tgt := 21) hx hb dX8_item_15 (by decide) (fun cn_5 => ?_) (fun cn_5 => ?_)
        · skip
          have cn_5 : 0 ≤ jk := (nI_leI (a := 0) (b := jk) (by omega) (by omega)).mp cn_5
          refine lv_iload_n hx hb dX8_item_21 rfl (lv_at hl 2 rfl) ?_
          refine lv_iconst (v := nI 0) hx hb dX8_item_22 (by rfl) ?_
          refine lv_aload_n hx hb dX8_item_23 rfl (lv_at hl 0 rfl) ?_
          refine va_get (D := D) (ci := 6) (v := .ref w7) (C := RX8) (T := TX8) (N := 15) hx hb hts (by decide +kernel) hown hK.1 hP 0 rfl rfl 12 (by decide) (hts (.fieldLink RX8 33 "HomeRoundsModel" "sizes" "[I") (by decide +kernel)) (fun _ h9 => h9) rfl dX8_item_24 ?_
          refine lv_iload_n hx hb dX8_item_27 rfl (lv_at hl 1 rfl) ?_
          refine va_iald hx hb hK.1 hP 2 0 rfl rfl (vp_in_nI (by omega) (by omega)) dX8_item_28 ?_
          refine zr_ti (y := nI (tn t)) ((congrArg zs (nI_clamp (by omega))).trans (hs2)) ?_
          refine lv_iconst (v := nI 1) hx hb dX8_item_29 (by rfl) ?_
          refine lv_isub hx hb dX8_item_30 ?_
          rcases Nat.lt_or_ge ((tn t)) (1) with hlt | hge
          · skip
            refine zr_ci hP hS (va_runS (As := [.int w, .int (nI 0), .int ((nI (tn t)) - (nI 1))]) (rest := []) ⟨hx, hb, hml, hown, hts⟩ (c_X8_isIn l D E w (nI 0) ((nI (tn t)) - (nI 1)) ) (va_cwS 3 hts gX8_item_X8_isIn rfl rfl rfl (by decide +kernel) ⟨Nat.le_of_ble_eq_true rfl, Nat.le_of_ble_eq_true rfl⟩) (zr_S hK (hP.sub (ws' := []) [] rfl)) rfl rfl hl.1 rfl (lv_room (Nat.le_of_ble_eq_true rfl)) dX8_item_31 ⟨Nat.zero_le _, Nat.zero_le _⟩) (fun r_6 H locs hw_7 hP hS => ?_)
            rcases hw_7 with ⟨rfl, hw_7⟩ | ⟨rfl, hw_7⟩
            · skip
              exact (isn_0 hlt hw_7).elim
            · skip
              have e3 : zi (tn t) w = false := zi_f (fun a ha => by omega)
              refine zr_ti (y := nI 0) rfl ?_
              refine lv_if_ne (tgt := 40) hx hb dX8_item_34 (by decide) (fun cn_8 => ?_) (fun cn_8 => ?_)
              · skip
                exact absurd cn_8 (by decide)
              · skip
                refine lv_bipush (v := (-13)) hx hb dX8_item_37 (by rfl) ?_
                subst hQ; subst hAe
                exact W.iret (v := (-13)) hx hb hr (fun tz htz hWz => ⟨⟨(-13), iv, rfl, ⟨by unfold zo_item; simp only [decide_true, cond_true, cond_false, Bool.and_true, Bool.and_false, Bool.true_and, Bool.false_and, Bool.or_true, Bool.or_false, Bool.true_or, Bool.false_or, Bool.not_true, Bool.not_false, e1, q1, e2, e3], by unfold zt_put; simp only [decide_true, cond_true, cond_false, Bool.and_true, Bool.and_false, Bool.true_and, Bool.false_and, Bool.or_true, Bool.or_false, Bool.true_or, Bool.false_or, Bool.not_true, Bool.not_false, e1, q1, e2, e3]; exact hit⟩, by rw [htz]; exact hP, hD⟩, hS.F htz⟩) hS.2.2 dX8_item_39
          · skip
            refine zr_ti (y := nI ((tn t) - 1)) (pk_sub hge) ?_
            refine zr_ci hP hS (va_runS (As := [.int w, .int (nI 0), .int (nI ((tn t) - 1))]) (rest := []) ⟨hx, hb, hml, hown, hts⟩ (c_X8_isIn l D E w (nI 0) (nI ((tn t) - 1)) ) (va_cwS 3 hts gX8_item_X8_isIn rfl rfl rfl (by decide +kernel) ⟨Nat.le_of_ble_eq_true rfl, Nat.le_of_ble_eq_true rfl⟩) (zr_S hK (hP.sub (ws' := []) [] rfl)) rfl rfl hl.1 rfl (lv_room (Nat.le_of_ble_eq_true rfl)) dX8_item_31 ⟨Nat.zero_le _, Nat.zero_le _⟩) (fun r_9 H locs hw_10 hP hS => ?_)
            rcases hw_10 with ⟨rfl, hw_10⟩ | ⟨rfl, hw_10⟩
            · skip
              obtain ⟨a, ha, w_e⟩ := zn_in3 (n := tn t) (by omega) (by omega) hw_10.1 hw_10.2
              have e3 : zi (tn t) w = true := w_e ▸ zi_t ha (by omega)
              have q3 : zq w = a := w_e ▸ zq_t (by omega)
              rw [w_e] at hl
              refine zr_ti (y := nI 1) rfl ?_
              refine lv_if_ne (tgt := 40) hx hb dX8_item_34 (by decide) (fun cn_11 => ?_) (fun cn_11 => ?_)
              · skip
                refine lv_aload_n hx hb dX8_item_40 rfl (lv_at hl 0 rfl) ?_
                refine va_get (D := D) (ci := 6) (v := .ref w8) (C := RX8) (T := TX8) (N := 15) hx hb hts (by decide +kernel) hown hK.1 hP 0 rfl rfl 13 (by decide) (hts (.fieldLink RX8 36 "HomeRoundsModel" "items" "[J") (by decide +kernel)) (fun _ h9 => h9) rfl dX8_item_41 ?_
                refine lv_bipush (v := nI 60) hx hb dX8_item_44 (by rfl) ?_
                refine lv_iload_n hx hb dX8_item_46 rfl (lv_at hl 1 rfl) ?_
                refine lv_imul hx hb dX8_item_47 ?_
                refine zr_ti (y := nI (60 * t)) (pk_mul _ _) ?_
                refine lv_iload_n hx hb dX8_item_48 rfl (lv_at hl 2 rfl) ?_
                refine lv_iadd hx hb dX8_item_49 ?_
                refine zr_ti (y := nI ((60 * t) + a)) (nI_add _ _) ?_
                refine lv_aload_n hx hb dX8_item_50 rfl (lv_at hl 0 rfl) ?_
                refine va_get (D := D) (ci := 6) (v := .ref w6) (C := RX8) (T := TX8) (N := 15) hx hb hts (by decide +kernel) hown hK.1 hP 0 rfl rfl 11 (by decide) (hts (.fieldLink RX8 30 "HomeRoundsModel" "sorts" "[I") (by decide +kernel)) (fun _ h9 => h9) rfl dX8_item_51 ?_
                refine lv_iload_n hx hb dX8_item_54 rfl (lv_at hl 1 rfl) ?_
                refine va_iald hx hb hK.1 hP 1 0 rfl rfl (vp_in_nI (by omega) (by omega)) dX8_item_55 ?_
                refine zr_ti (y := nI jk) ((congrArg sv (nI_clamp (by omega))).trans (hs1.trans hsj)) ?_
                refine lv_lload_n hx hb dX8_item_56 rfl (lv_at hl 3 rfl) ?_
                refine zr_cl hP hS (va_runS (As := [.int (nI jk), .long x]) (rest := [.int (nI ((60 * t) + a)), .ref w8]) ⟨hx, hb, hml, hown, hts⟩ (c_X8_held l D E jk x (by omega)) (va_cwS 2 hts gX8_item_X8_held rfl rfl rfl (by decide +kernel) ⟨Nat.le_of_ble_eq_true rfl, Nat.le_of_ble_eq_true rfl⟩) (zr_S hK (hP.sub (ws' := []) [] rfl)) rfl rfl hl.1 rfl (lv_room (Nat.le_of_ble_eq_true rfl)) dX8_item_57 ⟨Nat.zero_le _, Nat.zero_le _⟩) (fun r_12 H locs hw_13 hP hS => ?_)
                subst hw_13
                refine va_last hx hb hK.1 hP hD hS 3 3 rfl rfl (vp_in_nI (by omega) (by omega)) dX8_item_60 (fun H locs hP hD hS => ?_)
                have hP : va_P D vwCl [(m0, .inr (6, [.ref w0, .ref w1, .ref w2, .int ik, .ref w3, .int (nI tx), .int he, .int fa, .ref w4, .ref w5, .int (nI cl), .ref w6, .ref w7, .ref w8, .ref w9])), (w6, .inl (E 0, 6, .inl sv)), (w7, .inl (E 0, 6, .inl zs)), (w8, .inl (E 3, 360, .inr (.inl (vp_updL iv (nI ((60 * t) + a)).toNatClampNeg (zt_cut jk x))))), (w9, .inl (E 3, 60, .inr (.inl mv)))] H := hP
                have hD : va_D A [(m0, .inr (6, [.ref w0, .ref w1, .ref w2, .int ik, .ref w3, .int (nI tx), .int he, .int fa, .ref w4, .ref w5, .int (nI cl), .ref w6, .ref w7, .ref w8, .ref w9])), (w6, .inl (E 0, 6, .inl sv)), (w7, .inl (E 0, 6, .inl zs)), (w8, .inl (E 3, 360, .inr (.inl (vp_updL iv (nI ((60 * t) + a)).toNatClampNeg (zt_cut jk x))))), (w9, .inl (E 3, 60, .inr (.inl mv)))] := hD
                have hcz : (vp_updL iv (nI ((60 * t) + a)).toNatClampNeg (zt_cut jk x)) = (vp_updL iv ((60 * t) + a) (zt_cut jk x)) := by rw [nI_clamp (n := (60 * t) + a) (by omega)]
                rw [hcz] at hP hD
                refine lv_iconst (v := nI 1) hx hb dX8_item_61 (by rfl) ?_
                subst hQ; subst hAe
                exact W.iret (v := nI 1) hx hb hr (fun tz htz hWz => ⟨⟨nI 1, (vp_updL iv ((60 * t) + a) (zt_cut jk x)), rfl, ⟨by unfold zo_item; simp only [decide_true, cond_true, cond_false, Bool.and_true, Bool.and_false, Bool.true_and, Bool.false_and, Bool.or_true, Bool.or_false, Bool.true_or, Bool.false_or, Bool.not_true, Bool.not_false, e1, q1, e2, e3, q3, q4], by unfold zt_put; simp only [decide_true, cond_true, cond_false, Bool.and_true, Bool.and_false, Bool.true_and, Bool.false_and, Bool.or_true, Bool.or_false, Bool.true_or, Bool.false_or, Bool.not_true, Bool.not_false, e1, q1, e2, e3, q3, q4]; exact (zt_put_u hit (by omega) (by omega))⟩, by rw [htz]; exact hP, hD⟩, hS.F htz⟩) hS.2.2 dX8_item_62
              · skip
                exact absurd cn_11 (by decide)
            · skip
              have e3 : zi (tn t) w = false := zi_f (zn_out3 (n := tn t) (by omega) hw_10)
              refine zr_ti (y := nI 0) rfl ?_
              refine lv_if_ne (tgt := 40) hx hb dX8_item_34 (by decide) (fun cn_14 => ?_) (fun cn_14 => ?_)
              · skip
                exact absurd cn_14 (by decide)
              · skip
                refine lv_bipush (v := (-13)) hx hb dX8_item_37 (by rfl) ?_
                subst hQ; subst hAe
                exact W.iret (v := (-13)) hx hb hr (fun tz htz hWz => ⟨⟨(-13), iv, rfl, ⟨by unfold zo_item; simp only [decide_true, cond_true, cond_false, Bool.and_true, Bool.and_false, Bool.true_and, Bool.false_and, Bool.or_true, Bool.or_false, Bool.true_or, Bool.false_or, Bool.not_true, Bool.not_false, e1, q1, e2, e3], by unfold zt_put; simp only [decide_true, cond_true, cond_false, Bool.and_true, Bool.and_false, Bool.true_and, Bool.false_and, Bool.or_true, Bool.or_false, Bool.true_or, Bool.false_or, Bool.not_true, Bool.not_false, e1, q1, e2, e3]; exact hit⟩, by rw [htz]; exact hP, hD⟩, hS.F htz⟩) hS.2.2 dX8_item_39
        · skip
          have cn_5 : ¬ (0 ≤ jk) := fun hz => cn_5 ((nI_leI (a := 0) (b := jk) (by omega) (by omega)).mpr hz)
          exfalso; omega
    · skip
      exact absurd cn_3 (by decide)
  · skip
    have e1 : zi 6 v = false := zi_f hw_2
    refine zr_ti (y := nI 0) rfl ?_
    refine lv_if_ne (tgt := 9) hx hb dX8_item_4 (by decide) (fun cn_15 => ?_) (fun cn_15 => ?_)
    · skip
      exact absurd cn_15 (by decide)
    · skip
      refine lv_iconst (v := (-1)) hx hb dX8_item_7 (by rfl) ?_
      subst hQ; subst hAe
      exact W.iret (v := (-1)) hx hb hr (fun tz htz hWz => ⟨⟨(-1), iv, rfl, ⟨by unfold zo_item; simp only [decide_true, cond_true, cond_false, Bool.and_true, Bool.and_false, Bool.true_and, Bool.false_and, Bool.or_true, Bool.or_false, Bool.true_or, Bool.false_or, Bool.not_true, Bool.not_false, e1], by unfold zt_put; simp only [decide_true, cond_true, cond_false, Bool.and_true, Bool.and_false, Bool.true_and, Bool.false_and, Bool.or_true, Bool.or_false, Bool.true_or, Bool.false_or, Bool.not_true, Bool.not_false, e1]; exact hit⟩, by rw [htz]; exact hP, hD⟩, hS.F htz⟩) hS.2.2 dX8_item_8

set_option maxHeartbeats 4000000 in
set_option maxRecDepth 100000 in
theorem c_X8_peek_ (l : Launch) (D : va_G) (E : Nat → ClassId) (m0 : Nat) (w0 : Nat) (w1 : Nat) (w2 : Nat) (w3 : Nat) (w4 : Nat) (w5 : Nat) (w6 : Nat) (w7 : Nat) (w8 : Nat) (w9 : Nat) (ik : Int32) (tx : Nat) (he : Int32) (fa : Int32) (cl : Nat) (wv : Nat → Int32) (sv : Nat → Int32) (zs : Nat → Int32) (iv : Nat → Int64) (mv : Nat → Int64) (so : Nat → Int32) (tn : Nat → Nat) (it : Nat → Nat → Int64) (v : Int32) (w : Int32) (hst : ∀ k, k < 6 → sv k = so k ∧ zs k = nI (tn k)) (hit : ∀ k j, k < 6 → j < 60 → iv (60 * k + j) = it k j) (hto : zt_ok so tn) : Met l yX8_peek_ wsX8_peek_ ({ frames := 2, cells := 0, slots := 0, locals := 42 }) (zr_P D E [.ref m0, .int v, .int w] [(m0, .inr (6, [.ref w0, .ref w1, .ref w2, .int ik, .ref w3, .int (nI tx), .int he, .int fa, .ref w4, .ref w5, .int (nI cl), .ref w6, .ref w7, .ref w8, .ref w9])), (w6, .inl (E 0, 6, .inl sv)), (w7, .inl (E 0, 6, .inl zs)), (w8, .inl (E 3, 360, .inr (.inl iv))), (w9, .inl (E 3, 60, .inr (.inl mv)))]) (zr_Ql (fun zv => zv = cond (zi 6 v && zi (tn (zq v)) w) (it (zq v) (zq w)) (-9223372036854775808))) 0 0 (fun _ => False) := by
  refine Met.ofW (cc := cX8_peek_) (maxL := 3) (ret := (some .long)) (by decide) rfl ?_
  intro p e s m args below meth c s₁ Bz hml hv
  obtain ⟨rfl, hP, hK⟩ := hv
  have hx := Bz.exec
  have hb := Bz.bytes
  have hr := Bz.returns
  have hts := atoms_spec (ws := wsX8_peek_) Bz.pre
  have hown : s.vm.findClass RX8 = some m.cls := findClass_of_methodNamed Bz.named
  have hlocks := Bz.notSynchronized
  have hP : va_P D vwCl [(m0, .inr (6, [.ref w0, .ref w1, .ref w2, .int ik, .ref w3, .int (nI tx), .int he, .int fa, .ref w4, .ref w5, .int (nI cl), .ref w6, .ref w7, .ref w8, .ref w9])), (w6, .inl (E 0, 6, .inl sv)), (w7, .inl (E 0, 6, .inl zs)), (w8, .inl (E 3, 360, .inr (.inl iv))), (w9, .inl (E 3, 60, .inr (.inl mv)))] s.heap := hP
  have hS : va_S (fun _ : Nat => False) s.heap s.heap [] := va_S.rf
  have hl := lv_entry ([.ref m0, .int v, .int w]) (n := 3) (Nat.le_of_ble_eq_true rfl)
  rw [lg_entry_eq]
  generalize (lg_sl ([.ref m0, .int v, .int w]) ++ List.replicate (3 - (lg_sl ([.ref m0, .int v, .int w])).length) Slot.unset).toArray = ls at hl ⊢
  have hl : lv_has ls 3 [(0, .ref m0), (1, .int v), (2, .int w)] := hl
  refine zr_nQ (fun Q hQ => ?_)
  refine lv_iload_n hx hb dX8_peek__0 rfl (lv_at hl 1 rfl) ?_
  refine zr_ci hP hS (va_runS (As := [.int v]) (rest := []) ⟨hx, hb, hml, hown, hts⟩ (c_X8_isTape l D E v ) (va_cwS 1 hts gX8_peek__X8_isTape rfl rfl rfl (by decide +kernel) ⟨Nat.le_of_ble_eq_true rfl, Nat.le_of_ble_eq_true rfl⟩) (zr_S hK (hP.sub (ws' := []) [] rfl)) rfl rfl hl.1 rfl (lv_room (Nat.le_of_ble_eq_true rfl)) dX8_peek__1 ⟨Nat.zero_le _, Nat.zero_le _⟩) (fun r_1 H locs hw_2 hP hS => ?_)
  rcases hw_2 with ⟨rfl, hw_2⟩ | ⟨rfl, hw_2⟩
  · skip
    obtain ⟨t, ht, v_e⟩ := hw_2
    have e1 : zi 6 v = true := v_e ▸ zi_t ht (by omega)
    have q1 : zq v = t := v_e ▸ zq_t (by omega)
    rw [v_e] at hl
    refine zr_ti (y := nI 1) rfl ?_
    refine lv_if_eq (tgt := 37) hx hb dX8_peek__4 (by decide) (fun cn_3 => ?_) (fun cn_3 => ?_)
    · skip
      exact absurd cn_3 (by decide)
    · skip
      obtain ⟨hs1, hs2⟩ := hst t (by omega)
      obtain ⟨hn1, ho1⟩ := hto t (by omega)
      refine lv_iload_n hx hb dX8_peek__7 rfl (lv_at hl 2 rfl) ?_
      refine lv_iconst (v := nI 0) hx hb dX8_peek__8 (by rfl) ?_
      refine lv_aload_n hx hb dX8_peek__9 rfl (lv_at hl 0 rfl) ?_
      refine va_get (D := D) (ci := 6) (v := .ref w7) (C := RX8) (T := TX8) (N := 15) hx hb hts (by decide +kernel) hown hK.1 hP 0 rfl rfl 12 (by decide) (hts (.fieldLink RX8 33 "HomeRoundsModel" "sizes" "[I") (by decide +kernel)) (fun _ h9 => h9) rfl dX8_peek__10 ?_
      refine lv_iload_n hx hb dX8_peek__13 rfl (lv_at hl 1 rfl) ?_
      refine va_iald hx hb hK.1 hP 2 0 rfl rfl (vp_in_nI (by omega) (by omega)) dX8_peek__14 ?_
      refine zr_ti (y := nI (tn t)) ((congrArg zs (nI_clamp (by omega))).trans (hs2)) ?_
      refine lv_iconst (v := nI 1) hx hb dX8_peek__15 (by rfl) ?_
      refine lv_isub hx hb dX8_peek__16 ?_
      rcases Nat.lt_or_ge ((tn t)) (1) with hlt | hge
      · skip
        refine zr_ci hP hS (va_runS (As := [.int w, .int (nI 0), .int ((nI (tn t)) - (nI 1))]) (rest := []) ⟨hx, hb, hml, hown, hts⟩ (c_X8_isIn l D E w (nI 0) ((nI (tn t)) - (nI 1)) ) (va_cwS 3 hts gX8_peek__X8_isIn rfl rfl rfl (by decide +kernel) ⟨Nat.le_of_ble_eq_true rfl, Nat.le_of_ble_eq_true rfl⟩) (zr_S hK (hP.sub (ws' := []) [] rfl)) rfl rfl hl.1 rfl (lv_room (Nat.le_of_ble_eq_true rfl)) dX8_peek__17 ⟨Nat.zero_le _, Nat.zero_le _⟩) (fun r_4 H locs hw_5 hP hS => ?_)
        rcases hw_5 with ⟨rfl, hw_5⟩ | ⟨rfl, hw_5⟩
        · skip
          exact (isn_0 hlt hw_5).elim
        · skip
          have e3 : zi (tn t) w = false := zi_f (fun a ha => by omega)
          refine zr_ti (y := nI 0) rfl ?_
          refine lv_if_eq (tgt := 37) hx hb dX8_peek__20 (by decide) (fun cn_6 => ?_) (fun cn_6 => ?_)
          · skip
            refine lv_ldc2 (v := (-9223372036854775808)) hx hb hown (hts (.constantLong RX8 247 (-9223372036854775808)) (by decide +kernel)) dX8_peek__37 ?_
            subst hQ
            exact W.lret (v := (-9223372036854775808)) hx hb hr (fun tz htz hWz => ⟨⟨(-9223372036854775808), (), rfl, by first | (simp only [cond_true, cond_false, Bool.and_true, Bool.and_false, Bool.true_and, Bool.false_and, e1]; done) | (simp only [cond_true, cond_false, Bool.and_true, Bool.and_false, Bool.true_and, Bool.false_and, e1, q1, e3]; done) | (simp only [cond_true, cond_false, Bool.and_true, Bool.and_false, Bool.true_and, Bool.false_and, e1, q1, e3, q3]; done), trivial⟩, hS.F htz⟩) hS.2.2 dX8_peek__40
          · skip
            exact absurd cn_6 (by decide)
      · skip
        refine zr_ti (y := nI ((tn t) - 1)) (pk_sub hge) ?_
        refine zr_ci hP hS (va_runS (As := [.int w, .int (nI 0), .int (nI ((tn t) - 1))]) (rest := []) ⟨hx, hb, hml, hown, hts⟩ (c_X8_isIn l D E w (nI 0) (nI ((tn t) - 1)) ) (va_cwS 3 hts gX8_peek__X8_isIn rfl rfl rfl (by decide +kernel) ⟨Nat.le_of_ble_eq_true rfl, Nat.le_of_ble_eq_true rfl⟩) (zr_S hK (hP.sub (ws' := []) [] rfl)) rfl rfl hl.1 rfl (lv_room (Nat.le_of_ble_eq_true rfl)) dX8_peek__17 ⟨Nat.zero_le _, Nat.zero_le _⟩) (fun r_7 H locs hw_8 hP hS => ?_)
        rcases hw_8 with ⟨rfl, hw_8⟩ | ⟨rfl, hw_8⟩
        · skip
          obtain ⟨a, ha, w_e⟩ := zn_in3 (n := tn t) (by omega) (by omega) hw_8.1 hw_8.2
          have e3 : zi (tn t) w = true := w_e ▸ zi_t ha (by omega)
          have q3 : zq w = a := w_e ▸ zq_t (by omega)
          rw [w_e] at hl
          refine zr_ti (y := nI 1) rfl ?_
          refine lv_if_eq (tgt := 37) hx hb dX8_peek__20 (by decide) (fun cn_9 => ?_) (fun cn_9 => ?_)
          · skip
            exact absurd cn_9 (by decide)
          · skip
            refine lv_aload_n hx hb dX8_peek__23 rfl (lv_at hl 0 rfl) ?_
            refine va_get (D := D) (ci := 6) (v := .ref w8) (C := RX8) (T := TX8) (N := 15) hx hb hts (by decide +kernel) hown hK.1 hP 0 rfl rfl 13 (by decide) (hts (.fieldLink RX8 36 "HomeRoundsModel" "items" "[J") (by decide +kernel)) (fun _ h9 => h9) rfl dX8_peek__24 ?_
            refine lv_bipush (v := nI 60) hx hb dX8_peek__27 (by rfl) ?_
            refine lv_iload_n hx hb dX8_peek__29 rfl (lv_at hl 1 rfl) ?_
            refine lv_imul hx hb dX8_peek__30 ?_
            refine zr_ti (y := nI (60 * t)) (pk_mul _ _) ?_
            refine lv_iload_n hx hb dX8_peek__31 rfl (lv_at hl 2 rfl) ?_
            refine lv_iadd hx hb dX8_peek__32 ?_
            refine zr_ti (y := nI ((60 * t) + a)) (nI_add _ _) ?_
            refine va_lald hx hb hK.1 hP 3 3 rfl rfl (vp_in_nI (by omega) (by omega)) dX8_peek__33 ?_
            refine zr_tl (y := it t a) ((congrArg iv (nI_clamp (by omega))).trans (hit t a (by omega) (by omega))) ?_
            refine lv_goto (tgt := 40) hx hb dX8_peek__34 (by decide) ?_
            subst hQ
            exact W.lret (v := it t a) hx hb hr (fun tz htz hWz => ⟨⟨it t a, (), rfl, by first | (simp only [cond_true, cond_false, Bool.and_true, Bool.and_false, Bool.true_and, Bool.false_and, e1]; done) | (simp only [cond_true, cond_false, Bool.and_true, Bool.and_false, Bool.true_and, Bool.false_and, e1, q1, e3]; done) | (simp only [cond_true, cond_false, Bool.and_true, Bool.and_false, Bool.true_and, Bool.false_and, e1, q1, e3, q3]; done), trivial⟩, hS.F htz⟩) hS.2.2 dX8_peek__40
        · skip
          have e3 : zi (tn t) w = false := zi_f (zn_out3 (n := tn t) (by omega) hw_8)
          refine zr_ti (y := nI 0) rfl ?_
          refine lv_if_eq (tgt := 37) hx hb dX8_peek__20 (by decide) (fun cn_10 => ?_) (fun cn_10 => ?_)
          · skip
            refine lv_ldc2 (v := (-9223372036854775808)) hx hb hown (hts (.constantLong RX8 247 (-9223372036854775808)) (by decide +kernel)) dX8_peek__37 ?_
            subst hQ
            exact W.lret (v := (-9223372036854775808)) hx hb hr (fun tz htz hWz => ⟨⟨(-9223372036854775808), (), rfl, by first | (simp only [cond_true, cond_false, Bool.and_true, Bool.and_false, Bool.true_and, Bool.false_and, e1]; done) | (simp only [cond_true, cond_false, Bool.and_true, Bool.and_false, Bool.true_and, Bool.false_and, e1, q1, e3]; done) | (simp only [cond_true, cond_false, Bool.and_true, Bool.and_false, Bool.true_and, Bool.false_and, e1, q1, e3, q3]; done), trivial⟩, hS.F htz⟩) hS.2.2 dX8_peek__40
          · skip
            exact absurd cn_10 (by decide)
  · skip
    have e1 : zi 6 v = false := zi_f hw_2
    refine zr_ti (y := nI 0) rfl ?_
    refine lv_if_eq (tgt := 37) hx hb dX8_peek__4 (by decide) (fun cn_11 => ?_) (fun cn_11 => ?_)
    · skip
      refine lv_ldc2 (v := (-9223372036854775808)) hx hb hown (hts (.constantLong RX8 247 (-9223372036854775808)) (by decide +kernel)) dX8_peek__37 ?_
      subst hQ
      exact W.lret (v := (-9223372036854775808)) hx hb hr (fun tz htz hWz => ⟨⟨(-9223372036854775808), (), rfl, by first | (simp only [cond_true, cond_false, Bool.and_true, Bool.and_false, Bool.true_and, Bool.false_and, e1]; done) | (simp only [cond_true, cond_false, Bool.and_true, Bool.and_false, Bool.true_and, Bool.false_and, e1, q1, e3]; done) | (simp only [cond_true, cond_false, Bool.and_true, Bool.and_false, Bool.true_and, Bool.false_and, e1, q1, e3, q3]; done), trivial⟩, hS.F htz⟩) hS.2.2 dX8_peek__40
    · skip
      exact absurd cn_11 (by decide)

set_option maxHeartbeats 4000000 in
set_option maxRecDepth 100000 in
theorem c_X8_shift (l : Launch) (D : va_G) (E : Nat → ClassId) (m0 : Nat) (w0 : Nat) (w1 : Nat) (w2 : Nat) (w3 : Nat) (w4 : Nat) (w5 : Nat) (w6 : Nat) (w7 : Nat) (w8 : Nat) (w9 : Nat) (ik : Int32) (tx : Nat) (he : Int32) (fa : Int32) (cl : Nat) (wv : Nat → Int32) (sv : Nat → Int32) (zs : Nat → Int32) (iv : Nat → Int64) (mv : Nat → Int64) (so : Nat → Int32) (tn : Nat → Nat) (it : Nat → Nat → Int64) (v : Int32) (i9 : Int32) (w : Int32) (j9 : Int32) (n9 : Int32) (hst : ∀ k, k < 6 → sv k = so k ∧ zs k = nI (tn k)) (hit : ∀ k j, k < 6 → j < 60 → iv (60 * k + j) = it k j) (hto : zt_ok so tn) : Met l yX8_shift wsX8_shift ({ frames := 2, cells := 0, slots := 0, locals := 42 }) (zw_P D E [.ref m0, .int v, .int i9, .int w, .int j9, .int n9] [(m0, .inr (6, [.ref w0, .ref w1, .ref w2, .int ik, .ref w3, .int (nI tx), .int he, .int fa, .ref w4, .ref w5, .int (nI cl), .ref w6, .ref w7, .ref w8, .ref w9])), (w6, .inl (E 0, 6, .inl sv)), (w7, .inl (E 0, 6, .inl zs)), (w8, .inl (E 3, 360, .inr (.inl iv))), (w9, .inl (E 3, 60, .inr (.inl mv)))]) (zw_Qi D [(m0, .inr (6, [.ref w0, .ref w1, .ref w2, .int ik, .ref w3, .int (nI tx), .int he, .int fa, .ref w4, .ref w5, .int (nI cl), .ref w6, .ref w7, .ref w8, .ref w9])), (w6, .inl (E 0, 6, .inl sv)), (w7, .inl (E 0, 6, .inl zs)), (w8, .inl (E 3, 360, .inr (.inl iv))), (w9, .inl (E 3, 60, .inr (.inl mv)))] (fun zv (u : (Nat → Int64) × (Nat → Int64)) => zv = zo_shift so tn v i9 w j9 n9 ∧ ∀ k j, k < 6 → j < 60 → u.1 (60 * k + j) = (zt_sh so tn it v i9 w j9 n9) k j) (fun (u : (Nat → Int64) × (Nat → Int64)) => [(m0, .inr (6, [.ref w0, .ref w1, .ref w2, .int ik, .ref w3, .int (nI tx), .int he, .int fa, .ref w4, .ref w5, .int (nI cl), .ref w6, .ref w7, .ref w8, .ref w9])), (w6, .inl (E 0, 6, .inl sv)), (w7, .inl (E 0, 6, .inl zs)), (w8, .inl (E 3, 360, .inr (.inl u.1))), (w9, .inl (E 3, 60, .inr (.inl u.2)))])) 0 0 (zw_A [(m0, .inr (6, [.ref w0, .ref w1, .ref w2, .int ik, .ref w3, .int (nI tx), .int he, .int fa, .ref w4, .ref w5, .int (nI cl), .ref w6, .ref w7, .ref w8, .ref w9])), (w6, .inl (E 0, 6, .inl sv)), (w7, .inl (E 0, 6, .inl zs)), (w8, .inl (E 3, 360, .inr (.inl iv))), (w9, .inl (E 3, 60, .inr (.inl mv)))]) := by
  refine Met.ofW (cc := cX8_shift) (maxL := 7) (ret := (some .int)) (by decide) rfl ?_
  intro p e s m args below meth c s₁ Bz hml hv
  obtain ⟨rfl, hP, hK, hD0⟩ := hv
  have hx := Bz.exec
  have hb := Bz.bytes
  have hr := Bz.returns
  have hts := atoms_spec (ws := wsX8_shift) Bz.pre
  have hown : s.vm.findClass RX8 = some m.cls := findClass_of_methodNamed Bz.named
  have hlocks := Bz.notSynchronized
  have hP : va_P D vwCl [(m0, .inr (6, [.ref w0, .ref w1, .ref w2, .int ik, .ref w3, .int (nI tx), .int he, .int fa, .ref w4, .ref w5, .int (nI cl), .ref w6, .ref w7, .ref w8, .ref w9])), (w6, .inl (E 0, 6, .inl sv)), (w7, .inl (E 0, 6, .inl zs)), (w8, .inl (E 3, 360, .inr (.inl iv))), (w9, .inl (E 3, 60, .inr (.inl mv)))] s.heap := hP
  obtain ⟨A, hAe⟩ : ∃ A : Nat → Prop, A = zw_A [(m0, .inr (6, [.ref w0, .ref w1, .ref w2, .int ik, .ref w3, .int (nI tx), .int he, .int fa, .ref w4, .ref w5, .int (nI cl), .ref w6, .ref w7, .ref w8, .ref w9])), (w6, .inl (E 0, 6, .inl sv)), (w7, .inl (E 0, 6, .inl zs)), (w8, .inl (E 3, 360, .inr (.inl iv))), (w9, .inl (E 3, 60, .inr (.inl mv)))] := ⟨_, rfl⟩
  have hD : va_D A [(m0, .inr (6, [.ref w0, .ref w1, .ref w2, .int ik, .ref w3, .int (nI tx), .int he, .int fa, .ref w4, .ref w5, .int (nI cl), .ref w6, .ref w7, .ref w8, .ref w9])), (w6, .inl (E 0, 6, .inl sv)), (w7, .inl (E 0, 6, .inl zs)), (w8, .inl (E 3, 360, .inr (.inl iv))), (w9, .inl (E 3, 60, .inr (.inl mv)))] := hAe ▸ zw_own hD0
  have hS : va_S A s.heap s.heap [] := va_S.rf
  have hl := lv_entry ([.ref m0, .int v, .int i9, .int w, .int j9, .int n9]) (n := 7) (Nat.le_of_ble_eq_true rfl)
  rw [lg_entry_eq]
  generalize (lg_sl ([.ref m0, .int v, .int i9, .int w, .int j9, .int n9]) ++ List.replicate (7 - (lg_sl ([.ref m0, .int v, .int i9, .int w, .int j9, .int n9])).length) Slot.unset).toArray = ls at hl ⊢
  have hl : lv_has ls 7 [(0, .ref m0), (1, .int v), (2, .int i9), (3, .int w), (4, .int j9), (5, .int n9)] := hl
  refine zr_nQ (fun Q hQ => ?_)
  refine lv_iload_n hx hb dX8_shift_0 rfl (lv_at hl 1 rfl) ?_
  refine zr_ci hP hS (va_runS (As := [.int v]) (rest := []) ⟨hx, hb, hml, hown, hts⟩ (c_X8_isTape l D E v ) (va_cwS 1 hts gX8_shift_X8_isTape rfl rfl rfl (by decide +kernel) ⟨Nat.le_of_ble_eq_true rfl, Nat.le_of_ble_eq_true rfl⟩) (zr_S hK (hP.sub (ws' := []) [] rfl)) rfl rfl hl.1 rfl (lv_room (Nat.le_of_ble_eq_true rfl)) dX8_shift_1 ⟨Nat.zero_le _, Nat.zero_le _⟩) (fun r_1 H locs hw_2 hP hS => ?_)
  rcases hw_2 with ⟨rfl, hw_2⟩ | ⟨rfl, hw_2⟩
  · skip
    obtain ⟨t, ht, v_e⟩ := hw_2
    have e1 : zi 6 v = true := v_e ▸ zi_t ht (by omega)
    have q1 : zq v = t := v_e ▸ zq_t (by omega)
    rw [v_e] at hl
    refine zr_ti (y := nI 1) rfl ?_
    refine lv_if_eq (tgt := 14) hx hb dX8_shift_4 (by decide) (fun cn_3 => ?_) (fun cn_3 => ?_)
    · skip
      exact absurd cn_3 (by decide)
    · skip
      refine lv_iload_n hx hb dX8_shift_7 rfl (lv_at hl 3 rfl) ?_
      refine zr_ci hP hS (va_runS (As := [.int w]) (rest := []) ⟨hx, hb, hml, hown, hts⟩ (c_X8_isTape l D E w ) (va_cwS 1 hts gX8_shift_X8_isTape rfl rfl rfl (by decide +kernel) ⟨Nat.le_of_ble_eq_true rfl, Nat.le_of_ble_eq_true rfl⟩) (zr_S hK (hP.sub (ws' := []) [] rfl)) rfl rfl hl.1 rfl (lv_room (Nat.le_of_ble_eq_true rfl)) dX8_shift_8 ⟨Nat.zero_le _, Nat.zero_le _⟩) (fun r_4 H locs hw_5 hP hS => ?_)
      rcases hw_5 with ⟨rfl, hw_5⟩ | ⟨rfl, hw_5⟩
      · skip
        obtain ⟨u, hu, w_e⟩ := hw_5
        have e2 : zi 6 w = true := w_e ▸ zi_t hu (by omega)
        have q2 : zq w = u := w_e ▸ zq_t (by omega)
        rw [w_e] at hl
        refine zr_ti (y := nI 1) rfl ?_
        refine lv_if_ne (tgt := 16) hx hb dX8_shift_11 (by decide) (fun cn_6 => ?_) (fun cn_6 => ?_)
        · skip
          obtain ⟨hs1, hs2⟩ := hst t (by omega)
          obtain ⟨hn1, ho1⟩ := hto t (by omega)
          obtain ⟨hs3, hs4⟩ := hst u (by omega)
          obtain ⟨hn2, ho2⟩ := hto u (by omega)
          rcases ho1 with ⟨hsm, -⟩ | ⟨jk, hjk, hsj⟩
          · skip
            have e3 : decide (so t = -1) = true := decide_eq_true hsm
            refine lv_aload_n hx hb dX8_shift_16 rfl (lv_at hl 0 rfl) ?_
            refine va_get (D := D) (ci := 6) (v := .ref w6) (C := RX8) (T := TX8) (N := 15) hx hb hts (by decide +kernel) hown hK.1 hP 0 rfl rfl 11 (by decide) (hts (.fieldLink RX8 30 "HomeRoundsModel" "sorts" "[I") (by decide +kernel)) (fun _ h9 => h9) rfl dX8_shift_17 ?_
            refine lv_iload_n hx hb dX8_shift_20 rfl (lv_at hl 1 rfl) ?_
            refine va_iald hx hb hK.1 hP 1 0 rfl rfl (vp_in_nI (by omega) (by omega)) dX8_shift_21 ?_
            refine zr_ti (y := (-1)) ((congrArg sv (nI_clamp (by omega))).trans (hs1.trans hsm)) ?_
            refine lv_if_lt (tgt := 34) hx hb dX8_shift_22 (by decide) (fun cn_7 => ?_) (fun cn_7 => ?_)
            · skip
              refine lv_bipush (v := (-11)) hx hb dX8_shift_34 (by rfl) ?_
              subst hQ; subst hAe
              exact W.iret (v := (-11)) hx hb hr (fun tz htz hWz => ⟨⟨(-11), (iv, mv), rfl, by first | exact ⟨by unfold zo_shift; simp only [decide_true, cond_true, cond_false, Bool.and_true, Bool.and_false, Bool.true_and, Bool.false_and, Bool.or_true, Bool.or_false, Bool.true_or, Bool.false_or, Bool.not_true, Bool.not_false, e1, q1, e2, q2, e3], by unfold zt_sh zt_cs; simp only [decide_true, cond_true, cond_false, Bool.and_true, Bool.and_false, Bool.true_and, Bool.false_and, Bool.or_true, Bool.or_false, Bool.true_or, Bool.false_or, Bool.not_true, Bool.not_false, e1, q1, e2, q2, e3]; exact hit⟩ | exact ⟨by unfold zo_shift; simp only [decide_true, cond_true, cond_false, Bool.and_true, Bool.and_false, Bool.true_and, Bool.false_and, Bool.or_true, Bool.or_false, Bool.true_or, Bool.false_or, Bool.not_true, Bool.not_false, e1, q1, e2, q2, e3, e4], by unfold zt_sh zt_cs; simp only [decide_true, cond_true, cond_false, Bool.and_true, Bool.and_false, Bool.true_and, Bool.false_and, Bool.or_true, Bool.or_false, Bool.true_or, Bool.false_or, Bool.not_true, Bool.not_false, e1, q1, e2, q2, e3, e4]; exact hit⟩, by rw [htz]; exact hP, hD⟩, hS.F htz⟩) hS.2.2 dX8_shift_36
            · skip
              exact absurd cn_7 (by decide)
          · skip
            have e3 : decide (so t = -1) = false := decide_eq_false (fun q => absurd (zi_m1 (n := 5) (by omega) q) (by rw [hsj, zi_t hjk (by omega)]; exact Bool.noConfusion))
            refine lv_aload_n hx hb dX8_shift_16 rfl (lv_at hl 0 rfl) ?_
            refine va_get (D := D) (ci := 6) (v := .ref w6) (C := RX8) (T := TX8) (N := 15) hx hb hts (by decide +kernel) hown hK.1 hP 0 rfl rfl 11 (by decide) (hts (.fieldLink RX8 30 "HomeRoundsModel" "sorts" "[I") (by decide +kernel)) (fun _ h9 => h9) rfl dX8_shift_17 ?_
            refine lv_iload_n hx hb dX8_shift_20 rfl (lv_at hl 1 rfl) ?_
            refine va_iald hx hb hK.1 hP 1 0 rfl rfl (vp_in_nI (by omega) (by omega)) dX8_shift_21 ?_
            refine zr_ti (y := nI jk) ((congrArg sv (nI_clamp (by omega))).trans (hs1.trans hsj)) ?_
            refine lv_if_lt (tgt := 34) hx hb dX8_shift_22 (by decide) (fun cn_8 => ?_) (fun cn_8 => ?_)
            · skip
              have cn_8 : jk < 0 := (nI_ltI (a := jk) (b := 0) (by omega) (by omega)).mp cn_8
              exfalso; omega
            · skip
              have cn_8 : ¬ (jk < 0) := fun hz => cn_8 ((nI_ltI (a := jk) (b := 0) (by omega) (by omega)).mpr hz)
              rcases ho2 with ⟨hsm2, -⟩ | ⟨jl, hjl, hsl⟩
              · skip
                have e4 : decide (so u = -1) = true := decide_eq_true hsm2
                refine lv_aload_n hx hb dX8_shift_25 rfl (lv_at hl 0 rfl) ?_
                refine va_get (D := D) (ci := 6) (v := .ref w6) (C := RX8) (T := TX8) (N := 15) hx hb hts (by decide +kernel) hown hK.1 hP 0 rfl rfl 11 (by decide) (hts (.fieldLink RX8 30 "HomeRoundsModel" "sorts" "[I") (by decide +kernel)) (fun _ h9 => h9) rfl dX8_shift_26 ?_
                refine lv_iload_n hx hb dX8_shift_29 rfl (lv_at hl 3 rfl) ?_
                refine va_iald hx hb hK.1 hP 1 0 rfl rfl (vp_in_nI (by omega) (by omega)) dX8_shift_30 ?_
                refine zr_ti (y := (-1)) ((congrArg sv (nI_clamp (by omega))).trans (hs3.trans hsm2)) ?_
                refine lv_if_ge (tgt := 37) hx hb dX8_shift_31 (by decide) (fun cn_9 => ?_) (fun cn_9 => ?_)
                · skip
                  exact absurd cn_9 (by decide)
                · skip
                  refine lv_bipush (v := (-11)) hx hb dX8_shift_34 (by rfl) ?_
                  subst hQ; subst hAe
                  exact W.iret (v := (-11)) hx hb hr (fun tz htz hWz => ⟨⟨(-11), (iv, mv), rfl, by first | exact ⟨by unfold zo_shift; simp only [decide_true, cond_true, cond_false, Bool.and_true, Bool.and_false, Bool.true_and, Bool.false_and, Bool.or_true, Bool.or_false, Bool.true_or, Bool.false_or, Bool.not_true, Bool.not_false, e1, q1, e2, q2, e3], by unfold zt_sh zt_cs; simp only [decide_true, cond_true, cond_false, Bool.and_true, Bool.and_false, Bool.true_and, Bool.false_and, Bool.or_true, Bool.or_false, Bool.true_or, Bool.false_or, Bool.not_true, Bool.not_false, e1, q1, e2, q2, e3]; exact hit⟩ | exact ⟨by unfold zo_shift; simp only [decide_true, cond_true, cond_false, Bool.and_true, Bool.and_false, Bool.true_and, Bool.false_and, Bool.or_true, Bool.or_false, Bool.true_or, Bool.false_or, Bool.not_true, Bool.not_false, e1, q1, e2, q2, e3, e4], by unfold zt_sh zt_cs; simp only [decide_true, cond_true, cond_false, Bool.and_true, Bool.and_false, Bool.true_and, Bool.false_and, Bool.or_true, Bool.or_false, Bool.true_or, Bool.false_or, Bool.not_true, Bool.not_false, e1, q1, e2, q2, e3, e4]; exact hit⟩, by rw [htz]; exact hP, hD⟩, hS.F htz⟩) hS.2.2 dX8_shift_36
              · skip
                have e4 : decide (so u = -1) = false := decide_eq_false (fun q => absurd (zi_m1 (n := 5) (by omega) q) (by rw [hsl, zi_t hjl (by omega)]; exact Bool.noConfusion))
                refine lv_aload_n hx hb dX8_shift_25 rfl (lv_at hl 0 rfl) ?_
                refine va_get (D := D) (ci := 6) (v := .ref w6) (C := RX8) (T := TX8) (N := 15) hx hb hts (by decide +kernel) hown hK.1 hP 0 rfl rfl 11 (by decide) (hts (.fieldLink RX8 30 "HomeRoundsModel" "sorts" "[I") (by decide +kernel)) (fun _ h9 => h9) rfl dX8_shift_26 ?_
                refine lv_iload_n hx hb dX8_shift_29 rfl (lv_at hl 3 rfl) ?_
                refine va_iald hx hb hK.1 hP 1 0 rfl rfl (vp_in_nI (by omega) (by omega)) dX8_shift_30 ?_
                refine zr_ti (y := nI jl) ((congrArg sv (nI_clamp (by omega))).trans (hs3.trans hsl)) ?_
                refine lv_if_ge (tgt := 37) hx hb dX8_shift_31 (by decide) (fun cn_10 => ?_) (fun cn_10 => ?_)
                · skip
                  have cn_10 : 0 ≤ jl := (nI_leI (a := 0) (b := jl) (by omega) (by omega)).mp cn_10
                  refine lv_aload_n hx hb dX8_shift_37 rfl (lv_at hl 0 rfl) ?_
                  refine va_get (D := D) (ci := 6) (v := .ref w6) (C := RX8) (T := TX8) (N := 15) hx hb hts (by decide +kernel) hown hK.1 hP 0 rfl rfl 11 (by decide) (hts (.fieldLink RX8 30 "HomeRoundsModel" "sorts" "[I") (by decide +kernel)) (fun _ h9 => h9) rfl dX8_shift_38 ?_
                  refine lv_iload_n hx hb dX8_shift_41 rfl (lv_at hl 1 rfl) ?_
                  refine va_iald hx hb hK.1 hP 1 0 rfl rfl (vp_in_nI (by omega) (by omega)) dX8_shift_42 ?_
                  refine zr_ti (y := nI jk) ((congrArg sv (nI_clamp (by omega))).trans (hs1.trans hsj)) ?_
                  refine lv_aload_n hx hb dX8_shift_43 rfl (lv_at hl 0 rfl) ?_
                  refine va_get (D := D) (ci := 6) (v := .ref w6) (C := RX8) (T := TX8) (N := 15) hx hb hts (by decide +kernel) hown hK.1 hP 0 rfl rfl 11 (by decide) (hts (.fieldLink RX8 30 "HomeRoundsModel" "sorts" "[I") (by decide +kernel)) (fun _ h9 => h9) rfl dX8_shift_44 ?_
                  refine lv_iload_n hx hb dX8_shift_47 rfl (lv_at hl 3 rfl) ?_
                  refine va_iald hx hb hK.1 hP 1 0 rfl rfl (vp_in_nI (by omega) (by omega)) dX8_shift_48 ?_
                  refine zr_ti (y := nI jl) ((congrArg sv (nI_clamp (by omega))).trans (hs3.trans hsl)) ?_
                  refine lv_icmp_eq (tgt := 55) hx hb dX8_shift_49 (by decide) (fun cn_11 => ?_) (fun cn_11 => ?_)
                  · skip
                    have cn_11 : jk = jl := (nI_eq (a := jk) (b := jl) (by omega) (by omega)).mp cn_11
                    have e5 : decide (so t = so u) = true := decide_eq_true (by rw [hsj, hsl, cn_11])
                    rcases Bool.eq_false_or_eq_true (zt_run (tn t) i9 n9 && zt_run (tn u) j9 n9) with e6 | e6
                    · skip
                      obtain ⟨r1, r2⟩ := (Bool.and_eq_true _ _).mp e6
                      obtain ⟨i9_e, n9_e, hr1⟩ := zt_run_x r1
                      obtain ⟨j9_e, -, hr2⟩ := zt_run_x r2
                      obtain ⟨a1, q6⟩ : ∃ a, zq i9 = a := ⟨_, rfl⟩
                      obtain ⟨b1, q7⟩ : ∃ a, zq j9 = a := ⟨_, rfl⟩
                      obtain ⟨n1, q8⟩ : ∃ a, zq n9 = a := ⟨_, rfl⟩
                      rw [q6] at i9_e hr1; rw [q7] at j9_e hr2; rw [q8] at n9_e hr1 hr2
                      rw [i9_e, j9_e, n9_e] at hl
                      refine lv_iload hx hb dX8_shift_55 (lv_at hl 5 rfl) ?_
                      refine lv_if_lt (tgt := 96) hx hb dX8_shift_57 (by decide) (fun cn_12 => ?_) (fun cn_12 => ?_)
                      · skip
                        have cn_12 : n1 < 0 := (nI_ltI (a := n1) (b := 0) (by omega) (by omega)).mp cn_12
                        exfalso; omega
                      · skip
                        have cn_12 : ¬ (n1 < 0) := fun hz => cn_12 ((nI_ltI (a := n1) (b := 0) (by omega) (by omega)).mpr hz)
                        have gn := cn_12
                        refine lv_iload_n hx hb dX8_shift_60 rfl (lv_at hl 2 rfl) ?_
                        refine lv_if_lt (tgt := 96) hx hb dX8_shift_61 (by decide) (fun cn_13 => ?_) (fun cn_13 => ?_)
                        · skip
                          have cn_13 : a1 < 0 := (nI_ltI (a := a1) (b := 0) (by omega) (by omega)).mp cn_13
                          exfalso; omega
                        · skip
                          have cn_13 : ¬ (a1 < 0) := fun hz => cn_13 ((nI_ltI (a := a1) (b := 0) (by omega) (by omega)).mpr hz)
                          have gi := cn_13
                          refine lv_iload hx hb dX8_shift_64 (lv_at hl 4 rfl) ?_
                          refine lv_if_lt (tgt := 96) hx hb dX8_shift_66 (by decide) (fun cn_14 => ?_) (fun cn_14 => ?_)
                          · skip
                            have cn_14 : b1 < 0 := (nI_ltI (a := b1) (b := 0) (by omega) (by omega)).mp cn_14
                            exfalso; omega
                          · skip
                            have cn_14 : ¬ (b1 < 0) := fun hz => cn_14 ((nI_ltI (a := b1) (b := 0) (by omega) (by omega)).mpr hz)
                            have gj := cn_14
                            refine lv_iload_n hx hb dX8_shift_69 rfl (lv_at hl 2 rfl) ?_
                            refine lv_aload_n hx hb dX8_shift_70 rfl (lv_at hl 0 rfl) ?_
                            refine va_get (D := D) (ci := 6) (v := .ref w7) (C := RX8) (T := TX8) (N := 15) hx hb hts (by decide +kernel) hown hK.1 hP 0 rfl rfl 12 (by decide) (hts (.fieldLink RX8 33 "HomeRoundsModel" "sizes" "[I") (by decide +kernel)) (fun _ h9 => h9) rfl dX8_shift_71 ?_
                            refine lv_iload_n hx hb dX8_shift_74 rfl (lv_at hl 1 rfl) ?_
                            refine va_iald hx hb hK.1 hP 2 0 rfl rfl (vp_in_nI (by omega) (by omega)) dX8_shift_75 ?_
                            refine zr_ti (y := nI (tn t)) ((congrArg zs (nI_clamp (by omega))).trans (hs2)) ?_
                            refine lv_iload hx hb dX8_shift_76 (lv_at hl 5 rfl) ?_
                            refine lv_isub hx hb dX8_shift_78 ?_
                            refine zr_ti (y := nI ((tn t) - n1)) (pk_sub (by omega)) ?_
                            refine lv_icmp_gt (tgt := 96) hx hb dX8_shift_79 (by decide) (fun cn_15 => ?_) (fun cn_15 => ?_)
                            · skip
                              have cn_15 : (tn t) - n1 < a1 := (nI_ltI (a := (tn t) - n1) (b := a1) (by omega) (by omega)).mp cn_15
                              exfalso; omega
                            · skip
                              have cn_15 : ¬ ((tn t) - n1 < a1) := fun hz => cn_15 ((nI_ltI (a := (tn t) - n1) (b := a1) (by omega) (by omega)).mpr hz)
                              have gs := cn_15
                              refine lv_iload hx hb dX8_shift_82 (lv_at hl 4 rfl) ?_
                              refine lv_aload_n hx hb dX8_shift_84 rfl (lv_at hl 0 rfl) ?_
                              refine va_get (D := D) (ci := 6) (v := .ref w7) (C := RX8) (T := TX8) (N := 15) hx hb hts (by decide +kernel) hown hK.1 hP 0 rfl rfl 12 (by decide) (hts (.fieldLink RX8 33 "HomeRoundsModel" "sizes" "[I") (by decide +kernel)) (fun _ h9 => h9) rfl dX8_shift_85 ?_
                              refine lv_iload_n hx hb dX8_shift_88 rfl (lv_at hl 3 rfl) ?_
                              refine va_iald hx hb hK.1 hP 2 0 rfl rfl (vp_in_nI (by omega) (by omega)) dX8_shift_89 ?_
                              refine zr_ti (y := nI (tn u)) ((congrArg zs (nI_clamp (by omega))).trans (hs4)) ?_
                              refine lv_iload hx hb dX8_shift_90 (lv_at hl 5 rfl) ?_
                              refine lv_isub hx hb dX8_shift_92 ?_
                              refine zr_ti (y := nI ((tn u) - n1)) (pk_sub (by omega)) ?_
                              refine lv_icmp_le (tgt := 99) hx hb dX8_shift_93 (by decide) (fun cn_16 => ?_) (fun cn_16 => ?_)
                              · skip
                                have cn_16 : b1 ≤ (tn u) - n1 := (nI_leI (a := b1) (b := (tn u) - n1) (by omega) (by omega)).mp cn_16
                                have gt := cn_16
                                refine lv_iconst (v := nI 0) hx hb dX8_shift_99 (by rfl) ?_
                                refine lv_istore (lv' := [(6, .int (nI 0)), (0, .ref m0), (1, .int (nI t)), (2, .int (nI a1)), (3, .int (nI u)), (4, .int (nI b1)), (5, .int (nI n1))]) hx hb dX8_shift_100 hl (by decide) rfl (fun ls hl => ?_)
                                suffices KL102 : ∀ (kz : Nat) (k : Nat) (mvk : Nat → Int64) (H : Heap) (locs : List Loc) (ls : Array Slot), (n1 - k) < kz → (∀ j, j < k → mvk j = iv (60 * t + a1 + j)) → (k ≤ n1) → va_P D vwCl [(m0, .inr (6, [.ref w0, .ref w1, .ref w2, .int ik, .ref w3, .int (nI tx), .int he, .int fa, .ref w4, .ref w5, .int (nI cl), .ref w6, .ref w7, .ref w8, .ref w9])), (w6, .inl (E 0, 6, .inl sv)), (w7, .inl (E 0, 6, .inl zs)), (w8, .inl (E 3, 360, .inr (.inl iv))), (w9, .inl (E 3, 60, .inr (.inl mvk)))] H → va_D A [(m0, .inr (6, [.ref w0, .ref w1, .ref w2, .int ik, .ref w3, .int (nI tx), .int he, .int fa, .ref w4, .ref w5, .int (nI cl), .ref w6, .ref w7, .ref w8, .ref w9])), (w6, .inl (E 0, 6, .inl sv)), (w7, .inl (E 0, 6, .inl zs)), (w8, .inl (E 3, 360, .inr (.inl iv))), (w9, .inl (E 3, 60, .inr (.inl mvk)))] → va_S A s.heap H locs → lv_has ls 7 [(0, .ref m0), (1, .int (nI t)), (2, .int (nI a1)), (3, .int (nI u)), (4, .int (nI b1)), (5, .int (nI n1)), (6, .int (nI k))] → W p l e (headSpec wsX8_shift ({ frames := 2, cells := 0, slots := 0, locals := 42 })).room s m ([.ref m0, .int v, .int i9, .int w, .int j9, .int n9] : List Value).toArray below meth c H locs 0 0 Q (F0 m 102 ls []) from
                                  KL102 _ 0 mv _ _ ls (Nat.lt_succ_self _) (fun j hj => absurd hj (Nat.not_lt_zero _)) (by omega) hP hD hS (lv_sub hl [1, 2, 3, 4, 5, 6, 0] rfl)
                                clear hP hS hl hD
                                intro kz
                                induction kz with
                                | zero => intro k mvk H locs ls hkz; exact absurd hkz (Nat.not_lt_zero _)
                                | succ kz ih102 =>
                                  intro k mvk H locs ls hkz hI hk hP hD hS hl
                                  refine lv_iload hx hb dX8_shift_102 (lv_at hl 6 rfl) ?_
                                  refine lv_iload hx hb dX8_shift_104 (lv_at hl 5 rfl) ?_
                                  refine lv_icmp_ge (tgt := 136) hx hb dX8_shift_106 (by decide) (fun cn_17 => ?_) (fun cn_17 => ?_)
                                  · skip
                                    have cn_17 : n1 ≤ k := (nI_leI (a := n1) (b := k) (by omega) (by omega)).mp cn_17
                                    have hke : k = n1 := by omega
                                    refine lv_iconst (v := nI 0) hx hb dX8_shift_136 (by rfl) ?_
                                    refine lv_istore (lv' := [(6, .int (nI 0)), (0, .ref m0), (1, .int (nI t)), (2, .int (nI a1)), (3, .int (nI u)), (4, .int (nI b1)), (5, .int (nI n1))]) hx hb dX8_shift_137 hl (by decide) rfl (fun ls hl => ?_)
                                    suffices KL139 : ∀ (kz : Nat) (k2 : Nat) (ivk : Nat → Int64) (H : Heap) (locs : List Loc) (ls : Array Slot), (n1 - k2) < kz → (∀ x, ivk x = if 60 * u + b1 ≤ x ∧ x < 60 * u + b1 + k2 then mvk (x - (60 * u + b1)) else iv x) → (k2 ≤ n1) → va_P D vwCl [(m0, .inr (6, [.ref w0, .ref w1, .ref w2, .int ik, .ref w3, .int (nI tx), .int he, .int fa, .ref w4, .ref w5, .int (nI cl), .ref w6, .ref w7, .ref w8, .ref w9])), (w6, .inl (E 0, 6, .inl sv)), (w7, .inl (E 0, 6, .inl zs)), (w8, .inl (E 3, 360, .inr (.inl ivk))), (w9, .inl (E 3, 60, .inr (.inl mvk)))] H → va_D A [(m0, .inr (6, [.ref w0, .ref w1, .ref w2, .int ik, .ref w3, .int (nI tx), .int he, .int fa, .ref w4, .ref w5, .int (nI cl), .ref w6, .ref w7, .ref w8, .ref w9])), (w6, .inl (E 0, 6, .inl sv)), (w7, .inl (E 0, 6, .inl zs)), (w8, .inl (E 3, 360, .inr (.inl ivk))), (w9, .inl (E 3, 60, .inr (.inl mvk)))] → va_S A s.heap H locs → lv_has ls 7 [(0, .ref m0), (3, .int (nI u)), (4, .int (nI b1)), (5, .int (nI n1)), (6, .int (nI k2))] → W p l e (headSpec wsX8_shift ({ frames := 2, cells := 0, slots := 0, locals := 42 })).room s m ([.ref m0, .int v, .int i9, .int w, .int j9, .int n9] : List Value).toArray below meth c H locs 0 0 Q (F0 m 139 ls []) from
                                      KL139 _ 0 iv _ _ ls (Nat.lt_succ_self _) (fun x => by rw [if_neg (by omega)]) (by omega) hP hD hS (lv_sub hl [1, 4, 5, 6, 0] rfl)
                                    clear hP hS hl hD
                                    intro kz
                                    induction kz with
                                    | zero => intro k2 ivk H locs ls hkz; exact absurd hkz (Nat.not_lt_zero _)
                                    | succ kz ih139 =>
                                      intro k2 ivk H locs ls hkz hI2 hk2 hP hD hS hl
                                      refine lv_iload hx hb dX8_shift_139 (lv_at hl 4 rfl) ?_
                                      refine lv_iload hx hb dX8_shift_141 (lv_at hl 3 rfl) ?_
                                      refine lv_icmp_ge (tgt := 174) hx hb dX8_shift_143 (by decide) (fun cn_18 => ?_) (fun cn_18 => ?_)
                                      · skip
                                        have cn_18 : n1 ≤ k2 := (nI_leI (a := n1) (b := k2) (by omega) (by omega)).mp cn_18
                                        have hk2e : k2 = n1 := by omega
                                        refine lv_iload hx hb dX8_shift_174 (lv_at hl 3 rfl) ?_
                                        subst hQ; subst hAe
                                        exact W.iret (v := nI n1) hx hb hr (fun tz htz hWz => ⟨⟨nI n1, (ivk, mvk), rfl, ⟨by unfold zo_shift; simp only [decide_true, cond_true, cond_false, Bool.and_true, Bool.and_false, Bool.true_and, Bool.false_and, Bool.or_true, Bool.or_false, Bool.true_or, Bool.false_or, Bool.not_true, Bool.not_false, e1, q1, e2, q2, e3, e4, e5, e6, q6, q7, q8], by unfold zt_sh zt_cs; simp only [decide_true, cond_true, cond_false, Bool.and_true, Bool.and_false, Bool.true_and, Bool.false_and, Bool.or_true, Bool.or_false, Bool.true_or, Bool.false_or, Bool.not_true, Bool.not_false, e1, q1, e2, q2, e3, e4, e5, e6, q6, q7, q8]; exact (zt_sh_e hit ht hu hr1 hr2 hn1 hn2 (fun j hj => hI j (by omega)) (by rw [hk2e] at hI2; exact hI2))⟩, by rw [htz]; exact hP, hD⟩, hS.F htz⟩) hS.2.2 dX8_shift_176
                                      · skip
                                        have cn_18 : ¬ (n1 ≤ k2) := fun hz => cn_18 ((nI_leI (a := n1) (b := k2) (by omega) (by omega)).mpr hz)
                                        refine lv_aload_n hx hb dX8_shift_146 rfl (lv_at hl 0 rfl) ?_
                                        refine va_get (D := D) (ci := 6) (v := .ref w8) (C := RX8) (T := TX8) (N := 15) hx hb hts (by decide +kernel) hown hK.1 hP 0 rfl rfl 13 (by decide) (hts (.fieldLink RX8 36 "HomeRoundsModel" "items" "[J") (by decide +kernel)) (fun _ h9 => h9) rfl dX8_shift_147 ?_
                                        refine lv_bipush (v := nI 60) hx hb dX8_shift_150 (by rfl) ?_
                                        refine lv_iload_n hx hb dX8_shift_152 rfl (lv_at hl 1 rfl) ?_
                                        refine lv_imul hx hb dX8_shift_153 ?_
                                        refine zr_ti (y := nI (60 * u)) (pk_mul _ _) ?_
                                        refine lv_iload hx hb dX8_shift_154 (lv_at hl 2 rfl) ?_
                                        refine lv_iadd hx hb dX8_shift_156 ?_
                                        refine zr_ti (y := nI ((60 * u) + b1)) (nI_add _ _) ?_
                                        refine lv_iload hx hb dX8_shift_157 (lv_at hl 4 rfl) ?_
                                        refine lv_iadd hx hb dX8_shift_159 ?_
                                        refine zr_ti (y := nI (((60 * u) + b1) + k2)) (nI_add _ _) ?_
                                        refine lv_aload_n hx hb dX8_shift_160 rfl (lv_at hl 0 rfl) ?_
                                        refine va_get (D := D) (ci := 6) (v := .ref w9) (C := RX8) (T := TX8) (N := 15) hx hb hts (by decide +kernel) hown hK.1 hP 0 rfl rfl 14 (by decide) (hts (.fieldLink RX8 40 "HomeRoundsModel" "moved" "[J") (by decide +kernel)) (fun _ h9 => h9) rfl dX8_shift_161 ?_
                                        refine lv_iload hx hb dX8_shift_164 (lv_at hl 4 rfl) ?_
                                        refine va_lald hx hb hK.1 hP 4 3 rfl rfl (vp_in_nI (by omega) (by omega)) dX8_shift_166 ?_
                                        refine zr_tl (y := mvk k2) ((congrArg mvk (nI_clamp (by omega))).trans (rfl)) ?_
                                        refine va_last hx hb hK.1 hP hD hS 3 3 rfl rfl (vp_in_nI (by omega) (by omega)) dX8_shift_167 (fun H locs hP hD hS => ?_)
                                        have hP : va_P D vwCl [(m0, .inr (6, [.ref w0, .ref w1, .ref w2, .int ik, .ref w3, .int (nI tx), .int he, .int fa, .ref w4, .ref w5, .int (nI cl), .ref w6, .ref w7, .ref w8, .ref w9])), (w6, .inl (E 0, 6, .inl sv)), (w7, .inl (E 0, 6, .inl zs)), (w8, .inl (E 3, 360, .inr (.inl (vp_updL ivk (nI (((60 * u) + b1) + k2)).toNatClampNeg (mvk k2))))), (w9, .inl (E 3, 60, .inr (.inl mvk)))] H := hP
                                        have hD : va_D A [(m0, .inr (6, [.ref w0, .ref w1, .ref w2, .int ik, .ref w3, .int (nI tx), .int he, .int fa, .ref w4, .ref w5, .int (nI cl), .ref w6, .ref w7, .ref w8, .ref w9])), (w6, .inl (E 0, 6, .inl sv)), (w7, .inl (E 0, 6, .inl zs)), (w8, .inl (E 3, 360, .inr (.inl (vp_updL ivk (nI (((60 * u) + b1) + k2)).toNatClampNeg (mvk k2))))), (w9, .inl (E 3, 60, .inr (.inl mvk)))] := hD
                                        have hcz : (vp_updL ivk (nI (((60 * u) + b1) + k2)).toNatClampNeg (mvk k2)) = (vp_updL ivk (((60 * u) + b1) + k2) (mvk k2)) := by rw [nI_clamp (n := ((60 * u) + b1) + k2) (by omega)]
                                        rw [hcz] at hP hD
                                        refine lv_iinc (v := nI (k2 + 1)) (lv' := [(6, .int (nI (k2 + 1))), (0, .ref m0), (3, .int (nI u)), (4, .int (nI b1)), (5, .int (nI n1))]) hx hb dX8_shift_168 hl (k := 4) rfl (nI_add _ _) (by decide) rfl (fun ls hl => ?_)
                                        refine lv_goto (tgt := 139) hx hb dX8_shift_171 (by decide) ?_
                                        have hl : lv_has ls 7 [(0, .ref m0), (3, .int (nI u)), (4, .int (nI b1)), (5, .int (nI n1)), (6, .int (nI (k2 + 1)))] := lv_sub hl [1, 2, 3, 4, 0] rfl
                                        exact ih139 (k2 + 1) (vp_updL ivk (((60 * u) + b1) + k2) (mvk k2)) H locs ls (by omega) (zt_sh_u hI2) (by omega) hP hD hS hl
                                  · skip
                                    have cn_17 : ¬ (n1 ≤ k) := fun hz => cn_17 ((nI_leI (a := n1) (b := k) (by omega) (by omega)).mpr hz)
                                    refine lv_aload_n hx hb dX8_shift_109 rfl (lv_at hl 0 rfl) ?_
                                    refine va_get (D := D) (ci := 6) (v := .ref w9) (C := RX8) (T := TX8) (N := 15) hx hb hts (by decide +kernel) hown hK.1 hP 0 rfl rfl 14 (by decide) (hts (.fieldLink RX8 40 "HomeRoundsModel" "moved" "[J") (by decide +kernel)) (fun _ h9 => h9) rfl dX8_shift_110 ?_
                                    refine lv_iload hx hb dX8_shift_113 (lv_at hl 6 rfl) ?_
                                    refine lv_aload_n hx hb dX8_shift_115 rfl (lv_at hl 0 rfl) ?_
                                    refine va_get (D := D) (ci := 6) (v := .ref w8) (C := RX8) (T := TX8) (N := 15) hx hb hts (by decide +kernel) hown hK.1 hP 0 rfl rfl 13 (by decide) (hts (.fieldLink RX8 36 "HomeRoundsModel" "items" "[J") (by decide +kernel)) (fun _ h9 => h9) rfl dX8_shift_116 ?_
                                    refine lv_bipush (v := nI 60) hx hb dX8_shift_119 (by rfl) ?_
                                    refine lv_iload_n hx hb dX8_shift_121 rfl (lv_at hl 1 rfl) ?_
                                    refine lv_imul hx hb dX8_shift_122 ?_
                                    refine zr_ti (y := nI (60 * t)) (pk_mul _ _) ?_
                                    refine lv_iload_n hx hb dX8_shift_123 rfl (lv_at hl 2 rfl) ?_
                                    refine lv_iadd hx hb dX8_shift_124 ?_
                                    refine zr_ti (y := nI ((60 * t) + a1)) (nI_add _ _) ?_
                                    refine lv_iload hx hb dX8_shift_125 (lv_at hl 6 rfl) ?_
                                    refine lv_iadd hx hb dX8_shift_127 ?_
                                    refine zr_ti (y := nI (((60 * t) + a1) + k)) (nI_add _ _) ?_
                                    refine va_lald hx hb hK.1 hP 3 3 rfl rfl (vp_in_nI (by omega) (by omega)) dX8_shift_128 ?_
                                    refine zr_tl (y := iv (60 * t + a1 + k)) ((congrArg iv (nI_clamp (by omega))).trans (rfl)) ?_
                                    refine va_last hx hb hK.1 hP hD hS 4 3 rfl rfl (vp_in_nI (by omega) (by omega)) dX8_shift_129 (fun H locs hP hD hS => ?_)
                                    have hP : va_P D vwCl [(m0, .inr (6, [.ref w0, .ref w1, .ref w2, .int ik, .ref w3, .int (nI tx), .int he, .int fa, .ref w4, .ref w5, .int (nI cl), .ref w6, .ref w7, .ref w8, .ref w9])), (w6, .inl (E 0, 6, .inl sv)), (w7, .inl (E 0, 6, .inl zs)), (w8, .inl (E 3, 360, .inr (.inl iv))), (w9, .inl (E 3, 60, .inr (.inl (vp_updL mvk (nI k).toNatClampNeg (iv (60 * t + a1 + k))))))] H := hP
                                    have hD : va_D A [(m0, .inr (6, [.ref w0, .ref w1, .ref w2, .int ik, .ref w3, .int (nI tx), .int he, .int fa, .ref w4, .ref w5, .int (nI cl), .ref w6, .ref w7, .ref w8, .ref w9])), (w6, .inl (E 0, 6, .inl sv)), (w7, .inl (E 0, 6, .inl zs)), (w8, .inl (E 3, 360, .inr (.inl iv))), (w9, .inl (E 3, 60, .inr (.inl (vp_updL mvk (nI k).toNatClampNeg (iv (60 * t + a1 + k))))))] := hD
                                    have hcz : (vp_updL mvk (nI k).toNatClampNeg (iv (60 * t + a1 + k))) = (vp_updL mvk k (iv (60 * t + a1 + k))) := by rw [nI_clamp (n := k) (by omega)]
                                    rw [hcz] at hP hD
                                    refine lv_iinc (v := nI (k + 1)) (lv' := [(6, .int (nI (k + 1))), (0, .ref m0), (1, .int (nI t)), (2, .int (nI a1)), (3, .int (nI u)), (4, .int (nI b1)), (5, .int (nI n1))]) hx hb dX8_shift_130 hl (k := 6) rfl (nI_add _ _) (by decide) rfl (fun ls hl => ?_)
                                    refine lv_goto (tgt := 102) hx hb dX8_shift_133 (by decide) ?_
                                    have hl : lv_has ls 7 [(0, .ref m0), (1, .int (nI t)), (2, .int (nI a1)), (3, .int (nI u)), (4, .int (nI b1)), (5, .int (nI n1)), (6, .int (nI (k + 1)))] := lv_sub hl [1, 2, 3, 4, 5, 6, 0] rfl
                                    exact ih102 (k + 1) (vp_updL mvk k (iv (60 * t + a1 + k))) H locs ls (by omega) (fun j hj => by unfold vp_updL; split; (rename_i e; rw [e]); exact hI j (by omega)) (by omega) hP hD hS hl
                              · skip
                                have cn_16 : ¬ (b1 ≤ (tn u) - n1) := fun hz => cn_16 ((nI_leI (a := b1) (b := (tn u) - n1) (by omega) (by omega)).mpr hz)
                                exfalso; omega
                    · skip
                      refine lv_iload hx hb dX8_shift_55 (lv_at hl 5 rfl) ?_
                      refine lv_if_lt (tgt := 96) hx hb dX8_shift_57 (by decide) (fun cn_19 => ?_) (fun cn_19 => ?_)
                      · skip
                        refine lv_bipush (v := (-13)) hx hb dX8_shift_96 (by rfl) ?_
                        subst hQ; subst hAe
                        exact W.iret (v := (-13)) hx hb hr (fun tz htz hWz => ⟨⟨(-13), (iv, mv), rfl, ⟨by unfold zo_shift; simp only [decide_true, cond_true, cond_false, Bool.and_true, Bool.and_false, Bool.true_and, Bool.false_and, Bool.or_true, Bool.or_false, Bool.true_or, Bool.false_or, Bool.not_true, Bool.not_false, e1, q1, e2, q2, e3, e4, e5, e6], by unfold zt_sh zt_cs; simp only [decide_true, cond_true, cond_false, Bool.and_true, Bool.and_false, Bool.true_and, Bool.false_and, Bool.or_true, Bool.or_false, Bool.true_or, Bool.false_or, Bool.not_true, Bool.not_false, e1, q1, e2, q2, e3, e4, e5, e6]; exact hit⟩, by rw [htz]; exact hP, hD⟩, hS.F htz⟩) hS.2.2 dX8_shift_98
                      · skip
                        have gn := cn_19
                        refine lv_iload_n hx hb dX8_shift_60 rfl (lv_at hl 2 rfl) ?_
                        refine lv_if_lt (tgt := 96) hx hb dX8_shift_61 (by decide) (fun cn_20 => ?_) (fun cn_20 => ?_)
                        · skip
                          refine lv_bipush (v := (-13)) hx hb dX8_shift_96 (by rfl) ?_
                          subst hQ; subst hAe
                          exact W.iret (v := (-13)) hx hb hr (fun tz htz hWz => ⟨⟨(-13), (iv, mv), rfl, ⟨by unfold zo_shift; simp only [decide_true, cond_true, cond_false, Bool.and_true, Bool.and_false, Bool.true_and, Bool.false_and, Bool.or_true, Bool.or_false, Bool.true_or, Bool.false_or, Bool.not_true, Bool.not_false, e1, q1, e2, q2, e3, e4, e5, e6], by unfold zt_sh zt_cs; simp only [decide_true, cond_true, cond_false, Bool.and_true, Bool.and_false, Bool.true_and, Bool.false_and, Bool.or_true, Bool.or_false, Bool.true_or, Bool.false_or, Bool.not_true, Bool.not_false, e1, q1, e2, q2, e3, e4, e5, e6]; exact hit⟩, by rw [htz]; exact hP, hD⟩, hS.F htz⟩) hS.2.2 dX8_shift_98
                        · skip
                          have gi := cn_20
                          refine lv_iload hx hb dX8_shift_64 (lv_at hl 4 rfl) ?_
                          refine lv_if_lt (tgt := 96) hx hb dX8_shift_66 (by decide) (fun cn_21 => ?_) (fun cn_21 => ?_)
                          · skip
                            refine lv_bipush (v := (-13)) hx hb dX8_shift_96 (by rfl) ?_
                            subst hQ; subst hAe
                            exact W.iret (v := (-13)) hx hb hr (fun tz htz hWz => ⟨⟨(-13), (iv, mv), rfl, ⟨by unfold zo_shift; simp only [decide_true, cond_true, cond_false, Bool.and_true, Bool.and_false, Bool.true_and, Bool.false_and, Bool.or_true, Bool.or_false, Bool.true_or, Bool.false_or, Bool.not_true, Bool.not_false, e1, q1, e2, q2, e3, e4, e5, e6], by unfold zt_sh zt_cs; simp only [decide_true, cond_true, cond_false, Bool.and_true, Bool.and_false, Bool.true_and, Bool.false_and, Bool.or_true, Bool.or_false, Bool.true_or, Bool.false_or, Bool.not_true, Bool.not_false, e1, q1, e2, q2, e3, e4, e5, e6]; exact hit⟩, by rw [htz]; exact hP, hD⟩, hS.F htz⟩) hS.2.2 dX8_shift_98
                          · skip
                            have gj := cn_21
                            refine lv_iload_n hx hb dX8_shift_69 rfl (lv_at hl 2 rfl) ?_
                            refine lv_aload_n hx hb dX8_shift_70 rfl (lv_at hl 0 rfl) ?_
                            refine va_get (D := D) (ci := 6) (v := .ref w7) (C := RX8) (T := TX8) (N := 15) hx hb hts (by decide +kernel) hown hK.1 hP 0 rfl rfl 12 (by decide) (hts (.fieldLink RX8 33 "HomeRoundsModel" "sizes" "[I") (by decide +kernel)) (fun _ h9 => h9) rfl dX8_shift_71 ?_
                            refine lv_iload_n hx hb dX8_shift_74 rfl (lv_at hl 1 rfl) ?_
                            refine va_iald hx hb hK.1 hP 2 0 rfl rfl (vp_in_nI (by omega) (by omega)) dX8_shift_75 ?_
                            refine zr_ti (y := nI (tn t)) ((congrArg zs (nI_clamp (by omega))).trans (hs2)) ?_
                            refine lv_iload hx hb dX8_shift_76 (lv_at hl 5 rfl) ?_
                            refine lv_isub hx hb dX8_shift_78 ?_
                            refine lv_icmp_gt (tgt := 96) hx hb dX8_shift_79 (by decide) (fun cn_22 => ?_) (fun cn_22 => ?_)
                            · skip
                              refine lv_bipush (v := (-13)) hx hb dX8_shift_96 (by rfl) ?_
                              subst hQ; subst hAe
                              exact W.iret (v := (-13)) hx hb hr (fun tz htz hWz => ⟨⟨(-13), (iv, mv), rfl, ⟨by unfold zo_shift; simp only [decide_true, cond_true, cond_false, Bool.and_true, Bool.and_false, Bool.true_and, Bool.false_and, Bool.or_true, Bool.or_false, Bool.true_or, Bool.false_or, Bool.not_true, Bool.not_false, e1, q1, e2, q2, e3, e4, e5, e6], by unfold zt_sh zt_cs; simp only [decide_true, cond_true, cond_false, Bool.and_true, Bool.and_false, Bool.true_and, Bool.false_and, Bool.or_true, Bool.or_false, Bool.true_or, Bool.false_or, Bool.not_true, Bool.not_false, e1, q1, e2, q2, e3, e4, e5, e6]; exact hit⟩, by rw [htz]; exact hP, hD⟩, hS.F htz⟩) hS.2.2 dX8_shift_98
                            · skip
                              have gs := cn_22
                              refine lv_iload hx hb dX8_shift_82 (lv_at hl 4 rfl) ?_
                              refine lv_aload_n hx hb dX8_shift_84 rfl (lv_at hl 0 rfl) ?_
                              refine va_get (D := D) (ci := 6) (v := .ref w7) (C := RX8) (T := TX8) (N := 15) hx hb hts (by decide +kernel) hown hK.1 hP 0 rfl rfl 12 (by decide) (hts (.fieldLink RX8 33 "HomeRoundsModel" "sizes" "[I") (by decide +kernel)) (fun _ h9 => h9) rfl dX8_shift_85 ?_
                              refine lv_iload_n hx hb dX8_shift_88 rfl (lv_at hl 3 rfl) ?_
                              refine va_iald hx hb hK.1 hP 2 0 rfl rfl (vp_in_nI (by omega) (by omega)) dX8_shift_89 ?_
                              refine zr_ti (y := nI (tn u)) ((congrArg zs (nI_clamp (by omega))).trans (hs4)) ?_
                              refine lv_iload hx hb dX8_shift_90 (lv_at hl 5 rfl) ?_
                              refine lv_isub hx hb dX8_shift_92 ?_
                              refine lv_icmp_le (tgt := 99) hx hb dX8_shift_93 (by decide) (fun cn_23 => ?_) (fun cn_23 => ?_)
                              · skip
                                exact absurd e6 (by rw [zn_run2 hn1 gn gi gs, zn_run2 hn2 gn gj (Int32.not_lt.mpr cn_23)]; decide)
                              · skip
                                refine lv_bipush (v := (-13)) hx hb dX8_shift_96 (by rfl) ?_
                                subst hQ; subst hAe
                                exact W.iret (v := (-13)) hx hb hr (fun tz htz hWz => ⟨⟨(-13), (iv, mv), rfl, ⟨by unfold zo_shift; simp only [decide_true, cond_true, cond_false, Bool.and_true, Bool.and_false, Bool.true_and, Bool.false_and, Bool.or_true, Bool.or_false, Bool.true_or, Bool.false_or, Bool.not_true, Bool.not_false, e1, q1, e2, q2, e3, e4, e5, e6], by unfold zt_sh zt_cs; simp only [decide_true, cond_true, cond_false, Bool.and_true, Bool.and_false, Bool.true_and, Bool.false_and, Bool.or_true, Bool.or_false, Bool.true_or, Bool.false_or, Bool.not_true, Bool.not_false, e1, q1, e2, q2, e3, e4, e5, e6]; exact hit⟩, by rw [htz]; exact hP, hD⟩, hS.F htz⟩) hS.2.2 dX8_shift_98
                  · skip
                    have cn_11 : ¬ (jk = jl) := fun hz => cn_11 ((nI_eq (a := jk) (b := jl) (by omega) (by omega)).mpr hz)
                    have e5 : decide (so t = so u) = false := decide_eq_false (fun q => cn_11 ((nI_eq (by omega) (by omega)).mp (hsj.symm.trans (q.trans hsl))))
                    refine lv_bipush (v := (-12)) hx hb dX8_shift_52 (by rfl) ?_
                    subst hQ; subst hAe
                    exact W.iret (v := (-12)) hx hb hr (fun tz htz hWz => ⟨⟨(-12), (iv, mv), rfl, ⟨by unfold zo_shift; simp only [decide_true, cond_true, cond_false, Bool.and_true, Bool.and_false, Bool.true_and, Bool.false_and, Bool.or_true, Bool.or_false, Bool.true_or, Bool.false_or, Bool.not_true, Bool.not_false, e1, q1, e2, q2, e3, e4, e5], by unfold zt_sh zt_cs; simp only [decide_true, cond_true, cond_false, Bool.and_true, Bool.and_false, Bool.true_and, Bool.false_and, Bool.or_true, Bool.or_false, Bool.true_or, Bool.false_or, Bool.not_true, Bool.not_false, e1, q1, e2, q2, e3, e4, e5]; exact hit⟩, by rw [htz]; exact hP, hD⟩, hS.F htz⟩) hS.2.2 dX8_shift_54
                · skip
                  have cn_10 : ¬ (0 ≤ jl) := fun hz => cn_10 ((nI_leI (a := 0) (b := jl) (by omega) (by omega)).mpr hz)
                  exfalso; omega
        · skip
          exact absurd cn_6 (by decide)
      · skip
        have e2 : zi 6 w = false := zi_f hw_5
        refine zr_ti (y := nI 0) rfl ?_
        refine lv_if_ne (tgt := 16) hx hb dX8_shift_11 (by decide) (fun cn_24 => ?_) (fun cn_24 => ?_)
        · skip
          exact absurd cn_24 (by decide)
        · skip
          refine lv_iconst (v := (-1)) hx hb dX8_shift_14 (by rfl) ?_
          subst hQ; subst hAe
          exact W.iret (v := (-1)) hx hb hr (fun tz htz hWz => ⟨⟨(-1), (iv, mv), rfl, by first | exact ⟨by unfold zo_shift; simp only [decide_true, cond_true, cond_false, Bool.and_true, Bool.and_false, Bool.true_and, Bool.false_and, Bool.or_true, Bool.or_false, Bool.true_or, Bool.false_or, Bool.not_true, Bool.not_false, e1], by unfold zt_sh zt_cs; simp only [decide_true, cond_true, cond_false, Bool.and_true, Bool.and_false, Bool.true_and, Bool.false_and, Bool.or_true, Bool.or_false, Bool.true_or, Bool.false_or, Bool.not_true, Bool.not_false, e1]; exact hit⟩ | exact ⟨by unfold zo_shift; simp only [decide_true, cond_true, cond_false, Bool.and_true, Bool.and_false, Bool.true_and, Bool.false_and, Bool.or_true, Bool.or_false, Bool.true_or, Bool.false_or, Bool.not_true, Bool.not_false, e1, e2], by unfold zt_sh zt_cs; simp only [decide_true, cond_true, cond_false, Bool.and_true, Bool.and_false, Bool.true_and, Bool.false_and, Bool.or_true, Bool.or_false, Bool.true_or, Bool.false_or, Bool.not_true, Bool.not_false, e1, e2]; exact hit⟩, by rw [htz]; exact hP, hD⟩, hS.F htz⟩) hS.2.2 dX8_shift_15
  · skip
    have e1 : zi 6 v = false := zi_f hw_2
    refine zr_ti (y := nI 0) rfl ?_
    refine lv_if_eq (tgt := 14) hx hb dX8_shift_4 (by decide) (fun cn_25 => ?_) (fun cn_25 => ?_)
    · skip
      refine lv_iconst (v := (-1)) hx hb dX8_shift_14 (by rfl) ?_
      subst hQ; subst hAe
      exact W.iret (v := (-1)) hx hb hr (fun tz htz hWz => ⟨⟨(-1), (iv, mv), rfl, by first | exact ⟨by unfold zo_shift; simp only [decide_true, cond_true, cond_false, Bool.and_true, Bool.and_false, Bool.true_and, Bool.false_and, Bool.or_true, Bool.or_false, Bool.true_or, Bool.false_or, Bool.not_true, Bool.not_false, e1], by unfold zt_sh zt_cs; simp only [decide_true, cond_true, cond_false, Bool.and_true, Bool.and_false, Bool.true_and, Bool.false_and, Bool.or_true, Bool.or_false, Bool.true_or, Bool.false_or, Bool.not_true, Bool.not_false, e1]; exact hit⟩ | exact ⟨by unfold zo_shift; simp only [decide_true, cond_true, cond_false, Bool.and_true, Bool.and_false, Bool.true_and, Bool.false_and, Bool.or_true, Bool.or_false, Bool.true_or, Bool.false_or, Bool.not_true, Bool.not_false, e1, e2], by unfold zt_sh zt_cs; simp only [decide_true, cond_true, cond_false, Bool.and_true, Bool.and_false, Bool.true_and, Bool.false_and, Bool.or_true, Bool.or_false, Bool.true_or, Bool.false_or, Bool.not_true, Bool.not_false, e1, e2]; exact hit⟩, by rw [htz]; exact hP, hD⟩, hS.F htz⟩) hS.2.2 dX8_shift_15
    · skip
      exact absurd cn_25 (by decide)

set_option maxHeartbeats 4000000 in
set_option maxRecDepth 100000 in
theorem c_X8_judge (l : Launch) (D : va_G) (E : Nat → ClassId) (m0 : Nat) (w0 : Nat) (w1 : Nat) (w2 : Nat) (w3 : Nat) (w4 : Nat) (w5 : Nat) (w6 : Nat) (w7 : Nat) (w8 : Nat) (w9 : Nat) (ik : Int32) (tx : Nat) (he : Int32) (fa : Int32) (cl : Nat) (wv : Nat → Int32) (N : Nat) (G : Nat → Nat → Nat) (P : Nat → Nat → Nat) (X : Nat → Nat) (Y : Nat → Nat) (sv : Nat → Int32) (zs : Nat → Int32) (iv : Nat → Int64) (mv : Nat → Int64) (so : Nat → Int32) (tn : Nat → Nat) (it : Nat → Nat → Int64) (v : Int32) (w : Int32) (y : Int32) (hvg : zv_g N G P wv) (hxy : zv_xy X Y wv) (hst : ∀ k, k < 6 → sv k = so k ∧ zs k = nI (tn k)) (hit : ∀ k j, k < 6 → j < 60 → iv (60 * k + j) = it k j) (hto : zt_ok so tn) : Met l yX8_judge wsX8_judge ({ frames := 5, cells := 0, slots := 0, locals := 114 }) (zr_P D E [.ref m0, .int v, .int w, .int y] [(m0, .inr (6, [.ref w0, .ref w1, .ref w2, .int ik, .ref w3, .int (nI tx), .int he, .int fa, .ref w4, .ref w5, .int (nI cl), .ref w6, .ref w7, .ref w8, .ref w9])), (w0, .inl (E 0, 137, .inl wv)), (w6, .inl (E 0, 6, .inl sv)), (w7, .inl (E 0, 6, .inl zs)), (w8, .inl (E 3, 360, .inr (.inl iv))), (w9, .inl (E 3, 60, .inr (.inl mv)))]) (zr_Qi (fun zv => zv = zo_judge N G P X Y so tn it v w y)) 0 0 (fun _ => False) := by
  refine Met.ofW (cc := cX8_judge) (maxL := 5) (ret := (some .int)) (by decide) rfl ?_
  intro p e s m args below meth c s₁ Bz hml hv
  obtain ⟨rfl, hP, hK⟩ := hv
  have hx := Bz.exec
  have hb := Bz.bytes
  have hr := Bz.returns
  have hts := atoms_spec (ws := wsX8_judge) Bz.pre
  have hown : s.vm.findClass RX8 = some m.cls := findClass_of_methodNamed Bz.named
  have hlocks := Bz.notSynchronized
  have hP : va_P D vwCl [(m0, .inr (6, [.ref w0, .ref w1, .ref w2, .int ik, .ref w3, .int (nI tx), .int he, .int fa, .ref w4, .ref w5, .int (nI cl), .ref w6, .ref w7, .ref w8, .ref w9])), (w0, .inl (E 0, 137, .inl wv)), (w6, .inl (E 0, 6, .inl sv)), (w7, .inl (E 0, 6, .inl zs)), (w8, .inl (E 3, 360, .inr (.inl iv))), (w9, .inl (E 3, 60, .inr (.inl mv)))] s.heap := hP
  have hS : va_S (fun _ : Nat => False) s.heap s.heap [] := va_S.rf
  have hl := lv_entry ([.ref m0, .int v, .int w, .int y]) (n := 5) (Nat.le_of_ble_eq_true rfl)
  rw [lg_entry_eq]
  generalize (lg_sl ([.ref m0, .int v, .int w, .int y]) ++ List.replicate (5 - (lg_sl ([.ref m0, .int v, .int w, .int y])).length) Slot.unset).toArray = ls at hl ⊢
  have hl : lv_has ls 5 [(0, .ref m0), (1, .int v), (2, .int w), (3, .int y)] := hl
  refine zr_nQ (fun Q hQ => ?_)
  have hok := hvg.1
  have hN := hok.1
  have hvn := hvg.2.1
  have hgr := zm_gr_of hxy
  refine lv_aload_n hx hb dX8_judge_0 rfl (lv_at hl 0 rfl) ?_
  refine lv_iload_n hx hb dX8_judge_1 rfl (lv_at hl 1 rfl) ?_
  refine zr_ci hP hS (va_runV (As := [.int v]) (rest := []) ⟨hx, hb, hml, hown, hts⟩ (c_X8_isTeam l D E m0 w0 w1 w2 w3 w4 w5 w6 w7 w8 w9 ik tx he fa cl wv N v (hvn) (hN)) (cwV 1 hts gX8_judge_X8_isTeam rfl rfl rfl (by decide +kernel) ⟨Nat.le_of_ble_eq_true rfl, Nat.le_of_ble_eq_true rfl⟩) (zr_V hK (hP.sub (ws' := [(m0, .inr (6, [.ref w0, .ref w1, .ref w2, .int ik, .ref w3, .int (nI tx), .int he, .int fa, .ref w4, .ref w5, .int (nI cl), .ref w6, .ref w7, .ref w8, .ref w9])), (w0, .inl (E 0, 137, .inl wv))]) [0, 1] rfl) (ci := 6) (q0 := 0) rfl rfl) rfl rfl hl.1 rfl (lv_room (Nat.le_of_ble_eq_true rfl)) dX8_judge_2 ⟨Nat.zero_le _, Nat.zero_le _⟩) (fun r_1 H locs hw_2 hP hS => ?_)
  rcases hw_2 with ⟨rfl, hw_2⟩ | ⟨rfl, hw_2⟩
  · skip
    obtain ⟨t, ht, v_e⟩ := hw_2
    have e1 : zi N v = true := v_e ▸ zi_t ht (by omega)
    have q1 : zq v = t := v_e ▸ zq_t (by omega)
    rw [v_e] at hl
    refine zr_ti (y := nI 1) rfl ?_
    refine lv_if_eq (tgt := 15) hx hb dX8_judge_5 (by decide) (fun cn_3 => ?_) (fun cn_3 => ?_)
    · skip
      exact absurd cn_3 (by decide)
    · skip
      refine lv_iload_n hx hb dX8_judge_8 rfl (lv_at hl 2 rfl) ?_
      refine zr_ci hP hS (va_runS (As := [.int w]) (rest := []) ⟨hx, hb, hml, hown, hts⟩ (c_X8_isTape l D E w ) (va_cwS 1 hts gX8_judge_X8_isTape rfl rfl rfl (by decide +kernel) ⟨Nat.le_of_ble_eq_true rfl, Nat.le_of_ble_eq_true rfl⟩) (zr_S hK (hP.sub (ws' := []) [] rfl)) rfl rfl hl.1 rfl (lv_room (Nat.le_of_ble_eq_true rfl)) dX8_judge_9 ⟨Nat.zero_le _, Nat.zero_le _⟩) (fun r_4 H locs hw_5 hP hS => ?_)
      rcases hw_5 with ⟨rfl, hw_5⟩ | ⟨rfl, hw_5⟩
      · skip
        obtain ⟨u, hu, w_e⟩ := hw_5
        have e2 : zi 6 w = true := w_e ▸ zi_t hu (by omega)
        have q2 : zq w = u := w_e ▸ zq_t (by omega)
        rw [w_e] at hl
        refine zr_ti (y := nI 1) rfl ?_
        refine lv_if_ne (tgt := 17) hx hb dX8_judge_12 (by decide) (fun cn_6 => ?_) (fun cn_6 => ?_)
        · skip
          obtain ⟨hs1, hs2⟩ := hst u (by omega)
          obtain ⟨hn1, ho1⟩ := hto u (by omega)
          rcases ho1 with ⟨hsm, htn0⟩ | ⟨jk, hjk, hsj⟩
          · skip
            have e3 : decide (so u = -1) = true := decide_eq_true hsm
            refine lv_aload_n hx hb dX8_judge_17 rfl (lv_at hl 0 rfl) ?_
            refine va_get (D := D) (ci := 6) (v := .ref w6) (C := RX8) (T := TX8) (N := 15) hx hb hts (by decide +kernel) hown hK.1 hP 0 rfl rfl 11 (by decide) (hts (.fieldLink RX8 30 "HomeRoundsModel" "sorts" "[I") (by decide +kernel)) (fun _ h9 => h9) rfl dX8_judge_18 ?_
            refine lv_iload_n hx hb dX8_judge_21 rfl (lv_at hl 2 rfl) ?_
            refine va_iald hx hb hK.1 hP 2 0 rfl rfl (vp_in_nI (by omega) (by omega)) dX8_judge_22 ?_
            refine zr_ti (y := (-1)) ((congrArg sv (nI_clamp (by omega))).trans (hs1.trans hsm)) ?_
            refine lv_if_lt (tgt := 39) hx hb dX8_judge_23 (by decide) (fun cn_7 => ?_) (fun cn_7 => ?_)
            · skip
              have e4 : zi (tn u) y = false := zi_f (fun a ha => by omega)
              · skip
                refine lv_iconst (v := nI 0) hx hb dX8_judge_39 (by rfl) ?_
                refine lv_istore (lv' := [(4, .int (nI 0)), (0, .ref m0), (1, .int (nI t)), (2, .int (nI u)), (3, .int y)]) hx hb dX8_judge_40 hl (by decide) rfl (fun ls hl => ?_)
                suffices KL42 : ∀ (kz : Nat) (r : Nat) (H : Heap) (locs : List Loc) (ls : Array Slot), (N - r) < kz → (r = 0) → va_P D vwCl [(m0, .inr (6, [.ref w0, .ref w1, .ref w2, .int ik, .ref w3, .int (nI tx), .int he, .int fa, .ref w4, .ref w5, .int (nI cl), .ref w6, .ref w7, .ref w8, .ref w9])), (w0, .inl (E 0, 137, .inl wv)), (w6, .inl (E 0, 6, .inl sv)), (w7, .inl (E 0, 6, .inl zs)), (w8, .inl (E 3, 360, .inr (.inl iv))), (w9, .inl (E 3, 60, .inr (.inl mv)))] H → va_S (fun _ : Nat => False) s.heap H locs → lv_has ls 5 [(0, .ref m0), (1, .int (nI t)), (2, .int (nI u)), (3, .int y), (4, .int (nI r))] → W p l e (headSpec wsX8_judge ({ frames := 5, cells := 0, slots := 0, locals := 114 })).room s m ([.ref m0, .int v, .int w, .int y] : List Value).toArray below meth c H locs 0 0 Q (F0 m 42 ls []) from
                  KL42 _ 0 _ _ ls (Nat.lt_succ_self _) (rfl) hP hS (lv_sub hl [1, 2, 3, 4, 0] rfl)
                clear hP hS hl
                intro kz
                induction kz with
                | zero => intro r H locs ls hkz; exact absurd hkz (Nat.not_lt_zero _)
                | succ kz ih42 =>
                  intro r H locs ls hkz hr0 hP hS hl
                  refine lv_iload hx hb dX8_judge_42 (lv_at hl 4 rfl) ?_
                  refine lv_aload_n hx hb dX8_judge_44 rfl (lv_at hl 0 rfl) ?_
                  refine zr_ci hP hS (va_runV (As := []) (rest := [.int (nI r)]) ⟨hx, hb, hml, hown, hts⟩ (c_X8_rounds l D E m0 w0 w1 w2 w3 w4 w5 w6 w7 w8 w9 ik tx he fa cl wv N (hvn) (hN)) (cwV 0 hts gX8_judge_X8_rounds rfl rfl rfl (by decide +kernel) ⟨Nat.le_of_ble_eq_true rfl, Nat.le_of_ble_eq_true rfl⟩) (zr_V hK (hP.sub (ws' := [(m0, .inr (6, [.ref w0, .ref w1, .ref w2, .int ik, .ref w3, .int (nI tx), .int he, .int fa, .ref w4, .ref w5, .int (nI cl), .ref w6, .ref w7, .ref w8, .ref w9])), (w0, .inl (E 0, 137, .inl wv))]) [0, 1] rfl) (ci := 6) (q0 := 0) rfl rfl) rfl rfl hl.1 rfl (lv_room (Nat.le_of_ble_eq_true rfl)) dX8_judge_45 ⟨Nat.zero_le _, Nat.zero_le _⟩) (fun r_8 H locs hw_9 hP hS => ?_)
                  subst hw_9
                  refine lv_icmp_ge (tgt := 112) hx hb dX8_judge_48 (by decide) (fun cn_10 => ?_) (fun cn_10 => ?_)
                  · skip
                    have cn_10 : N - 1 ≤ r := (nI_leI (a := N - 1) (b := r) (by omega) (by omega)).mp cn_10
                    have hre : r = N - 1 := by omega
                    refine lv_bipush (v := (-5)) hx hb dX8_judge_112 (by rfl) ?_
                    subst hQ
                    exact W.iret (v := (-5)) hx hb hr (fun tz htz hWz => ⟨⟨(-5), (), rfl, by exfalso; omega, trivial⟩, hS.F htz⟩) hS.2.2 dX8_judge_114
                  · skip
                    have cn_10 : ¬ (N - 1 ≤ r) := fun hz => cn_10 ((nI_leI (a := N - 1) (b := r) (by omega) (by omega)).mpr hz)
                    have hrN : r < N - 1 := by omega
                    refine lv_iload_n hx hb dX8_judge_51 rfl (lv_at hl 3 rfl) ?_
                    refine lv_if_lt (tgt := 68) hx hb dX8_judge_52 (by decide) (fun cn_11 => ?_) (fun cn_11 => ?_)
                    · skip
                      refine lv_bipush (v := nI 100) hx hb dX8_judge_68 (by rfl) ?_
                      refine lv_iload hx hb dX8_judge_70 (lv_at hl 4 rfl) ?_
                      refine lv_iadd hx hb dX8_judge_72 ?_
                      refine zr_ti (y := nI (100 + r)) (nI_add _ _) ?_
                      subst hQ
                      exact W.iret (v := nI (100 + r)) hx hb hr (fun tz htz hWz => ⟨⟨nI (100 + r), (), rfl, by first | (unfold zo_judge; simp only [decide_true, cond_true, cond_false, Bool.and_true, Bool.and_false, Bool.true_and, Bool.false_and, Bool.or_true, Bool.or_false, Bool.true_or, Bool.false_or, Bool.not_true, Bool.not_false, e1, q1, e2, q2, e3, hr0]; done) | (unfold zo_judge; simp only [decide_true, cond_true, cond_false, Bool.and_true, Bool.and_false, Bool.true_and, Bool.false_and, Bool.or_true, Bool.or_false, Bool.true_or, Bool.false_or, Bool.not_true, Bool.not_false, e1, q1, e2, q2, e3, e5, e4, hr0]; done), trivial⟩, hS.F htz⟩) hS.2.2 dX8_judge_73
                    · skip
                      have gy := cn_11
                      refine lv_iload hx hb dX8_judge_55 (lv_at hl 4 rfl) ?_
                      refine lv_aload_n hx hb dX8_judge_57 rfl (lv_at hl 0 rfl) ?_
                      refine va_get (D := D) (ci := 6) (v := .ref w7) (C := RX8) (T := TX8) (N := 15) hx hb hts (by decide +kernel) hown hK.1 hP 0 rfl rfl 12 (by decide) (hts (.fieldLink RX8 33 "HomeRoundsModel" "sizes" "[I") (by decide +kernel)) (fun _ h9 => h9) rfl dX8_judge_58 ?_
                      refine lv_iload_n hx hb dX8_judge_61 rfl (lv_at hl 2 rfl) ?_
                      refine va_iald hx hb hK.1 hP 3 0 rfl rfl (vp_in_nI (by omega) (by omega)) dX8_judge_62 ?_
                      refine zr_ti (y := nI (tn u)) ((congrArg zs (nI_clamp (by omega))).trans (hs2)) ?_
                      refine lv_iload_n hx hb dX8_judge_63 rfl (lv_at hl 3 rfl) ?_
                      refine lv_isub hx hb dX8_judge_64 ?_
                      refine lv_icmp_lt (tgt := 74) hx hb dX8_judge_65 (by decide) (fun cn_12 => ?_) (fun cn_12 => ?_)
                      · skip
                        exact (zn_jno hn1 e4 gy (by rw [← hr0]; exact cn_12)).elim
                      · skip
                        first | (have hout : ¬ z + r < tn u := by omega) | skip
                        refine lv_bipush (v := nI 100) hx hb dX8_judge_68 (by rfl) ?_
                        refine lv_iload hx hb dX8_judge_70 (lv_at hl 4 rfl) ?_
                        refine lv_iadd hx hb dX8_judge_72 ?_
                        refine zr_ti (y := nI (100 + r)) (nI_add _ _) ?_
                        subst hQ
                        exact W.iret (v := nI (100 + r)) hx hb hr (fun tz htz hWz => ⟨⟨nI (100 + r), (), rfl, by first | (unfold zo_judge; simp only [decide_true, cond_true, cond_false, Bool.and_true, Bool.and_false, Bool.true_and, Bool.false_and, Bool.or_true, Bool.or_false, Bool.true_or, Bool.false_or, Bool.not_true, Bool.not_false, e1, q1, e2, q2, e3, hr0]; done) | (unfold zo_judge; simp only [decide_true, cond_true, cond_false, Bool.and_true, Bool.and_false, Bool.true_and, Bool.false_and, Bool.or_true, Bool.or_false, Bool.true_or, Bool.false_or, Bool.not_true, Bool.not_false, e1, q1, e2, q2, e3, e5, e4, hr0]; done), trivial⟩, hS.F htz⟩) hS.2.2 dX8_judge_73
            · skip
              exact absurd cn_7 (by decide)
          · skip
            have e3 : decide (so u = -1) = false := decide_eq_false (fun q => absurd (zi_m1 (n := 5) (by omega) q) (by rw [hsj, zi_t hjk (by omega)]; exact Bool.noConfusion))
            have q4 : zq (so u) = jk := by rw [hsj]; exact zq_t (by omega)
            refine lv_aload_n hx hb dX8_judge_17 rfl (lv_at hl 0 rfl) ?_
            refine va_get (D := D) (ci := 6) (v := .ref w6) (C := RX8) (T := TX8) (N := 15) hx hb hts (by decide +kernel) hown hK.1 hP 0 rfl rfl 11 (by decide) (hts (.fieldLink RX8 30 "HomeRoundsModel" "sorts" "[I") (by decide +kernel)) (fun _ h9 => h9) rfl dX8_judge_18 ?_
            refine lv_iload_n hx hb dX8_judge_21 rfl (lv_at hl 2 rfl) ?_
            refine va_iald hx hb hK.1 hP 2 0 rfl rfl (vp_in_nI (by omega) (by omega)) dX8_judge_22 ?_
            refine zr_ti (y := nI jk) ((congrArg sv (nI_clamp (by omega))).trans (hs1.trans hsj)) ?_
            refine lv_if_lt (tgt := 39) hx hb dX8_judge_23 (by decide) (fun cn_13 => ?_) (fun cn_13 => ?_)
            · skip
              have cn_13 : jk < 0 := (nI_ltI (a := jk) (b := 0) (by omega) (by omega)).mp cn_13
              exfalso; omega
            · skip
              have cn_13 : ¬ (jk < 0) := fun hz => cn_13 ((nI_ltI (a := jk) (b := 0) (by omega) (by omega)).mpr hz)
              refine lv_aload_n hx hb dX8_judge_26 rfl (lv_at hl 0 rfl) ?_
              refine va_get (D := D) (ci := 6) (v := .ref w6) (C := RX8) (T := TX8) (N := 15) hx hb hts (by decide +kernel) hown hK.1 hP 0 rfl rfl 11 (by decide) (hts (.fieldLink RX8 30 "HomeRoundsModel" "sorts" "[I") (by decide +kernel)) (fun _ h9 => h9) rfl dX8_judge_27 ?_
              refine lv_iload_n hx hb dX8_judge_30 rfl (lv_at hl 2 rfl) ?_
              refine va_iald hx hb hK.1 hP 2 0 rfl rfl (vp_in_nI (by omega) (by omega)) dX8_judge_31 ?_
              refine zr_ti (y := nI jk) ((congrArg sv (nI_clamp (by omega))).trans (hs1.trans hsj)) ?_
              refine lv_iconst (v := nI 2) hx hb dX8_judge_32 (by rfl) ?_
              refine lv_icmp_eq (tgt := 39) hx hb dX8_judge_33 (by decide) (fun cn_14 => ?_) (fun cn_14 => ?_)
              · skip
                have cn_14 : jk = 2 := (nI_eq (a := jk) (b := 2) (by omega) (by omega)).mp cn_14
                have e5 : decide (so u = nI 2) = true := decide_eq_true (by rw [hsj, cn_14])
                rcases Bool.eq_false_or_eq_true (zi (tn u) y) with e4 | e4
                · skip
                  obtain ⟨z, q5⟩ : ∃ a, zq y = a := ⟨_, rfl⟩
                  obtain ⟨hz, y_e⟩ := zi_x e4
                  rw [q5] at hz y_e
                  rw [y_e] at hl
                  refine lv_iconst (v := nI 0) hx hb dX8_judge_39 (by rfl) ?_
                  refine lv_istore (lv' := [(4, .int (nI 0)), (0, .ref m0), (1, .int (nI t)), (2, .int (nI u)), (3, .int (nI z))]) hx hb dX8_judge_40 hl (by decide) rfl (fun ls hl => ?_)
                  suffices KL42 : ∀ (kz : Nat) (r : Nat) (H : Heap) (locs : List Loc) (ls : Array Slot), (N - r) < kz → (zm_jd (it u) (fun r => lN (zf_wear (zm_way G P X Y t) (r + 1)).toNat) (tn u) z (N - 1) 0 = zm_jd (it u) (fun r => lN (zf_wear (zm_way G P X Y t) (r + 1)).toNat) (tn u) z (N - 1 - r) r) → (r ≤ N - 1) → va_P D vwCl [(m0, .inr (6, [.ref w0, .ref w1, .ref w2, .int ik, .ref w3, .int (nI tx), .int he, .int fa, .ref w4, .ref w5, .int (nI cl), .ref w6, .ref w7, .ref w8, .ref w9])), (w0, .inl (E 0, 137, .inl wv)), (w6, .inl (E 0, 6, .inl sv)), (w7, .inl (E 0, 6, .inl zs)), (w8, .inl (E 3, 360, .inr (.inl iv))), (w9, .inl (E 3, 60, .inr (.inl mv)))] H → va_S (fun _ : Nat => False) s.heap H locs → lv_has ls 5 [(0, .ref m0), (1, .int (nI t)), (2, .int (nI u)), (3, .int (nI z)), (4, .int (nI r))] → W p l e (headSpec wsX8_judge ({ frames := 5, cells := 0, slots := 0, locals := 114 })).room s m ([.ref m0, .int v, .int w, .int y] : List Value).toArray below meth c H locs 0 0 Q (F0 m 42 ls []) from
                    KL42 _ 0 _ _ ls (Nat.lt_succ_self _) (rfl) (by omega) hP hS (lv_sub hl [1, 2, 3, 4, 0] rfl)
                  clear hP hS hl
                  intro kz
                  induction kz with
                  | zero => intro r H locs ls hkz; exact absurd hkz (Nat.not_lt_zero _)
                  | succ kz ih42 =>
                    intro r H locs ls hkz hI hrr9 hP hS hl
                    refine lv_iload hx hb dX8_judge_42 (lv_at hl 4 rfl) ?_
                    refine lv_aload_n hx hb dX8_judge_44 rfl (lv_at hl 0 rfl) ?_
                    refine zr_ci hP hS (va_runV (As := []) (rest := [.int (nI r)]) ⟨hx, hb, hml, hown, hts⟩ (c_X8_rounds l D E m0 w0 w1 w2 w3 w4 w5 w6 w7 w8 w9 ik tx he fa cl wv N (hvn) (hN)) (cwV 0 hts gX8_judge_X8_rounds rfl rfl rfl (by decide +kernel) ⟨Nat.le_of_ble_eq_true rfl, Nat.le_of_ble_eq_true rfl⟩) (zr_V hK (hP.sub (ws' := [(m0, .inr (6, [.ref w0, .ref w1, .ref w2, .int ik, .ref w3, .int (nI tx), .int he, .int fa, .ref w4, .ref w5, .int (nI cl), .ref w6, .ref w7, .ref w8, .ref w9])), (w0, .inl (E 0, 137, .inl wv))]) [0, 1] rfl) (ci := 6) (q0 := 0) rfl rfl) rfl rfl hl.1 rfl (lv_room (Nat.le_of_ble_eq_true rfl)) dX8_judge_45 ⟨Nat.zero_le _, Nat.zero_le _⟩) (fun r_15 H locs hw_16 hP hS => ?_)
                    subst hw_16
                    refine lv_icmp_ge (tgt := 112) hx hb dX8_judge_48 (by decide) (fun cn_17 => ?_) (fun cn_17 => ?_)
                    · skip
                      have cn_17 : N - 1 ≤ r := (nI_leI (a := N - 1) (b := r) (by omega) (by omega)).mp cn_17
                      have hre : r = N - 1 := by omega
                      refine lv_bipush (v := (-5)) hx hb dX8_judge_112 (by rfl) ?_
                      subst hQ
                      exact W.iret (v := (-5)) hx hb hr (fun tz htz hWz => ⟨⟨(-5), (), rfl, by unfold zo_judge; simp only [decide_true, cond_true, cond_false, Bool.and_true, Bool.and_false, Bool.true_and, Bool.false_and, Bool.or_true, Bool.or_false, Bool.true_or, Bool.false_or, Bool.not_true, Bool.not_false, e1, q1, e2, q2, e3, e5, e4, q5]; rw [hI, hre, Nat.sub_self]; rfl, trivial⟩, hS.F htz⟩) hS.2.2 dX8_judge_114
                    · skip
                      have cn_17 : ¬ (N - 1 ≤ r) := fun hz => cn_17 ((nI_leI (a := N - 1) (b := r) (by omega) (by omega)).mpr hz)
                      have hrN : r < N - 1 := by omega
                      refine lv_iload_n hx hb dX8_judge_51 rfl (lv_at hl 3 rfl) ?_
                      refine lv_if_lt (tgt := 68) hx hb dX8_judge_52 (by decide) (fun cn_18 => ?_) (fun cn_18 => ?_)
                      · skip
                        have cn_18 : z < 0 := (nI_ltI (a := z) (b := 0) (by omega) (by omega)).mp cn_18
                        exfalso; omega
                      · skip
                        have cn_18 : ¬ (z < 0) := fun hz => cn_18 ((nI_ltI (a := z) (b := 0) (by omega) (by omega)).mpr hz)
                        have gy := cn_18
                        refine lv_iload hx hb dX8_judge_55 (lv_at hl 4 rfl) ?_
                        refine lv_aload_n hx hb dX8_judge_57 rfl (lv_at hl 0 rfl) ?_
                        refine va_get (D := D) (ci := 6) (v := .ref w7) (C := RX8) (T := TX8) (N := 15) hx hb hts (by decide +kernel) hown hK.1 hP 0 rfl rfl 12 (by decide) (hts (.fieldLink RX8 33 "HomeRoundsModel" "sizes" "[I") (by decide +kernel)) (fun _ h9 => h9) rfl dX8_judge_58 ?_
                        refine lv_iload_n hx hb dX8_judge_61 rfl (lv_at hl 2 rfl) ?_
                        refine va_iald hx hb hK.1 hP 3 0 rfl rfl (vp_in_nI (by omega) (by omega)) dX8_judge_62 ?_
                        refine zr_ti (y := nI (tn u)) ((congrArg zs (nI_clamp (by omega))).trans (hs2)) ?_
                        refine lv_iload_n hx hb dX8_judge_63 rfl (lv_at hl 3 rfl) ?_
                        refine lv_isub hx hb dX8_judge_64 ?_
                        refine zr_ti (y := nI ((tn u) - z)) (pk_sub (by omega)) ?_
                        refine lv_icmp_lt (tgt := 74) hx hb dX8_judge_65 (by decide) (fun cn_19 => ?_) (fun cn_19 => ?_)
                        · skip
                          have cn_19 : r < (tn u) - z := (nI_ltI (a := r) (b := (tn u) - z) (by omega) (by omega)).mp cn_19
                          have hin : z + r < tn u := by omega
                          refine lv_aload_n hx hb dX8_judge_74 rfl (lv_at hl 0 rfl) ?_
                          refine va_get (D := D) (ci := 6) (v := .ref w8) (C := RX8) (T := TX8) (N := 15) hx hb hts (by decide +kernel) hown hK.1 hP 0 rfl rfl 13 (by decide) (hts (.fieldLink RX8 36 "HomeRoundsModel" "items" "[J") (by decide +kernel)) (fun _ h9 => h9) rfl dX8_judge_75 ?_
                          refine lv_bipush (v := nI 60) hx hb dX8_judge_78 (by rfl) ?_
                          refine lv_iload_n hx hb dX8_judge_80 rfl (lv_at hl 2 rfl) ?_
                          refine lv_imul hx hb dX8_judge_81 ?_
                          refine zr_ti (y := nI (60 * u)) (pk_mul _ _) ?_
                          refine lv_iload_n hx hb dX8_judge_82 rfl (lv_at hl 3 rfl) ?_
                          refine lv_iadd hx hb dX8_judge_83 ?_
                          refine zr_ti (y := nI ((60 * u) + z)) (nI_add _ _) ?_
                          refine lv_iload hx hb dX8_judge_84 (lv_at hl 4 rfl) ?_
                          refine lv_iadd hx hb dX8_judge_86 ?_
                          refine zr_ti (y := nI (((60 * u) + z) + r)) (nI_add _ _) ?_
                          refine va_lald hx hb hK.1 hP 4 3 rfl rfl (vp_in_nI (by omega) (by omega)) dX8_judge_87 ?_
                          refine zr_tl (y := it u (z + r)) ((congrArg iv (nI_clamp (by omega))).trans (by rw [Nat.add_assoc]; exact hit u (z + r) (by omega) (by omega))) ?_
                          refine lv_aload_n hx hb dX8_judge_88 rfl (lv_at hl 0 rfl) ?_
                          refine lv_iload_n hx hb dX8_judge_89 rfl (lv_at hl 1 rfl) ?_
                          refine lv_iload hx hb dX8_judge_90 (lv_at hl 4 rfl) ?_
                          refine zr_cf hP hS (va_runV (As := [.int (nI t), .int (nI r)]) (rest := [.long (it u (z + r))]) ⟨hx, hb, hml, hown, hts⟩ (c_X8_wearOf l D E m0 w0 w1 w2 w3 w4 w5 w6 w7 w8 w9 ik tx he fa cl wv N G P X Y t r (hvg) (hxy) (by omega) (by omega)) (cwV 2 hts gX8_judge_X8_wearOf rfl rfl rfl (by decide +kernel) ⟨Nat.le_of_ble_eq_true rfl, Nat.le_of_ble_eq_true rfl⟩) (zr_V hK (hP.sub (ws' := [(m0, .inr (6, [.ref w0, .ref w1, .ref w2, .int ik, .ref w3, .int (nI tx), .int he, .int fa, .ref w4, .ref w5, .int (nI cl), .ref w6, .ref w7, .ref w8, .ref w9])), (w0, .inl (E 0, 137, .inl wv))]) [0, 1] rfl) (ci := 6) (q0 := 0) rfl rfl) rfl rfl hl.1 rfl (lv_room (Nat.le_of_ble_eq_true rfl)) dX8_judge_92 ⟨Nat.zero_le _, Nat.zero_le _⟩) (fun r_20 H locs hw_21 hP hS => ?_)
                          subst hw_21
                          refine zr_ci hP hS (va_runS (As := [.float (zf_wear (zm_way G P X Y t) (r + 1))]) (rest := [.long (it u (z + r))]) ⟨hx, hb, hml, hown, hts⟩ (c_Jxf58ca_floatToIntBits_5c35a l D E (zf_wear (zm_way G P X Y t) (r + 1)) 120 150 ((zf_wearF (w := zm_way G P X Y t) (r + 1) (by omega) (fun j hj => zm_way_le hok hgr (t := t) (r := j) (by omega) (by omega))).mono (by omega) (by omega))) (va_cwS 1 hts gX8_judge_Jxf58ca_floatToIntBits_5c35a rfl rfl rfl (by decide +kernel) ⟨Nat.le_of_ble_eq_true rfl, Nat.le_of_ble_eq_true rfl⟩) (zr_S hK (hP.sub (ws' := []) [] rfl)) rfl rfl hl.1 rfl (lv_room (Nat.le_of_ble_eq_true rfl)) dX8_judge_95 ⟨Nat.zero_le _, Nat.zero_le _⟩) (fun r_22 H locs hw_23 hP hS => ?_)
                          subst hw_23
                          refine lv_i2l (v := lN ((zf_wear (zm_way G P X Y t) (r + 1)).toNat)) hx hb dX8_judge_98 (nI_l (zf_lt31 (zf_wearF (w := zm_way G P X Y t) (r + 1) (by omega) (fun j hj => zm_way_le hok hgr (t := t) (r := j) (by omega) (by omega))))) ?_
                          refine W.lcmp hx hb dX8_judge_99 ?_
                          refine lv_topi (fun lc_24 elc_24 => ?_)
                          have LC := elc_24
                          refine lv_if_eq (tgt := 106) hx hb dX8_judge_100 (by decide) (fun cn_25 => ?_) (fun cn_25 => ?_)
                          · skip
                            have hbr := (lg_cmp_eq _ _).mp (LC ▸ cn_25)
                            refine lv_iinc (v := nI (r + 1)) (lv' := [(4, .int (nI (r + 1))), (0, .ref m0), (1, .int (nI t)), (2, .int (nI u)), (3, .int (nI z))]) hx hb dX8_judge_106 hl (k := 4) rfl (nI_add _ _) (by decide) rfl (fun ls hl => ?_)
                            refine lv_goto (tgt := 42) hx hb dX8_judge_109 (by decide) ?_
                            have hl : lv_has ls 5 [(0, .ref m0), (1, .int (nI t)), (2, .int (nI u)), (3, .int (nI z)), (4, .int (nI (r + 1)))] := lv_sub hl [1, 2, 3, 4, 0] rfl
                            exact ih42 (r + 1) H locs ls (by omega) (by rw [hI, zm_jd_s (by omega), if_pos hin, if_pos hbr]) (by omega) hP hS hl
                          · skip
                            have hbr := fun hz => cn_25 (LC.trans ((lg_cmp_eq _ _).mpr hz))
                            refine lv_iload hx hb dX8_judge_103 (lv_at hl 4 rfl) ?_
                            subst hQ
                            exact W.iret (v := nI r) hx hb hr (fun tz htz hWz => ⟨⟨nI r, (), rfl, by unfold zo_judge; simp only [decide_true, cond_true, cond_false, Bool.and_true, Bool.and_false, Bool.true_and, Bool.false_and, Bool.or_true, Bool.or_false, Bool.true_or, Bool.false_or, Bool.not_true, Bool.not_false, e1, q1, e2, q2, e3, e5, e4, q5]; rw [hI, zm_jd_s (by omega), if_pos hin, if_neg hbr], trivial⟩, hS.F htz⟩) hS.2.2 dX8_judge_105
                        · skip
                          have cn_19 : ¬ (r < (tn u) - z) := fun hz => cn_19 ((nI_ltI (a := r) (b := (tn u) - z) (by omega) (by omega)).mpr hz)
                          first | (have hout : ¬ z + r < tn u := by omega) | skip
                          refine lv_bipush (v := nI 100) hx hb dX8_judge_68 (by rfl) ?_
                          refine lv_iload hx hb dX8_judge_70 (lv_at hl 4 rfl) ?_
                          refine lv_iadd hx hb dX8_judge_72 ?_
                          refine zr_ti (y := nI (100 + r)) (nI_add _ _) ?_
                          subst hQ
                          exact W.iret (v := nI (100 + r)) hx hb hr (fun tz htz hWz => ⟨⟨nI (100 + r), (), rfl, by unfold zo_judge; simp only [decide_true, cond_true, cond_false, Bool.and_true, Bool.and_false, Bool.true_and, Bool.false_and, Bool.or_true, Bool.or_false, Bool.true_or, Bool.false_or, Bool.not_true, Bool.not_false, e1, q1, e2, q2, e3, e5, e4, q5]; rw [hI, zm_jd_s (by omega), if_neg hout], trivial⟩, hS.F htz⟩) hS.2.2 dX8_judge_73
                · skip
                  refine lv_iconst (v := nI 0) hx hb dX8_judge_39 (by rfl) ?_
                  refine lv_istore (lv' := [(4, .int (nI 0)), (0, .ref m0), (1, .int (nI t)), (2, .int (nI u)), (3, .int y)]) hx hb dX8_judge_40 hl (by decide) rfl (fun ls hl => ?_)
                  suffices KL42 : ∀ (kz : Nat) (r : Nat) (H : Heap) (locs : List Loc) (ls : Array Slot), (N - r) < kz → (r = 0) → va_P D vwCl [(m0, .inr (6, [.ref w0, .ref w1, .ref w2, .int ik, .ref w3, .int (nI tx), .int he, .int fa, .ref w4, .ref w5, .int (nI cl), .ref w6, .ref w7, .ref w8, .ref w9])), (w0, .inl (E 0, 137, .inl wv)), (w6, .inl (E 0, 6, .inl sv)), (w7, .inl (E 0, 6, .inl zs)), (w8, .inl (E 3, 360, .inr (.inl iv))), (w9, .inl (E 3, 60, .inr (.inl mv)))] H → va_S (fun _ : Nat => False) s.heap H locs → lv_has ls 5 [(0, .ref m0), (1, .int (nI t)), (2, .int (nI u)), (3, .int y), (4, .int (nI r))] → W p l e (headSpec wsX8_judge ({ frames := 5, cells := 0, slots := 0, locals := 114 })).room s m ([.ref m0, .int v, .int w, .int y] : List Value).toArray below meth c H locs 0 0 Q (F0 m 42 ls []) from
                    KL42 _ 0 _ _ ls (Nat.lt_succ_self _) (rfl) hP hS (lv_sub hl [1, 2, 3, 4, 0] rfl)
                  clear hP hS hl
                  intro kz
                  induction kz with
                  | zero => intro r H locs ls hkz; exact absurd hkz (Nat.not_lt_zero _)
                  | succ kz ih42 =>
                    intro r H locs ls hkz hr0 hP hS hl
                    refine lv_iload hx hb dX8_judge_42 (lv_at hl 4 rfl) ?_
                    refine lv_aload_n hx hb dX8_judge_44 rfl (lv_at hl 0 rfl) ?_
                    refine zr_ci hP hS (va_runV (As := []) (rest := [.int (nI r)]) ⟨hx, hb, hml, hown, hts⟩ (c_X8_rounds l D E m0 w0 w1 w2 w3 w4 w5 w6 w7 w8 w9 ik tx he fa cl wv N (hvn) (hN)) (cwV 0 hts gX8_judge_X8_rounds rfl rfl rfl (by decide +kernel) ⟨Nat.le_of_ble_eq_true rfl, Nat.le_of_ble_eq_true rfl⟩) (zr_V hK (hP.sub (ws' := [(m0, .inr (6, [.ref w0, .ref w1, .ref w2, .int ik, .ref w3, .int (nI tx), .int he, .int fa, .ref w4, .ref w5, .int (nI cl), .ref w6, .ref w7, .ref w8, .ref w9])), (w0, .inl (E 0, 137, .inl wv))]) [0, 1] rfl) (ci := 6) (q0 := 0) rfl rfl) rfl rfl hl.1 rfl (lv_room (Nat.le_of_ble_eq_true rfl)) dX8_judge_45 ⟨Nat.zero_le _, Nat.zero_le _⟩) (fun r_26 H locs hw_27 hP hS => ?_)
                    subst hw_27
                    refine lv_icmp_ge (tgt := 112) hx hb dX8_judge_48 (by decide) (fun cn_28 => ?_) (fun cn_28 => ?_)
                    · skip
                      have cn_28 : N - 1 ≤ r := (nI_leI (a := N - 1) (b := r) (by omega) (by omega)).mp cn_28
                      have hre : r = N - 1 := by omega
                      refine lv_bipush (v := (-5)) hx hb dX8_judge_112 (by rfl) ?_
                      subst hQ
                      exact W.iret (v := (-5)) hx hb hr (fun tz htz hWz => ⟨⟨(-5), (), rfl, by exfalso; omega, trivial⟩, hS.F htz⟩) hS.2.2 dX8_judge_114
                    · skip
                      have cn_28 : ¬ (N - 1 ≤ r) := fun hz => cn_28 ((nI_leI (a := N - 1) (b := r) (by omega) (by omega)).mpr hz)
                      have hrN : r < N - 1 := by omega
                      refine lv_iload_n hx hb dX8_judge_51 rfl (lv_at hl 3 rfl) ?_
                      refine lv_if_lt (tgt := 68) hx hb dX8_judge_52 (by decide) (fun cn_29 => ?_) (fun cn_29 => ?_)
                      · skip
                        refine lv_bipush (v := nI 100) hx hb dX8_judge_68 (by rfl) ?_
                        refine lv_iload hx hb dX8_judge_70 (lv_at hl 4 rfl) ?_
                        refine lv_iadd hx hb dX8_judge_72 ?_
                        refine zr_ti (y := nI (100 + r)) (nI_add _ _) ?_
                        subst hQ
                        exact W.iret (v := nI (100 + r)) hx hb hr (fun tz htz hWz => ⟨⟨nI (100 + r), (), rfl, by first | (unfold zo_judge; simp only [decide_true, cond_true, cond_false, Bool.and_true, Bool.and_false, Bool.true_and, Bool.false_and, Bool.or_true, Bool.or_false, Bool.true_or, Bool.false_or, Bool.not_true, Bool.not_false, e1, q1, e2, q2, e3, hr0]; done) | (unfold zo_judge; simp only [decide_true, cond_true, cond_false, Bool.and_true, Bool.and_false, Bool.true_and, Bool.false_and, Bool.or_true, Bool.or_false, Bool.true_or, Bool.false_or, Bool.not_true, Bool.not_false, e1, q1, e2, q2, e3, e5, e4, hr0]; done), trivial⟩, hS.F htz⟩) hS.2.2 dX8_judge_73
                      · skip
                        have gy := cn_29
                        refine lv_iload hx hb dX8_judge_55 (lv_at hl 4 rfl) ?_
                        refine lv_aload_n hx hb dX8_judge_57 rfl (lv_at hl 0 rfl) ?_
                        refine va_get (D := D) (ci := 6) (v := .ref w7) (C := RX8) (T := TX8) (N := 15) hx hb hts (by decide +kernel) hown hK.1 hP 0 rfl rfl 12 (by decide) (hts (.fieldLink RX8 33 "HomeRoundsModel" "sizes" "[I") (by decide +kernel)) (fun _ h9 => h9) rfl dX8_judge_58 ?_
                        refine lv_iload_n hx hb dX8_judge_61 rfl (lv_at hl 2 rfl) ?_
                        refine va_iald hx hb hK.1 hP 3 0 rfl rfl (vp_in_nI (by omega) (by omega)) dX8_judge_62 ?_
                        refine zr_ti (y := nI (tn u)) ((congrArg zs (nI_clamp (by omega))).trans (hs2)) ?_
                        refine lv_iload_n hx hb dX8_judge_63 rfl (lv_at hl 3 rfl) ?_
                        refine lv_isub hx hb dX8_judge_64 ?_
                        refine lv_icmp_lt (tgt := 74) hx hb dX8_judge_65 (by decide) (fun cn_30 => ?_) (fun cn_30 => ?_)
                        · skip
                          exact (zn_jno hn1 e4 gy (by rw [← hr0]; exact cn_30)).elim
                        · skip
                          first | (have hout : ¬ z + r < tn u := by omega) | skip
                          refine lv_bipush (v := nI 100) hx hb dX8_judge_68 (by rfl) ?_
                          refine lv_iload hx hb dX8_judge_70 (lv_at hl 4 rfl) ?_
                          refine lv_iadd hx hb dX8_judge_72 ?_
                          refine zr_ti (y := nI (100 + r)) (nI_add _ _) ?_
                          subst hQ
                          exact W.iret (v := nI (100 + r)) hx hb hr (fun tz htz hWz => ⟨⟨nI (100 + r), (), rfl, by first | (unfold zo_judge; simp only [decide_true, cond_true, cond_false, Bool.and_true, Bool.and_false, Bool.true_and, Bool.false_and, Bool.or_true, Bool.or_false, Bool.true_or, Bool.false_or, Bool.not_true, Bool.not_false, e1, q1, e2, q2, e3, hr0]; done) | (unfold zo_judge; simp only [decide_true, cond_true, cond_false, Bool.and_true, Bool.and_false, Bool.true_and, Bool.false_and, Bool.or_true, Bool.or_false, Bool.true_or, Bool.false_or, Bool.not_true, Bool.not_false, e1, q1, e2, q2, e3, e5, e4, hr0]; done), trivial⟩, hS.F htz⟩) hS.2.2 dX8_judge_73
              · skip
                have cn_14 : ¬ (jk = 2) := fun hz => cn_14 ((nI_eq (a := jk) (b := 2) (by omega) (by omega)).mpr hz)
                have e5 : decide (so u = nI 2) = false := decide_eq_false (fun q => cn_14 ((nI_eq (by omega) (by omega)).mp (hsj.symm.trans q)))
                refine lv_bipush (v := (-12)) hx hb dX8_judge_36 (by rfl) ?_
                subst hQ
                exact W.iret (v := (-12)) hx hb hr (fun tz htz hWz => ⟨⟨(-12), (), rfl, by unfold zo_judge; simp only [decide_true, cond_true, cond_false, Bool.and_true, Bool.and_false, Bool.true_and, Bool.false_and, Bool.or_true, Bool.or_false, Bool.true_or, Bool.false_or, Bool.not_true, Bool.not_false, e1, q1, e2, q2, e3, e5, q2], trivial⟩, hS.F htz⟩) hS.2.2 dX8_judge_38
        · skip
          exact absurd cn_6 (by decide)
      · skip
        have e2 : zi 6 w = false := zi_f hw_5
        refine zr_ti (y := nI 0) rfl ?_
        refine lv_if_ne (tgt := 17) hx hb dX8_judge_12 (by decide) (fun cn_31 => ?_) (fun cn_31 => ?_)
        · skip
          exact absurd cn_31 (by decide)
        · skip
          refine lv_iconst (v := (-1)) hx hb dX8_judge_15 (by rfl) ?_
          subst hQ
          exact W.iret (v := (-1)) hx hb hr (fun tz htz hWz => ⟨⟨(-1), (), rfl, by first | (unfold zo_judge; simp only [decide_true, cond_true, cond_false, Bool.and_true, Bool.and_false, Bool.true_and, Bool.false_and, Bool.or_true, Bool.or_false, Bool.true_or, Bool.false_or, Bool.not_true, Bool.not_false, e1]; done) | (unfold zo_judge; simp only [decide_true, cond_true, cond_false, Bool.and_true, Bool.and_false, Bool.true_and, Bool.false_and, Bool.or_true, Bool.or_false, Bool.true_or, Bool.false_or, Bool.not_true, Bool.not_false, e1, e2]; done), trivial⟩, hS.F htz⟩) hS.2.2 dX8_judge_16
  · skip
    have e1 : zi N v = false := zi_f hw_2
    refine zr_ti (y := nI 0) rfl ?_
    refine lv_if_eq (tgt := 15) hx hb dX8_judge_5 (by decide) (fun cn_32 => ?_) (fun cn_32 => ?_)
    · skip
      refine lv_iconst (v := (-1)) hx hb dX8_judge_15 (by rfl) ?_
      subst hQ
      exact W.iret (v := (-1)) hx hb hr (fun tz htz hWz => ⟨⟨(-1), (), rfl, by first | (unfold zo_judge; simp only [decide_true, cond_true, cond_false, Bool.and_true, Bool.and_false, Bool.true_and, Bool.false_and, Bool.or_true, Bool.or_false, Bool.true_or, Bool.false_or, Bool.not_true, Bool.not_false, e1]; done) | (unfold zo_judge; simp only [decide_true, cond_true, cond_false, Bool.and_true, Bool.and_false, Bool.true_and, Bool.false_and, Bool.or_true, Bool.or_false, Bool.true_or, Bool.false_or, Bool.not_true, Bool.not_false, e1, e2]; done), trivial⟩, hS.F htz⟩) hS.2.2 dX8_judge_16
    · skip
      exact absurd cn_32 (by decide)

