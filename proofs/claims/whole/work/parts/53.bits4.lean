set_option maxHeartbeats 4000000 in
set_option maxRecDepth 100000 in
theorem c_Jxf58ca_isNaN_12338 (l : Launch) (D : va_G) (E : Nat → ClassId) (v : UInt32) (lo : Nat) (hi : Nat) (hv : zf_F lo hi v) : Met l yJxf58ca_isNaN_12338 wsJxf58ca_isNaN_12338 ({ frames := 0, cells := 0, slots := 0, locals := 0 }) (zr_P D E [.float v] []) (zr_Qi (fun zv => zv = nI 0)) 0 0 (fun _ => False) := by
  refine va_MetF (cc := cJxf58ca_isNaN_12338) (maxL := 1) (ret := (some .boolean)) (by decide +kernel) rfl ?_
  intro p e s m args below meth c s₁ Bz hml hv
  obtain ⟨rfl, hP, hK⟩ := hv
  have hx := Bz.exec
  have hb := Bz.bytes
  have hr := Bz.returns
  have hts := atoms_spec (ws := wsJxf58ca_isNaN_12338) Bz.pre
  have hown : s.vm.findClass RJxf58ca = some m.cls := findClass_of_methodNamed Bz.named
  have hlocks := Bz.notSynchronized
  have hP : va_P D vwCl [] s.heap := hP
  have hS : va_S (fun _ : Nat => False) s.heap s.heap [] := va_S.rf
  have hl := lv_entry ([.float v]) (n := 1) (Nat.le_of_ble_eq_true rfl)
  rw [lg_entry_eq]
  generalize (lg_sl ([.float v]) ++ List.replicate (1 - (lg_sl ([.float v])).length) Slot.unset).toArray = ls at hl ⊢
  have hl : lv_has ls 1 [(0, .float v)] := hl
  refine zr_nQ (fun Q hQ => ?_)
  refine lv_fload_n hx hb dJxf58ca_isNaN_12338_0 rfl (lv_at hl 0 rfl) ?_
  refine lv_fload_n hx hb dJxf58ca_isNaN_12338_1 rfl (lv_at hl 0 rfl) ?_
  refine lv_fcmp hx hb dJxf58ca_isNaN_12338_2 ?_
  refine zr_ti (y := nI 0) (zf_fself hv) ?_
  refine lv_if_eq (tgt := 10) hx hb dJxf58ca_isNaN_12338_3 (by decide) (fun cn_1 => ?_) (fun cn_1 => ?_)
  · skip
    refine lv_iconst (v := nI 0) hx hb dJxf58ca_isNaN_12338_10 (by rfl) ?_
    subst hQ
    exact W.zret (v := nI 0) hx hb hr (by decide) (fun tz htz hWz => ⟨⟨nI 0, (), rfl, rfl, trivial⟩, hS.F htz⟩) hS.2.2 dJxf58ca_isNaN_12338_11
  · skip
    exact absurd cn_1 (by decide)

set_option maxHeartbeats 4000000 in
set_option maxRecDepth 100000 in
theorem c_Jxe99ae_isNaN_b9ae7 (l : Launch) (D : va_G) (E : Nat → ClassId) (v : UInt64) (lo : Nat) (hi : Nat) (hv : zf_D lo hi v) : Met l yJxe99ae_isNaN_b9ae7 wsJxe99ae_isNaN_b9ae7 ({ frames := 0, cells := 0, slots := 0, locals := 0 }) (zr_P D E [.double v] []) (zr_Qi (fun zv => zv = nI 0)) 0 0 (fun _ => False) := by
  refine va_MetF (cc := cJxe99ae_isNaN_b9ae7) (maxL := 2) (ret := (some .boolean)) (by decide +kernel) rfl ?_
  intro p e s m args below meth c s₁ Bz hml hv
  obtain ⟨rfl, hP, hK⟩ := hv
  have hx := Bz.exec
  have hb := Bz.bytes
  have hr := Bz.returns
  have hts := atoms_spec (ws := wsJxe99ae_isNaN_b9ae7) Bz.pre
  have hown : s.vm.findClass RJxe99ae = some m.cls := findClass_of_methodNamed Bz.named
  have hlocks := Bz.notSynchronized
  have hP : va_P D vwCl [] s.heap := hP
  have hS : va_S (fun _ : Nat => False) s.heap s.heap [] := va_S.rf
  have hl := lv_entry ([.double v]) (n := 2) (Nat.le_of_ble_eq_true rfl)
  rw [lg_entry_eq]
  generalize (lg_sl ([.double v]) ++ List.replicate (2 - (lg_sl ([.double v])).length) Slot.unset).toArray = ls at hl ⊢
  have hl : lv_has ls 2 [(0, .double v)] := hl
  refine zr_nQ (fun Q hQ => ?_)
  refine lv_dload_n hx hb dJxe99ae_isNaN_b9ae7_0 rfl (lv_at hl 0 rfl) ?_
  refine lv_dload_n hx hb dJxe99ae_isNaN_b9ae7_1 rfl (lv_at hl 0 rfl) ?_
  refine lv_dcmp hx hb dJxe99ae_isNaN_b9ae7_2 ?_
  refine zr_ti (y := nI 0) (zf_dself hv) ?_
  refine lv_if_eq (tgt := 10) hx hb dJxe99ae_isNaN_b9ae7_3 (by decide) (fun cn_1 => ?_) (fun cn_1 => ?_)
  · skip
    refine lv_iconst (v := nI 0) hx hb dJxe99ae_isNaN_b9ae7_10 (by rfl) ?_
    subst hQ
    exact W.zret (v := nI 0) hx hb hr (by decide) (fun tz htz hWz => ⟨⟨nI 0, (), rfl, rfl, trivial⟩, hS.F htz⟩) hS.2.2 dJxe99ae_isNaN_b9ae7_11
  · skip
    exact absurd cn_1 (by decide)

set_option maxHeartbeats 4000000 in
set_option maxRecDepth 100000 in
theorem c_Jxf58ca_floatToIntBits_5c35a (l : Launch) (D : va_G) (E : Nat → ClassId) (v : UInt32) (lo : Nat) (hi : Nat) (hv : zf_F lo hi v) : Met l yJxf58ca_floatToIntBits_5c35a wsJxf58ca_floatToIntBits_5c35a ({ frames := 1, cells := 0, slots := 0, locals := 20 }) (zr_P D E [.float v] []) (zr_Qi (fun zv => zv = nI v.toNat)) 0 0 (fun _ => False) := by
  refine va_MetF (cc := cJxf58ca_floatToIntBits_5c35a) (maxL := 1) (ret := (some .int)) (by decide +kernel) rfl ?_
  intro p e s m args below meth c s₁ Bz hml hv
  obtain ⟨rfl, hP, hK⟩ := hv
  have hx := Bz.exec
  have hb := Bz.bytes
  have hr := Bz.returns
  have hts := atoms_spec (ws := wsJxf58ca_floatToIntBits_5c35a) Bz.pre
  have hown : s.vm.findClass RJxf58ca = some m.cls := findClass_of_methodNamed Bz.named
  have hlocks := Bz.notSynchronized
  have hP : va_P D vwCl [] s.heap := hP
  have hS : va_S (fun _ : Nat => False) s.heap s.heap [] := va_S.rf
  have hl := lv_entry ([.float v]) (n := 1) (Nat.le_of_ble_eq_true rfl)
  rw [lg_entry_eq]
  generalize (lg_sl ([.float v]) ++ List.replicate (1 - (lg_sl ([.float v])).length) Slot.unset).toArray = ls at hl ⊢
  have hl : lv_has ls 1 [(0, .float v)] := hl
  refine zr_nQ (fun Q hQ => ?_)
  refine lv_fload_n hx hb dJxf58ca_floatToIntBits_5c35a_0 rfl (lv_at hl 0 rfl) ?_
  refine zr_ci hP hS (va_runS (As := [.float v]) (rest := []) ⟨hx, hb, hml, hown, hts⟩ (c_Jxf58ca_isNaN_12338 l D E v lo hi (by assumption)) (va_cwS 1 hts gJxf58ca_floatToIntBits_5c35a_Jxf58ca_isNaN_12338 rfl rfl rfl (by decide +kernel) ⟨Nat.le_of_ble_eq_true rfl, Nat.le_of_ble_eq_true rfl⟩) (zr_S hK (hP.sub (ws' := []) [] rfl)) rfl rfl hl.1 rfl (lv_room (Nat.le_of_ble_eq_true rfl)) dJxf58ca_floatToIntBits_5c35a_1 ⟨Nat.zero_le _, Nat.zero_le _⟩) (fun r_1 H locs hw_2 hP hS => ?_)
  subst hw_2
  refine lv_if_ne (tgt := 12) hx hb dJxf58ca_floatToIntBits_5c35a_4 (by decide) (fun cn_3 => ?_) (fun cn_3 => ?_)
  · skip
    exact absurd cn_3 (by decide)
  · skip
    refine lv_fload_n hx hb dJxf58ca_floatToIntBits_5c35a_7 rfl (lv_at hl 0 rfl) ?_
    refine vn_f2i hx hb (hml.trans hl.1.symm) hown (hts (.methodLink RJxf58ca 74 ⟨"java/lang/Float", "floatToRawIntBits", "(F)I"⟩) (by decide +kernel)) (hts (.native ⟨"java/lang/Float", "floatToRawIntBits", "(F)I"⟩) (by decide +kernel)) (hts (.static ⟨"java/lang/Float", "floatToRawIntBits", "(F)I"⟩) (by decide +kernel)) (hts (.initialized "java/lang/Float") (by decide +kernel)) (Nat.le_of_ble_eq_true rfl) (Nat.le_of_ble_eq_true rfl) dJxf58ca_floatToIntBits_5c35a_8 ?_
    refine zr_ti (y := nI v.toNat) (zf_u32 _) ?_
    subst hQ
    exact W.iret (v := nI v.toNat) hx hb hr (fun tz htz hWz => ⟨⟨nI v.toNat, (), rfl, rfl, trivial⟩, hS.F htz⟩) hS.2.2 dJxf58ca_floatToIntBits_5c35a_11

set_option maxHeartbeats 4000000 in
set_option maxRecDepth 100000 in
theorem c_Jxe99ae_doubleToLongBits_ccdee (l : Launch) (D : va_G) (E : Nat → ClassId) (v : UInt64) (lo : Nat) (hi : Nat) (hv : zf_D lo hi v) : Met l yJxe99ae_doubleToLongBits_ccdee wsJxe99ae_doubleToLongBits_ccdee ({ frames := 1, cells := 0, slots := 0, locals := 21 }) (zr_P D E [.double v] []) (zr_Ql (fun zv => zv = lN v.toNat)) 0 0 (fun _ => False) := by
  refine va_MetF (cc := cJxe99ae_doubleToLongBits_ccdee) (maxL := 2) (ret := (some .long)) (by decide +kernel) rfl ?_
  intro p e s m args below meth c s₁ Bz hml hv
  obtain ⟨rfl, hP, hK⟩ := hv
  have hx := Bz.exec
  have hb := Bz.bytes
  have hr := Bz.returns
  have hts := atoms_spec (ws := wsJxe99ae_doubleToLongBits_ccdee) Bz.pre
  have hown : s.vm.findClass RJxe99ae = some m.cls := findClass_of_methodNamed Bz.named
  have hlocks := Bz.notSynchronized
  have hP : va_P D vwCl [] s.heap := hP
  have hS : va_S (fun _ : Nat => False) s.heap s.heap [] := va_S.rf
  have hl := lv_entry ([.double v]) (n := 2) (Nat.le_of_ble_eq_true rfl)
  rw [lg_entry_eq]
  generalize (lg_sl ([.double v]) ++ List.replicate (2 - (lg_sl ([.double v])).length) Slot.unset).toArray = ls at hl ⊢
  have hl : lv_has ls 2 [(0, .double v)] := hl
  refine zr_nQ (fun Q hQ => ?_)
  refine lv_dload_n hx hb dJxe99ae_doubleToLongBits_ccdee_0 rfl (lv_at hl 0 rfl) ?_
  refine zr_ci hP hS (va_runS (As := [.double v]) (rest := []) ⟨hx, hb, hml, hown, hts⟩ (c_Jxe99ae_isNaN_b9ae7 l D E v lo hi (by assumption)) (va_cwS 1 hts gJxe99ae_doubleToLongBits_ccdee_Jxe99ae_isNaN_b9ae7 rfl rfl rfl (by decide +kernel) ⟨Nat.le_of_ble_eq_true rfl, Nat.le_of_ble_eq_true rfl⟩) (zr_S hK (hP.sub (ws' := []) [] rfl)) rfl rfl hl.1 rfl (lv_room (Nat.le_of_ble_eq_true rfl)) dJxe99ae_doubleToLongBits_ccdee_1 ⟨Nat.zero_le _, Nat.zero_le _⟩) (fun r_1 H locs hw_2 hP hS => ?_)
  subst hw_2
  refine lv_if_ne (tgt := 12) hx hb dJxe99ae_doubleToLongBits_ccdee_4 (by decide) (fun cn_3 => ?_) (fun cn_3 => ?_)
  · skip
    exact absurd cn_3 (by decide)
  · skip
    refine lv_dload_n hx hb dJxe99ae_doubleToLongBits_ccdee_7 rfl (lv_at hl 0 rfl) ?_
    refine vn_d2l hx hb (hml.trans hl.1.symm) hown (hts (.methodLink RJxe99ae 134 ⟨"java/lang/Double", "doubleToRawLongBits", "(D)J"⟩) (by decide +kernel)) (hts (.native ⟨"java/lang/Double", "doubleToRawLongBits", "(D)J"⟩) (by decide +kernel)) (hts (.static ⟨"java/lang/Double", "doubleToRawLongBits", "(D)J"⟩) (by decide +kernel)) (hts (.initialized "java/lang/Double") (by decide +kernel)) (Nat.le_of_ble_eq_true rfl) (Nat.le_of_ble_eq_true rfl) dJxe99ae_doubleToLongBits_ccdee_8 ?_
    refine zr_tl (y := lN (v.toNat)) (zf_u64 _) ?_
    subst hQ
    exact W.lret (v := lN (v.toNat)) hx hb hr (fun tz htz hWz => ⟨⟨lN (v.toNat), (), rfl, rfl, trivial⟩, hS.F htz⟩) hS.2.2 dJxe99ae_doubleToLongBits_ccdee_11

set_option maxHeartbeats 4000000 in
set_option maxRecDepth 100000 in
theorem c_X7_bitsOf (l : Launch) (D : va_G) (E : Nat → ClassId) (v : UInt64) (bias : Nat) (D0 : Nat) (R : Nat) (hD0 : D0 ≤ 52) (hbi : bias ≤ 1023) (hv : zf_bits bias D0 v R) : Met l yX7_bitsOf wsX7_bitsOf ({ frames := 0, cells := 0, slots := 0, locals := 0 }) (zr_P D E [.double v, .int (nI bias), .int (nI D0)] []) (zr_Ql (fun zv => zv = lN R)) 0 0 (fun _ => False) := by
  refine Met.ofW (cc := cX7_bitsOf) (maxL := 9) (ret := (some .long)) (by decide) rfl ?_
  intro p e s m args below meth c s₁ Bz hml hv
  obtain ⟨rfl, hP, hK⟩ := hv
  have hx := Bz.exec
  have hb := Bz.bytes
  have hr := Bz.returns
  have hts := atoms_spec (ws := wsX7_bitsOf) Bz.pre
  have hown : s.vm.findClass RX7 = some m.cls := findClass_of_methodNamed Bz.named
  have hlocks := Bz.notSynchronized
  have hP : va_P D vwCl [] s.heap := hP
  have hS : va_S (fun _ : Nat => False) s.heap s.heap [] := va_S.rf
  have hl := lv_entry ([.double v, .int (nI bias), .int (nI D0)]) (n := 9) (Nat.le_of_ble_eq_true rfl)
  rw [lg_entry_eq]
  generalize (lg_sl ([.double v, .int (nI bias), .int (nI D0)]) ++ List.replicate (9 - (lg_sl ([.double v, .int (nI bias), .int (nI D0)])).length) Slot.unset).toArray = ls at hl ⊢
  have hl : lv_has ls 9 [(0, .double v), (2, .int (nI bias)), (3, .int (nI D0))] := hl
  refine zr_nQ (fun Q hQ => ?_)
  refine lv_dload_n hx hb dX7_bitsOf_0 rfl (lv_at hl 0 rfl) ?_
  refine lv_dconst0 hx hb dX7_bitsOf_1 ?_
  refine lv_dcmp hx hb dX7_bitsOf_2 ?_
  refine lv_if_gt (tgt := 8) hx hb dX7_bitsOf_3 (by decide) (fun cn_1 => ?_) (fun cn_1 => ?_)
  · skip
    obtain ⟨zc, zE, z1, z2, z3, z4, z5, z6, z7⟩ : ∃ c E, FP.Core.b64.tails ≤ c ∧ c < 2 * FP.Core.b64.tails ∧ v.toNat = zf_B FP.Core.b64 c E ∧ 1 ≤ E ∧ E ≤ 2046 ∧ 1023 ≤ bias + E ∧ R = (bias + E - 1023) * 2 ^ D0 + (c - FP.Core.b64.tails) / 2 ^ (52 - D0) := by
      rcases hv with ⟨h9, -⟩ | h9
      · subst h9; exact absurd cn_1 zf_le0
      · exact h9
    refine lv_dload_n hx hb dX7_bitsOf_8 rfl (lv_at hl 0 rfl) ?_
    refine lv_dstore (lv' := [(4, .double v), (0, .double v), (2, .int (nI bias)), (3, .int (nI D0))]) hx hb dX7_bitsOf_9 hl (by decide) rfl (fun ls hl => ?_)
    refine lv_iload_n hx hb dX7_bitsOf_11 rfl (lv_at hl 2 rfl) ?_
    refine lv_i2l (v := lN bias) hx hb dX7_bitsOf_12 (nI_l (by omega)) ?_
    refine lv_lstore (lv' := [(6, .long (lN bias)), (4, .double v), (0, .double v), (2, .int (nI bias)), (3, .int (nI D0))]) hx hb dX7_bitsOf_13 hl (by decide) rfl (fun ls hl => ?_)
    refine lv_iconst (v := nI 0) hx hb dX7_bitsOf_15 (by rfl) ?_
    refine lv_istore (lv' := [(8, .int (nI 0)), (6, .long (lN bias)), (4, .double v), (0, .double v), (2, .int (nI bias)), (3, .int (nI D0))]) hx hb dX7_bitsOf_16 hl (by decide) rfl (fun ls hl => ?_)
    suffices KL18 : ∀ (kz : Nat) (x : UInt64) (E1 : Nat) (ex : Nat) (i : Nat) (H : Heap) (locs : List Loc) (ls : Array Slot), (1100 - i) < kz → (x.toNat = zf_B FP.Core.b64 zc E1) → (ex + E1 = bias + zE) → (i + E1 = zE) → (i = 0 ∨ 1023 ≤ E1) → (1 ≤ E1) → va_P D vwCl [] H → va_S (fun _ : Nat => False) s.heap H locs → lv_has ls 9 [(0, .double v), (2, .int (nI bias)), (3, .int (nI D0)), (4, .double x), (6, .long (lN ex)), (8, .int (nI i))] → W p l e (headSpec wsX7_bitsOf ({ frames := 0, cells := 0, slots := 0, locals := 0 })).room s m ([.double v, .int (nI bias), .int (nI D0)] : List Value).toArray below meth c H locs 0 0 Q (F0 m 18 ls []) from
      KL18 _ v zE bias 0 _ _ ls (Nat.lt_succ_self _) (z3) (rfl) (by omega) (by omega) (z4) hP hS (lv_sub hl [3, 4, 5, 2, 1, 0] rfl)
    clear hP hS hl
    intro kz
    induction kz with
    | zero => intro x E1 ex i H locs ls hkz; exact absurd hkz (Nat.not_lt_zero _)
    | succ kz ih18 =>
      intro x E1 ex i H locs ls hkz y1 y2 y3 y4 y5 hP hS hl
      have yN : zf_N FP.Core.b64 x.toNat E1 := y1 ▸ zf_B_N z1 z2 y5 (by rw [zf_e64]; omega)
      refine lv_iload hx hb dX7_bitsOf_18 (lv_at hl 5 rfl) ?_
      refine lv_sipush (v := nI 1100) hx hb dX7_bitsOf_20 (by rfl) ?_
      refine lv_icmp_ge (tgt := 55) hx hb dX7_bitsOf_23 (by decide) (fun cn_2 => ?_) (fun cn_2 => ?_)
      · skip
        have cn_2 : 1100 ≤ i := (nI_leI (a := 1100) (b := i) (by omega) (by omega)).mp cn_2
        exfalso; omega
      · skip
        have cn_2 : ¬ (1100 ≤ i) := fun hz => cn_2 ((nI_leI (a := 1100) (b := i) (by omega) (by omega)).mpr hz)
        refine lv_dload hx hb dX7_bitsOf_26 (lv_at hl 3 rfl) ?_
        refine lv_ldc2d (v := (4611686018427387904)) hx hb hown (hts (.constantDouble RX7 351 (4611686018427387904)) (by decide +kernel)) dX7_bitsOf_28 ?_
        refine lv_dcmp hx hb dX7_bitsOf_31 ?_
        refine lv_if_lt (tgt := 55) hx hb dX7_bitsOf_32 (by decide) (fun cn_3 => ?_) (fun cn_3 => ?_)
        · skip
          have hge := (zf_ge2 yN).mp cn_3
          refine lv_iconst (v := nI 0) hx hb dX7_bitsOf_55 (by rfl) ?_
          refine lv_istore (lv' := [(8, .int (nI 0)), (0, .double v), (2, .int (nI bias)), (3, .int (nI D0)), (4, .double x), (6, .long (lN ex))]) hx hb dX7_bitsOf_56 hl (by decide) rfl (fun ls hl => ?_)
          suffices KL58 : ∀ (kz : Nat) (x2 : UInt64) (E2 : Nat) (ex2 : Nat) (i2 : Nat) (H : Heap) (locs : List Loc) (ls : Array Slot), (1100 - i2) < kz → (x2.toNat = zf_B FP.Core.b64 zc E2) → (ex2 + E2 = bias + zE) → (E2 ≤ 1023) → (i2 + 1 ≤ E2) → va_P D vwCl [] H → va_S (fun _ : Nat => False) s.heap H locs → lv_has ls 9 [(0, .double v), (2, .int (nI bias)), (3, .int (nI D0)), (4, .double x2), (6, .long (lN ex2)), (8, .int (nI i2))] → W p l e (headSpec wsX7_bitsOf ({ frames := 0, cells := 0, slots := 0, locals := 0 })).room s m ([.double v, .int (nI bias), .int (nI D0)] : List Value).toArray below meth c H locs 0 0 Q (F0 m 58 ls []) from
            KL58 _ x E1 ex 0 _ _ ls (Nat.lt_succ_self _) (y1) (y2) (by omega) (by omega) hP hS (lv_sub hl [1, 2, 3, 4, 5, 0] rfl)
          clear hP hS hl
          intro kz
          induction kz with
          | zero => intro x2 E2 ex2 i2 H locs ls hkz; exact absurd hkz (Nat.not_lt_zero _)
          | succ kz ih58 =>
            intro x2 E2 ex2 i2 H locs ls hkz w1 w2 w3 w4 hP hS hl
            have wN : zf_N FP.Core.b64 x2.toNat E2 := w1 ▸ zf_B_N z1 z2 (by omega) (by rw [zf_e64]; omega)
            refine lv_iload hx hb dX7_bitsOf_58 (lv_at hl 5 rfl) ?_
            refine lv_sipush (v := nI 1100) hx hb dX7_bitsOf_60 (by rfl) ?_
            refine lv_icmp_ge (tgt := 93) hx hb dX7_bitsOf_63 (by decide) (fun cn_4 => ?_) (fun cn_4 => ?_)
            · skip
              have cn_4 : 1100 ≤ i2 := (nI_leI (a := 1100) (b := i2) (by omega) (by omega)).mp cn_4
              exfalso; omega
            · skip
              have cn_4 : ¬ (1100 ≤ i2) := fun hz => cn_4 ((nI_leI (a := 1100) (b := i2) (by omega) (by omega)).mpr hz)
              refine lv_dload hx hb dX7_bitsOf_66 (lv_at hl 3 rfl) ?_
              refine lv_dconst1 hx hb dX7_bitsOf_68 ?_
              refine lv_dcmp hx hb dX7_bitsOf_69 ?_
              refine lv_if_ge (tgt := 93) hx hb dX7_bitsOf_70 (by decide) (fun cn_5 => ?_) (fun cn_5 => ?_)
              · skip
                have hlt : 1023 ≤ E2 := Nat.le_of_not_lt (fun q => (zf_lt1 wN).mpr q cn_5)
                obtain rfl : E2 = 1023 := by omega
                obtain rfl : ex2 = bias + zE - 1023 := by omega
                refine lv_lload hx hb dX7_bitsOf_93 (lv_at hl 4 rfl) ?_
                refine lv_iload_n hx hb dX7_bitsOf_95 rfl (lv_at hl 2 rfl) ?_
                refine lv_lshl (v := lN ((bias + zE - 1023) * 2 ^ D0)) hx hb dX7_bitsOf_96 (wb_shl _ (by omega)) ?_
                refine lv_dload hx hb dX7_bitsOf_97 (lv_at hl 3 rfl) ?_
                refine lv_dconst1 hx hb dX7_bitsOf_99 ?_
                refine lv_dsub hx hb dX7_bitsOf_100 ((zf_tail w1 z1 z2 hD0).1) ?_
                refine lv_lconst (v := lN 1) hx hb dX7_bitsOf_101 (by rfl) ?_
                refine lv_iload_n hx hb dX7_bitsOf_102 rfl (lv_at hl 2 rfl) ?_
                refine lv_lshl (v := lN (2 ^ D0)) hx hb dX7_bitsOf_103 ((wb_shl 1 (by omega)).trans (by rw [Nat.one_mul])) ?_
                refine lv_l2d hx hb dX7_bitsOf_104 ?_
                refine lv_dmul hx hb dX7_bitsOf_105 ((zf_tail w1 z1 z2 hD0).2.1) ?_
                refine lv_d2l hx hb dX7_bitsOf_106 ?_
                refine zr_tl (y := lN ((zc - FP.Core.b64.tails) / 2 ^ (52 - D0))) ((zf_tail w1 z1 z2 hD0).2.2) ?_
                refine lv_ladd hx hb dX7_bitsOf_107 ?_
                refine zr_tl (y := lN ((bias + zE - 1023) * 2 ^ D0 + (zc - FP.Core.b64.tails) / 2 ^ (52 - D0))) (lN_add _ _) ?_
                subst hQ
                exact W.lret (v := lN ((bias + zE - 1023) * 2 ^ D0 + (zc - FP.Core.b64.tails) / 2 ^ (52 - D0))) hx hb hr (fun tz htz hWz => ⟨⟨lN ((bias + zE - 1023) * 2 ^ D0 + (zc - FP.Core.b64.tails) / 2 ^ (52 - D0)), (), rfl, by rw [z7], trivial⟩, hS.F htz⟩) hS.2.2 dX7_bitsOf_108
              · skip
                have hlt := (zf_lt1 wN).mp cn_5
                refine lv_dload hx hb dX7_bitsOf_73 (lv_at hl 3 rfl) ?_
                refine lv_ldc2d (v := (4611686018427387904)) hx hb hown (hts (.constantDouble RX7 351 (4611686018427387904)) (by decide +kernel)) dX7_bitsOf_75 ?_
                refine lv_dmul hx hb dX7_bitsOf_78 ((zf_Bnn (zf_double w1 z1 z2 (by omega) (by omega)) z1 z2 (by omega) (by omega)).nn) ?_
                refine lv_dstore (lv' := [(4, .double (FP.dmul x2 (4611686018427387904))), (0, .double v), (2, .int (nI bias)), (3, .int (nI D0)), (6, .long (lN ex2)), (8, .int (nI i2))]) hx hb dX7_bitsOf_79 hl (by decide) rfl (fun ls hl => ?_)
                refine lv_lload hx hb dX7_bitsOf_81 (lv_at hl 4 rfl) ?_
                refine lv_lconst (v := lN 1) hx hb dX7_bitsOf_83 (by rfl) ?_
                refine lv_lsub hx hb dX7_bitsOf_84 ?_
                refine zr_tl (y := lN (ex2 - 1)) (lN_sub (by omega)) ?_
                refine lv_lstore (lv' := [(6, .long (lN (ex2 - 1))), (4, .double (FP.dmul x2 (4611686018427387904))), (0, .double v), (2, .int (nI bias)), (3, .int (nI D0)), (8, .int (nI i2))]) hx hb dX7_bitsOf_85 hl (by decide) rfl (fun ls hl => ?_)
                refine lv_iinc (v := nI (i2 + 1)) (lv' := [(8, .int (nI (i2 + 1))), (6, .long (lN (ex2 - 1))), (4, .double (FP.dmul x2 (4611686018427387904))), (0, .double v), (2, .int (nI bias)), (3, .int (nI D0))]) hx hb dX7_bitsOf_87 hl (k := 5) rfl (nI_add _ _) (by decide) rfl (fun ls hl => ?_)
                refine lv_goto (tgt := 58) hx hb dX7_bitsOf_90 (by decide) ?_
                have hl : lv_has ls 9 [(0, .double v), (2, .int (nI bias)), (3, .int (nI D0)), (4, .double (FP.dmul x2 4611686018427387904)), (6, .long (lN (ex2 - 1))), (8, .int (nI (i2 + 1)))] := lv_sub hl [3, 4, 5, 2, 1, 0] rfl
                exact ih58 (FP.dmul x2 4611686018427387904) (E2 + 1) (ex2 - 1) (i2 + 1) H locs ls (by omega) (zf_double w1 z1 z2 (by omega) (by omega)) (by omega) (by omega) (by omega) hP hS hl
        · skip
          have hge : 1024 ≤ E1 := Nat.le_of_not_lt (fun q => cn_3 ((zf_ge2 yN).mpr q))
          refine lv_dload hx hb dX7_bitsOf_35 (lv_at hl 3 rfl) ?_
          refine lv_ldc2d (v := (4611686018427387904)) hx hb hown (hts (.constantDouble RX7 351 (4611686018427387904)) (by decide +kernel)) dX7_bitsOf_37 ?_
          refine lv_ddiv hx hb dX7_bitsOf_40 ((zf_Bnn (zf_halve y1 z1 z2 (by omega) (by omega)) z1 z2 (by omega) (by omega)).nn) ?_
          refine lv_dstore (lv' := [(4, .double (FP.ddiv x (4611686018427387904))), (0, .double v), (2, .int (nI bias)), (3, .int (nI D0)), (6, .long (lN ex)), (8, .int (nI i))]) hx hb dX7_bitsOf_41 hl (by decide) rfl (fun ls hl => ?_)
          refine lv_lload hx hb dX7_bitsOf_43 (lv_at hl 4 rfl) ?_
          refine lv_lconst (v := lN 1) hx hb dX7_bitsOf_45 (by rfl) ?_
          refine lv_ladd hx hb dX7_bitsOf_46 ?_
          refine zr_tl (y := lN (ex + 1)) (lN_add _ _) ?_
          refine lv_lstore (lv' := [(6, .long (lN (ex + 1))), (4, .double (FP.ddiv x (4611686018427387904))), (0, .double v), (2, .int (nI bias)), (3, .int (nI D0)), (8, .int (nI i))]) hx hb dX7_bitsOf_47 hl (by decide) rfl (fun ls hl => ?_)
          refine lv_iinc (v := nI (i + 1)) (lv' := [(8, .int (nI (i + 1))), (6, .long (lN (ex + 1))), (4, .double (FP.ddiv x (4611686018427387904))), (0, .double v), (2, .int (nI bias)), (3, .int (nI D0))]) hx hb dX7_bitsOf_49 hl (k := 5) rfl (nI_add _ _) (by decide) rfl (fun ls hl => ?_)
          refine lv_goto (tgt := 18) hx hb dX7_bitsOf_52 (by decide) ?_
          have hl : lv_has ls 9 [(0, .double v), (2, .int (nI bias)), (3, .int (nI D0)), (4, .double (FP.ddiv x 4611686018427387904)), (6, .long (lN (ex + 1))), (8, .int (nI (i + 1)))] := lv_sub hl [3, 4, 5, 2, 1, 0] rfl
          exact ih18 (FP.ddiv x 4611686018427387904) (E1 - 1) (ex + 1) (i + 1) H locs ls (by omega) (zf_halve y1 z1 z2 (by omega) (by omega)) (by omega) (by omega) (by omega) (by omega) hP hS hl
  · skip
    have hR : R = 0 := by
      rcases hv with ⟨-, h9⟩ | ⟨zc, zE, z1, z2, z3, z4, z5, -, -⟩
      · exact h9
      · exact absurd (zf_gt0 (E := zE) (z3 ▸ zf_B_N z1 z2 z4 (by rw [zf_e64]; omega))) cn_1
    refine lv_lconst (v := lN 0) hx hb dX7_bitsOf_6 (by rfl) ?_
    subst hQ
    exact W.lret (v := lN 0) hx hb hr (fun tz htz hWz => ⟨⟨lN 0, (), rfl, by rw [hR], trivial⟩, hS.F htz⟩) hS.2.2 dX7_bitsOf_7

set_option maxHeartbeats 4000000 in
set_option maxRecDepth 100000 in
theorem c_X7_bitsOfFloat (l : Launch) (D : va_G) (E : Nat → ClassId) (v : UInt32) (lo : Nat) (hi : Nat) (hv : zf_F lo hi v) : Met l yX7_bitsOfFloat wsX7_bitsOfFloat ({ frames := 1, cells := 0, slots := 0, locals := 28 }) (zr_P D E [.float v] []) (zr_Ql (fun zv => zv = lN v.toNat)) 0 0 (fun _ => False) := by
  refine Met.ofW (cc := cX7_bitsOfFloat) (maxL := 1) (ret := (some .long)) (by decide) rfl ?_
  intro p e s m args below meth c s₁ Bz hml hv
  obtain ⟨rfl, hP, hK⟩ := hv
  have hx := Bz.exec
  have hb := Bz.bytes
  have hr := Bz.returns
  have hts := atoms_spec (ws := wsX7_bitsOfFloat) Bz.pre
  have hown : s.vm.findClass RX7 = some m.cls := findClass_of_methodNamed Bz.named
  have hlocks := Bz.notSynchronized
  have hP : va_P D vwCl [] s.heap := hP
  have hS : va_S (fun _ : Nat => False) s.heap s.heap [] := va_S.rf
  have hl := lv_entry ([.float v]) (n := 1) (Nat.le_of_ble_eq_true rfl)
  rw [lg_entry_eq]
  generalize (lg_sl ([.float v]) ++ List.replicate (1 - (lg_sl ([.float v])).length) Slot.unset).toArray = ls at hl ⊢
  have hl : lv_has ls 1 [(0, .float v)] := hl
  refine zr_nQ (fun Q hQ => ?_)
  refine lv_fload_n hx hb dX7_bitsOfFloat_0 rfl (lv_at hl 0 rfl) ?_
  refine lv_f2d hx hb dX7_bitsOfFloat_1 ((zf_f2dD hv).nn) ?_
  refine lv_bipush (v := nI 127) hx hb dX7_bitsOfFloat_2 (by rfl) ?_
  refine lv_bipush (v := nI 23) hx hb dX7_bitsOfFloat_4 (by rfl) ?_
  refine zr_cl hP hS (va_runS (As := [.double (FP.f2d v), .int (nI 127), .int (nI 23)]) (rest := []) ⟨hx, hb, hml, hown, hts⟩ (c_X7_bitsOf l D E (FP.f2d v) 127 23 v.toNat (by omega) (by omega) (zf_bitsF hv)) (va_cwS 3 hts gX7_bitsOfFloat_X7_bitsOf rfl rfl rfl (by decide +kernel) ⟨Nat.le_of_ble_eq_true rfl, Nat.le_of_ble_eq_true rfl⟩) (zr_S hK (hP.sub (ws' := []) [] rfl)) rfl rfl hl.1 rfl (lv_room (Nat.le_of_ble_eq_true rfl)) dX7_bitsOfFloat_6 ⟨Nat.zero_le _, Nat.zero_le _⟩) (fun r_1 H locs hw_2 hP hS => ?_)
  subst hw_2
  subst hQ
  exact W.lret (v := lN v.toNat) hx hb hr (fun tz htz hWz => ⟨⟨lN v.toNat, (), rfl, rfl, trivial⟩, hS.F htz⟩) hS.2.2 dX7_bitsOfFloat_9

set_option maxHeartbeats 4000000 in
set_option maxRecDepth 100000 in
theorem c_X7_bitsOfDouble (l : Launch) (D : va_G) (E : Nat → ClassId) (v : UInt64) (lo : Nat) (hi : Nat) (hv : zf_D lo hi v) : Met l yX7_bitsOfDouble wsX7_bitsOfDouble ({ frames := 1, cells := 0, slots := 0, locals := 28 }) (zr_P D E [.double v] []) (zr_Ql (fun zv => zv = lN v.toNat)) 0 0 (fun _ => False) := by
  refine Met.ofW (cc := cX7_bitsOfDouble) (maxL := 2) (ret := (some .long)) (by decide) rfl ?_
  intro p e s m args below meth c s₁ Bz hml hv
  obtain ⟨rfl, hP, hK⟩ := hv
  have hx := Bz.exec
  have hb := Bz.bytes
  have hr := Bz.returns
  have hts := atoms_spec (ws := wsX7_bitsOfDouble) Bz.pre
  have hown : s.vm.findClass RX7 = some m.cls := findClass_of_methodNamed Bz.named
  have hlocks := Bz.notSynchronized
  have hP : va_P D vwCl [] s.heap := hP
  have hS : va_S (fun _ : Nat => False) s.heap s.heap [] := va_S.rf
  have hl := lv_entry ([.double v]) (n := 2) (Nat.le_of_ble_eq_true rfl)
  rw [lg_entry_eq]
  generalize (lg_sl ([.double v]) ++ List.replicate (2 - (lg_sl ([.double v])).length) Slot.unset).toArray = ls at hl ⊢
  have hl : lv_has ls 2 [(0, .double v)] := hl
  refine zr_nQ (fun Q hQ => ?_)
  refine lv_dload_n hx hb dX7_bitsOfDouble_0 rfl (lv_at hl 0 rfl) ?_
  refine lv_sipush (v := nI 1023) hx hb dX7_bitsOfDouble_1 (by rfl) ?_
  refine lv_bipush (v := nI 52) hx hb dX7_bitsOfDouble_4 (by rfl) ?_
  refine zr_cl hP hS (va_runS (As := [.double v, .int (nI 1023), .int (nI 52)]) (rest := []) ⟨hx, hb, hml, hown, hts⟩ (c_X7_bitsOf l D E v 1023 52 v.toNat (by omega) (by omega) (zf_bitsD hv)) (va_cwS 3 hts gX7_bitsOfDouble_X7_bitsOf rfl rfl rfl (by decide +kernel) ⟨Nat.le_of_ble_eq_true rfl, Nat.le_of_ble_eq_true rfl⟩) (zr_S hK (hP.sub (ws' := []) [] rfl)) rfl rfl hl.1 rfl (lv_room (Nat.le_of_ble_eq_true rfl)) dX7_bitsOfDouble_6 ⟨Nat.zero_le _, Nat.zero_le _⟩) (fun r_1 H locs hw_2 hP hS => ?_)
  subst hw_2
  subst hQ
  exact W.lret (v := lN v.toNat) hx hb hr (fun tz htz hWz => ⟨⟨lN v.toNat, (), rfl, rfl, trivial⟩, hS.F htz⟩) hS.2.2 dX7_bitsOfDouble_9

