set_option maxHeartbeats 4000000 in
set_option maxRecDepth 100000 in
theorem c_J0_coder_7d493 (l : Launch) (D : va_G) (E : Nat → ClassId) (adK adV ad : Nat → Nat) (wa sa : Nat) (i : Nat) (hi : i < zc_n) : Met l yJ0_coder_7d493 wsJ0_coder_7d493 ({ frames := 0, cells := 0, slots := 0, locals := 0 }) (zrE_P D E adK adV ad wa sa [.ref (adK i)] []) (zr_Qi (fun zv => zv = 0)) 0 0 (fun _ => False) := by
  refine Met.ofW (cc := cJ0_coder_7d493) (maxL := 1) (ret := (some .byte)) (by decide) rfl ?_
  intro p e s m args below meth c s₁ Bz hml hv
  obtain ⟨rfl, hP, hK, hE, hR⟩ := hv
  have hx := Bz.exec
  have hb := Bz.bytes
  have hr := Bz.returns
  have hts := atoms_spec (ws := wsJ0_coder_7d493) Bz.pre
  have hown : s.vm.findClass RJ0 = some m.cls := findClass_of_methodNamed Bz.named
  have hlocks := Bz.notSynchronized
  have hP : va_P D vwCl [] s.heap := hP
  have hS : va_S (fun _ : Nat => False) s.heap s.heap [] := va_S.rf
  have hl := lv_entry ([.ref (adK i)]) (n := 1) (Nat.le_of_ble_eq_true rfl)
  rw [lg_entry_eq]
  generalize (lg_sl ([.ref (adK i)]) ++ List.replicate (1 - (lg_sl ([.ref (adK i)])).length) Slot.unset).toArray = ls at hl ⊢
  have hl : lv_has ls 1 [(0, .ref (adK i))] := hl
  refine zr_nQ (fun Q hQ => ?_)
  refine va_gets (v := .int 1) hx hb hE.1 hS hown (hts (.fieldLink RJ0 38 "java/lang/String" "COMPACT_STRINGS" "Z") (by decide +kernel)) (fun _ h9 => h9) dJ0_coder_7d493_0 ?_
  refine lv_if_eq (tgt := 13) hx hb dJ0_coder_7d493_3 (by decide) (fun cn_1 => ?_) (fun cn_1 => ?_)
  · skip
    exact absurd cn_1 (by decide)
  · skip
    refine lv_aload_n hx hb dJ0_coder_7d493_6 rfl (lv_at hl 0 rfl) ?_
    refine vk_getf (v := .int 0) hx hb ((hE.2.2.2.2.2.2.2.1 i (hi)).2.1) hS hown (hts (.fieldLink RJ0 15 "java/lang/String" "coder" "B") (by decide +kernel)) (fun _ h9 => h9) dJ0_coder_7d493_7 ?_
    refine lv_goto (tgt := 14) hx hb dJ0_coder_7d493_10 (by decide) ?_
    subst hQ
    exact W.zret (v := 0) hx hb hr (by decide) (fun tz htz hWz => ⟨⟨0, (), rfl, rfl, trivial⟩, hS.F htz⟩) hS.2.2 dJ0_coder_7d493_14

set_option maxHeartbeats 4000000 in
set_option maxRecDepth 100000 in
theorem c_J0_isLatin1_aae02 (l : Launch) (D : va_G) (E : Nat → ClassId) (adK adV ad : Nat → Nat) (wa sa : Nat) (i : Nat) (hi : i < zc_n) : Met l yJ0_isLatin1_aae02 wsJ0_isLatin1_aae02 ({ frames := 0, cells := 0, slots := 0, locals := 0 }) (zrE_P D E adK adV ad wa sa [.ref (adK i)] []) (zr_Qi (fun zv => zv = nI 1)) 0 0 (fun _ => False) := by
  refine Met.ofW (cc := cJ0_isLatin1_aae02) (maxL := 1) (ret := (some .boolean)) (by decide) rfl ?_
  intro p e s m args below meth c s₁ Bz hml hv
  obtain ⟨rfl, hP, hK, hE, hR⟩ := hv
  have hx := Bz.exec
  have hb := Bz.bytes
  have hr := Bz.returns
  have hts := atoms_spec (ws := wsJ0_isLatin1_aae02) Bz.pre
  have hown : s.vm.findClass RJ0 = some m.cls := findClass_of_methodNamed Bz.named
  have hlocks := Bz.notSynchronized
  have hP : va_P D vwCl [] s.heap := hP
  have hS : va_S (fun _ : Nat => False) s.heap s.heap [] := va_S.rf
  have hl := lv_entry ([.ref (adK i)]) (n := 1) (Nat.le_of_ble_eq_true rfl)
  rw [lg_entry_eq]
  generalize (lg_sl ([.ref (adK i)]) ++ List.replicate (1 - (lg_sl ([.ref (adK i)])).length) Slot.unset).toArray = ls at hl ⊢
  have hl : lv_has ls 1 [(0, .ref (adK i))] := hl
  refine zr_nQ (fun Q hQ => ?_)
  refine va_gets (v := .int 1) hx hb hE.1 hS hown (hts (.fieldLink RJ0 38 "java/lang/String" "COMPACT_STRINGS" "Z") (by decide +kernel)) (fun _ h9 => h9) dJ0_isLatin1_aae02_0 ?_
  refine lv_if_eq (tgt := 17) hx hb dJ0_isLatin1_aae02_3 (by decide) (fun cn_1 => ?_) (fun cn_1 => ?_)
  · skip
    exact absurd cn_1 (by decide)
  · skip
    refine lv_aload_n hx hb dJ0_isLatin1_aae02_6 rfl (lv_at hl 0 rfl) ?_
    refine vk_getf (v := .int 0) hx hb ((hE.2.2.2.2.2.2.2.1 i (hi)).2.1) hS hown (hts (.fieldLink RJ0 15 "java/lang/String" "coder" "B") (by decide +kernel)) (fun _ h9 => h9) dJ0_isLatin1_aae02_7 ?_
    refine lv_if_ne (tgt := 17) hx hb dJ0_isLatin1_aae02_10 (by decide) (fun cn_2 => ?_) (fun cn_2 => ?_)
    · skip
      exact absurd cn_2 (by decide)
    · skip
      refine lv_iconst (v := nI 1) hx hb dJ0_isLatin1_aae02_13 (by rfl) ?_
      refine lv_goto (tgt := 18) hx hb dJ0_isLatin1_aae02_14 (by decide) ?_
      subst hQ
      exact W.zret (v := nI 1) hx hb hr (by decide) (fun tz htz hWz => ⟨⟨nI 1, (), rfl, rfl, trivial⟩, hS.F htz⟩) hS.2.2 dJ0_isLatin1_aae02_18

set_option maxHeartbeats 4000000 in
set_option maxRecDepth 100000 in
theorem c_J0_length_8abf5 (l : Launch) (D : va_G) (E : Nat → ClassId) (adK adV ad : Nat → Nat) (wa sa : Nat) (i : Nat) (hi : i < zc_n) : Met l yJ0_length_8abf5 wsJ0_length_8abf5 ({ frames := 1, cells := 0, slots := 0, locals := 20 }) (zrE_P D E adK adV ad wa sa [.ref (adK i)] []) (zr_Qi (fun zv => zv = nI (zc_len.getD i 0))) 0 0 (fun _ => False) := by
  refine Met.ofW (cc := cJ0_length_8abf5) (maxL := 1) (ret := (some .int)) (by decide) rfl ?_
  intro p e s m args below meth c s₁ Bz hml hv
  obtain ⟨rfl, hP, hK, hE, hR⟩ := hv
  have hx := Bz.exec
  have hb := Bz.bytes
  have hr := Bz.returns
  have hts := atoms_spec (ws := wsJ0_length_8abf5) Bz.pre
  have hown : s.vm.findClass RJ0 = some m.cls := findClass_of_methodNamed Bz.named
  have hlocks := Bz.notSynchronized
  have hP : va_P D vwCl [] s.heap := hP
  have hS : va_S (fun _ : Nat => False) s.heap s.heap [] := va_S.rf
  have hl := lv_entry ([.ref (adK i)]) (n := 1) (Nat.le_of_ble_eq_true rfl)
  rw [lg_entry_eq]
  generalize (lg_sl ([.ref (adK i)]) ++ List.replicate (1 - (lg_sl ([.ref (adK i)])).length) Slot.unset).toArray = ls at hl ⊢
  have hl : lv_has ls 1 [(0, .ref (adK i))] := hl
  refine zr_nQ (fun Q hQ => ?_)
  have hln := zc_lnS i hi
  refine lv_aload_n hx hb dJ0_length_8abf5_0 rfl (lv_at hl 0 rfl) ?_
  refine vk_getf (v := .ref (adV i)) hx hb ((hE.2.2.2.2.2.2.2.1 i (hi)).2.2.1) hS hown (hts (.fieldLink RJ0 9 "java/lang/String" "value" "[B") (by decide +kernel)) (fun _ h9 => h9) dJ0_length_8abf5_1 ?_
  refine va_tlen (v := nI (zc_len.getD i 0)) hx hb ((hE.2.2.2.2.2.2.2.1 i (hi)).2.2.2) hS rfl dJ0_length_8abf5_4 ?_
  refine lv_aload_n hx hb dJ0_length_8abf5_5 rfl (lv_at hl 0 rfl) ?_
  refine zr_ci hP hS (va_runV (As := []) (rest := [.int (nI (zc_len.getD i 0))]) ⟨hx, hb, hml, hown, hts⟩ (c_J0_coder_7d493 l D E adK adV ad wa sa i (hi)) (cwV 0 hts gJ0_length_8abf5_J0_coder_7d493 rfl rfl rfl (by decide +kernel) ⟨Nat.le_of_ble_eq_true rfl, Nat.le_of_ble_eq_true rfl⟩) (zrE_VK (i := i) (hi) hE hR hS hK (hP.sub (ws' := []) [] rfl)) rfl rfl hl.1 rfl (lv_room (Nat.le_of_ble_eq_true rfl)) dJ0_length_8abf5_6 ⟨Nat.zero_le _, Nat.zero_le _⟩) (fun r_1 H locs hw_2 hP hS => ?_)
  subst hw_2
  refine lv_ishr hx hb dJ0_length_8abf5_9 ?_
  refine zr_ti (y := nI (zc_len.getD i 0)) (zc_shr0 (by omega)) ?_
  subst hQ
  exact W.iret (v := nI (zc_len.getD i 0)) hx hb hr (fun tz htz hWz => ⟨⟨nI (zc_len.getD i 0), (), rfl, rfl, trivial⟩, hS.F htz⟩) hS.2.2 dJ0_length_8abf5_10

set_option maxHeartbeats 4000000 in
set_option maxRecDepth 100000 in
theorem c_J3_checkIndex_8e157_n (l : Launch) (D : va_G) (E : Nat → ClassId) (a : Nat) (b : Nat) (hab : a < b) (hb3 : b < 1000) : Met l yJ3_checkIndex_8e157 wsJ3_checkIndex_8e157 ({ frames := 1, cells := 0, slots := 0, locals := 21 }) (zr_P D E [.int (nI a), .int (nI b), .null] []) (zr_Qi (fun zv => zv = nI a)) 0 0 (fun _ => False) := by
  refine Met.ofW (cc := cJ3_checkIndex_8e157) (maxL := 3) (ret := (some .int)) (by decide) rfl ?_
  intro p e s m args below meth c s₁ Bz hml hv
  obtain ⟨rfl, hP, hK⟩ := hv
  have hx := Bz.exec
  have hb := Bz.bytes
  have hr := Bz.returns
  have hts := atoms_spec (ws := wsJ3_checkIndex_8e157) Bz.pre
  have hown : s.vm.findClass RJ3 = some m.cls := findClass_of_methodNamed Bz.named
  have hlocks := Bz.notSynchronized
  have hP : va_P D vwCl [] s.heap := hP
  have hS : va_S (fun _ : Nat => False) s.heap s.heap [] := va_S.rf
  have hl := lv_entry ([.int (nI a), .int (nI b), .null]) (n := 3) (Nat.le_of_ble_eq_true rfl)
  rw [lg_entry_eq]
  generalize (lg_sl ([.int (nI a), .int (nI b), .null]) ++ List.replicate (3 - (lg_sl ([.int (nI a), .int (nI b), .null])).length) Slot.unset).toArray = ls at hl ⊢
  have hl : lv_has ls 3 [(0, .int (nI a)), (1, .int (nI b)), (2, .null)] := hl
  refine zr_nQ (fun Q hQ => ?_)
  refine lv_iload_n hx hb dJ3_checkIndex_8e157_0 rfl (lv_at hl 0 rfl) ?_
  refine lv_if_lt (tgt := 9) hx hb dJ3_checkIndex_8e157_1 (by decide) (fun cn_1 => ?_) (fun cn_1 => ?_)
  · skip
    have cn_1 : a < 0 := (nI_ltI (a := a) (b := 0) (by omega) (by omega)).mp cn_1
    exfalso; omega
  · skip
    have cn_1 : ¬ (a < 0) := fun hz => cn_1 ((nI_ltI (a := a) (b := 0) (by omega) (by omega)).mpr hz)
    refine lv_iload_n hx hb dJ3_checkIndex_8e157_4 rfl (lv_at hl 0 rfl) ?_
    refine lv_iload_n hx hb dJ3_checkIndex_8e157_5 rfl (lv_at hl 1 rfl) ?_
    refine lv_icmp_lt (tgt := 16) hx hb dJ3_checkIndex_8e157_6 (by decide) (fun cn_2 => ?_) (fun cn_2 => ?_)
    · skip
      have cn_2 : a < b := (nI_ltI (a := a) (b := b) (by omega) (by omega)).mp cn_2
      refine lv_iload_n hx hb dJ3_checkIndex_8e157_16 rfl (lv_at hl 0 rfl) ?_
      subst hQ
      exact W.iret (v := nI a) hx hb hr (fun tz htz hWz => ⟨⟨nI a, (), rfl, rfl, trivial⟩, hS.F htz⟩) hS.2.2 dJ3_checkIndex_8e157_17
    · skip
      have cn_2 : ¬ (a < b) := fun hz => cn_2 ((nI_ltI (a := a) (b := b) (by omega) (by omega)).mpr hz)
      exfalso; omega

set_option maxHeartbeats 4000000 in
set_option maxRecDepth 100000 in
theorem c_J3_checkIndex_8e157_r (l : Launch) (D : va_G) (E : Nat → ClassId) (a : Nat) (b : Nat) (q9 : Nat) (hab : a < b) (hb3 : b < 1000) : Met l yJ3_checkIndex_8e157 wsJ3_checkIndex_8e157 ({ frames := 1, cells := 0, slots := 0, locals := 21 }) (zr_P D E [.int (nI a), .int (nI b), .ref q9] []) (zr_Qi (fun zv => zv = nI a)) 0 0 (fun _ => False) := by
  refine Met.ofW (cc := cJ3_checkIndex_8e157) (maxL := 3) (ret := (some .int)) (by decide) rfl ?_
  intro p e s m args below meth c s₁ Bz hml hv
  obtain ⟨rfl, hP, hK⟩ := hv
  have hx := Bz.exec
  have hb := Bz.bytes
  have hr := Bz.returns
  have hts := atoms_spec (ws := wsJ3_checkIndex_8e157) Bz.pre
  have hown : s.vm.findClass RJ3 = some m.cls := findClass_of_methodNamed Bz.named
  have hlocks := Bz.notSynchronized
  have hP : va_P D vwCl [] s.heap := hP
  have hS : va_S (fun _ : Nat => False) s.heap s.heap [] := va_S.rf
  have hl := lv_entry ([.int (nI a), .int (nI b), .ref q9]) (n := 3) (Nat.le_of_ble_eq_true rfl)
  rw [lg_entry_eq]
  generalize (lg_sl ([.int (nI a), .int (nI b), .ref q9]) ++ List.replicate (3 - (lg_sl ([.int (nI a), .int (nI b), .ref q9])).length) Slot.unset).toArray = ls at hl ⊢
  have hl : lv_has ls 3 [(0, .int (nI a)), (1, .int (nI b)), (2, .ref q9)] := hl
  refine zr_nQ (fun Q hQ => ?_)
  refine lv_iload_n hx hb dJ3_checkIndex_8e157_0 rfl (lv_at hl 0 rfl) ?_
  refine lv_if_lt (tgt := 9) hx hb dJ3_checkIndex_8e157_1 (by decide) (fun cn_1 => ?_) (fun cn_1 => ?_)
  · skip
    have cn_1 : a < 0 := (nI_ltI (a := a) (b := 0) (by omega) (by omega)).mp cn_1
    exfalso; omega
  · skip
    have cn_1 : ¬ (a < 0) := fun hz => cn_1 ((nI_ltI (a := a) (b := 0) (by omega) (by omega)).mpr hz)
    refine lv_iload_n hx hb dJ3_checkIndex_8e157_4 rfl (lv_at hl 0 rfl) ?_
    refine lv_iload_n hx hb dJ3_checkIndex_8e157_5 rfl (lv_at hl 1 rfl) ?_
    refine lv_icmp_lt (tgt := 16) hx hb dJ3_checkIndex_8e157_6 (by decide) (fun cn_2 => ?_) (fun cn_2 => ?_)
    · skip
      have cn_2 : a < b := (nI_ltI (a := a) (b := b) (by omega) (by omega)).mp cn_2
      refine lv_iload_n hx hb dJ3_checkIndex_8e157_16 rfl (lv_at hl 0 rfl) ?_
      subst hQ
      exact W.iret (v := nI a) hx hb hr (fun tz htz hWz => ⟨⟨nI a, (), rfl, rfl, trivial⟩, hS.F htz⟩) hS.2.2 dJ3_checkIndex_8e157_17
    · skip
      have cn_2 : ¬ (a < b) := fun hz => cn_2 ((nI_ltI (a := a) (b := b) (by omega) (by omega)).mpr hz)
      exfalso; omega

set_option maxHeartbeats 4000000 in
set_option maxRecDepth 100000 in
theorem c_J0_checkIndex_df160 (l : Launch) (D : va_G) (E : Nat → ClassId) (adK adV ad : Nat → Nat) (wa sa : Nat) (a : Nat) (b : Nat) (hab : a < b) (hb3 : b < 1000) : Met l yJ0_checkIndex_df160 wsJ0_checkIndex_df160 ({ frames := 2, cells := 0, slots := 0, locals := 43 }) (zrE_P D E adK adV ad wa sa [.int (nI a), .int (nI b)] []) (zr_Qv) 0 0 (fun _ => False) := by
  refine Met.ofW (cc := cJ0_checkIndex_df160) (maxL := 2) (ret := none) (by decide) rfl ?_
  intro p e s m args below meth c s₁ Bz hml hv
  obtain ⟨rfl, hP, hK, hE, hR⟩ := hv
  have hx := Bz.exec
  have hb := Bz.bytes
  have hr := Bz.returns
  have hts := atoms_spec (ws := wsJ0_checkIndex_df160) Bz.pre
  have hown : s.vm.findClass RJ0 = some m.cls := findClass_of_methodNamed Bz.named
  have hlocks := Bz.notSynchronized
  have hP : va_P D vwCl [] s.heap := hP
  have hS : va_S (fun _ : Nat => False) s.heap s.heap [] := va_S.rf
  have hl := lv_entry ([.int (nI a), .int (nI b)]) (n := 2) (Nat.le_of_ble_eq_true rfl)
  rw [lg_entry_eq]
  generalize (lg_sl ([.int (nI a), .int (nI b)]) ++ List.replicate (2 - (lg_sl ([.int (nI a), .int (nI b)])).length) Slot.unset).toArray = ls at hl ⊢
  have hl : lv_has ls 2 [(0, .int (nI a)), (1, .int (nI b))] := hl
  refine zr_nQ (fun Q hQ => ?_)
  refine lv_iload_n hx hb dJ0_checkIndex_df160_0 rfl (lv_at hl 0 rfl) ?_
  refine lv_iload_n hx hb dJ0_checkIndex_df160_1 rfl (lv_at hl 1 rfl) ?_
  rcases hE.2.1 with hz | ⟨t9, hz⟩
  · skip
    refine va_gets (v := .null) hx hb hz hS hown (hts (.fieldLink RJ0 1053 "jdk/internal/util/Preconditions" "SIOOBE_FORMATTER" "Ljava/util/function/BiFunction;") (by decide +kernel)) (fun _ h9 => h9) dJ0_checkIndex_df160_2 ?_
    refine zr_ci hP hS (va_runS (As := [.int (nI a), .int (nI b), .null]) (rest := []) ⟨hx, hb, hml, hown, hts⟩ (c_J3_checkIndex_8e157_n l D E a b (by omega) (by omega)) (va_cwS 3 hts gJ0_checkIndex_df160_J3_checkIndex_8e157 rfl rfl rfl (by decide +kernel) ⟨Nat.le_of_ble_eq_true rfl, Nat.le_of_ble_eq_true rfl⟩) (zr_S hK (hP.sub (ws' := []) [] rfl)) rfl rfl hl.1 rfl (lv_room (Nat.le_of_ble_eq_true rfl)) dJ0_checkIndex_df160_5 ⟨Nat.zero_le _, Nat.zero_le _⟩) (fun r_1 H locs hw_2 hP hS => ?_)
    subst hw_2
    refine lv_pop hx hb dJ0_checkIndex_df160_8 rfl ?_
    subst hQ
    exact W.vret hx hb hr (fun tz htz hWz => ⟨⟨(), rfl, trivial, trivial⟩, hS.F htz⟩) hS.2.2 dJ0_checkIndex_df160_9
  · skip
    refine va_gets (v := .ref t9) hx hb hz hS hown (hts (.fieldLink RJ0 1053 "jdk/internal/util/Preconditions" "SIOOBE_FORMATTER" "Ljava/util/function/BiFunction;") (by decide +kernel)) (fun _ h9 => h9) dJ0_checkIndex_df160_2 ?_
    refine zr_ci hP hS (va_runS (As := [.int (nI a), .int (nI b), .ref t9]) (rest := []) ⟨hx, hb, hml, hown, hts⟩ (c_J3_checkIndex_8e157_r l D E a b t9 (by omega) (by omega)) (va_cwS 3 hts gJ0_checkIndex_df160_J3_checkIndex_8e157 rfl rfl rfl (by decide +kernel) ⟨Nat.le_of_ble_eq_true rfl, Nat.le_of_ble_eq_true rfl⟩) (zr_S hK (hP.sub (ws' := []) [] rfl)) rfl rfl hl.1 rfl (lv_room (Nat.le_of_ble_eq_true rfl)) dJ0_checkIndex_df160_5 ⟨Nat.zero_le _, Nat.zero_le _⟩) (fun r_3 H locs hw_4 hP hS => ?_)
    subst hw_4
    refine lv_pop hx hb dJ0_checkIndex_df160_8 rfl ?_
    subst hQ
    exact W.vret hx hb hr (fun tz htz hWz => ⟨⟨(), rfl, trivial, trivial⟩, hS.F htz⟩) hS.2.2 dJ0_checkIndex_df160_9

set_option maxHeartbeats 4000000 in
set_option maxRecDepth 100000 in
theorem c_J1_charAt_3b067 (l : Launch) (D : va_G) (E : Nat → ClassId) (adK adV ad : Nat → Nat) (wa sa : Nat) (i : Nat) (k : Nat) (hi : i < zc_n) (hk : k < zc_len.getD i 0) : Met l yJ1_charAt_3b067 wsJ1_charAt_3b067 ({ frames := 3, cells := 0, slots := 0, locals := 64 }) (zrE_P D E adK adV ad wa sa [.ref (adV i), .int (nI k)] []) (zr_Qi (fun zv => zv = nI (zc_ch i k))) 0 0 (fun _ => False) := by
  refine Met.ofW (cc := cJ1_charAt_3b067) (maxL := 2) (ret := (some .char)) (by decide) rfl ?_
  intro p e s m args below meth c s₁ Bz hml hv
  obtain ⟨rfl, hP, hK, hE, hR⟩ := hv
  have hx := Bz.exec
  have hb := Bz.bytes
  have hr := Bz.returns
  have hts := atoms_spec (ws := wsJ1_charAt_3b067) Bz.pre
  have hown : s.vm.findClass RJ1 = some m.cls := findClass_of_methodNamed Bz.named
  have hlocks := Bz.notSynchronized
  have hP : va_P D vwCl [] s.heap := hP
  have hS : va_S (fun _ : Nat => False) s.heap s.heap [] := va_S.rf
  have hl := lv_entry ([.ref (adV i), .int (nI k)]) (n := 2) (Nat.le_of_ble_eq_true rfl)
  rw [lg_entry_eq]
  generalize (lg_sl ([.ref (adV i), .int (nI k)]) ++ List.replicate (2 - (lg_sl ([.ref (adV i), .int (nI k)])).length) Slot.unset).toArray = ls at hl ⊢
  have hl : lv_has ls 2 [(0, .ref (adV i)), (1, .int (nI k))] := hl
  refine zr_nQ (fun Q hQ => ?_)
  have hln := zc_lnS i hi
  obtain ⟨hc1, hc2⟩ := zc_chE i hi k hk
  refine lv_iload_n hx hb dJ1_charAt_3b067_0 rfl (lv_at hl 1 rfl) ?_
  refine lv_aload_n hx hb dJ1_charAt_3b067_1 rfl (lv_at hl 0 rfl) ?_
  refine va_tlen (v := nI (zc_len.getD i 0)) hx hb ((hE.2.2.2.2.2.2.2.1 i (hi)).2.2.2) hS rfl dJ1_charAt_3b067_2 ?_
  refine zr_cv hP hS (va_runS (As := [.int (nI k), .int (nI (zc_len.getD i 0))]) (rest := []) ⟨hx, hb, hml, hown, hts⟩ (c_J0_checkIndex_df160 l D E adK adV ad wa sa k (zc_len.getD i 0) (hk) (by omega)) (va_cwS 2 hts gJ1_charAt_3b067_J0_checkIndex_df160 rfl rfl rfl (by decide +kernel) ⟨Nat.le_of_ble_eq_true rfl, Nat.le_of_ble_eq_true rfl⟩) (zrE_S hE hR hS hK (hP.sub (ws' := []) [] rfl)) rfl rfl hl.1 rfl (lv_room (Nat.le_of_ble_eq_true rfl)) dJ1_charAt_3b067_3 ⟨Nat.zero_le _, Nat.zero_le _⟩) (fun H locs hP hS => ?_)
  refine lv_aload_n hx hb dJ1_charAt_3b067_6 rfl (lv_at hl 0 rfl) ?_
  refine lv_iload_n hx hb dJ1_charAt_3b067_7 rfl (lv_at hl 1 rfl) ?_
  refine va_tb (v := .int (nI (zc_ch i k))) hx hb ((hE.2.2.2.2.2.2.2.1 i (hi)).2.2.2) hS (vp_in_nI hk (by omega)) (by rw [nI_clamp (by omega), hc1]) dJ1_charAt_3b067_8 ?_
  refine lv_sipush (v := nI 255) hx hb dJ1_charAt_3b067_9 (by rfl) ?_
  refine lv_iand hx hb dJ1_charAt_3b067_12 ?_
  refine lv_i2c (v := nI (zc_ch i k)) hx hb dJ1_charAt_3b067_13 (zc_c2 _ hc2) ?_
  subst hQ
  exact W.zret (v := nI (zc_ch i k)) hx hb hr (by exact zc_nar _ hc2) (fun tz htz hWz => ⟨⟨nI (zc_ch i k), (), rfl, rfl, trivial⟩, hS.F htz⟩) hS.2.2 dJ1_charAt_3b067_14

set_option maxHeartbeats 4000000 in
set_option maxRecDepth 100000 in
theorem c_J0_charAt_5068e (l : Launch) (D : va_G) (E : Nat → ClassId) (adK adV ad : Nat → Nat) (wa sa : Nat) (i : Nat) (k : Nat) (hi : i < zc_n) (hk : k < zc_len.getD i 0) : Met l yJ0_charAt_5068e wsJ0_charAt_5068e ({ frames := 4, cells := 0, slots := 0, locals := 85 }) (zrE_P D E adK adV ad wa sa [.ref (adK i), .int (nI k)] []) (zr_Qi (fun zv => zv = nI (zc_ch i k))) 0 0 (fun _ => False) := by
  refine Met.ofW (cc := cJ0_charAt_5068e) (maxL := 2) (ret := (some .char)) (by decide) rfl ?_
  intro p e s m args below meth c s₁ Bz hml hv
  obtain ⟨rfl, hP, hK, hE, hR⟩ := hv
  have hx := Bz.exec
  have hb := Bz.bytes
  have hr := Bz.returns
  have hts := atoms_spec (ws := wsJ0_charAt_5068e) Bz.pre
  have hown : s.vm.findClass RJ0 = some m.cls := findClass_of_methodNamed Bz.named
  have hlocks := Bz.notSynchronized
  have hP : va_P D vwCl [] s.heap := hP
  have hS : va_S (fun _ : Nat => False) s.heap s.heap [] := va_S.rf
  have hl := lv_entry ([.ref (adK i), .int (nI k)]) (n := 2) (Nat.le_of_ble_eq_true rfl)
  rw [lg_entry_eq]
  generalize (lg_sl ([.ref (adK i), .int (nI k)]) ++ List.replicate (2 - (lg_sl ([.ref (adK i), .int (nI k)])).length) Slot.unset).toArray = ls at hl ⊢
  have hl : lv_has ls 2 [(0, .ref (adK i)), (1, .int (nI k))] := hl
  refine zr_nQ (fun Q hQ => ?_)
  have hln := zc_lnS i hi
  obtain ⟨hc1, hc2⟩ := zc_chE i hi k hk
  refine lv_aload_n hx hb dJ0_charAt_5068e_0 rfl (lv_at hl 0 rfl) ?_
  refine zr_ci hP hS (va_runV (As := []) (rest := []) ⟨hx, hb, hml, hown, hts⟩ (c_J0_isLatin1_aae02 l D E adK adV ad wa sa i (hi)) (cwV 0 hts gJ0_charAt_5068e_J0_isLatin1_aae02 rfl rfl rfl (by decide +kernel) ⟨Nat.le_of_ble_eq_true rfl, Nat.le_of_ble_eq_true rfl⟩) (zrE_VK (i := i) (hi) hE hR hS hK (hP.sub (ws' := []) [] rfl)) rfl rfl hl.1 rfl (lv_room (Nat.le_of_ble_eq_true rfl)) dJ0_charAt_5068e_1 ⟨Nat.zero_le _, Nat.zero_le _⟩) (fun r_1 H locs hw_2 hP hS => ?_)
  subst hw_2
  refine lv_if_eq (tgt := 16) hx hb dJ0_charAt_5068e_4 (by decide) (fun cn_3 => ?_) (fun cn_3 => ?_)
  · skip
    exact absurd cn_3 (by decide)
  · skip
    refine lv_aload_n hx hb dJ0_charAt_5068e_7 rfl (lv_at hl 0 rfl) ?_
    refine vk_getf (v := .ref (adV i)) hx hb ((hE.2.2.2.2.2.2.2.1 i (hi)).2.2.1) hS hown (hts (.fieldLink RJ0 9 "java/lang/String" "value" "[B") (by decide +kernel)) (fun _ h9 => h9) dJ0_charAt_5068e_8 ?_
    refine lv_iload_n hx hb dJ0_charAt_5068e_11 rfl (lv_at hl 1 rfl) ?_
    refine zr_ci hP hS (va_runS (As := [.ref (adV i), .int (nI k)]) (rest := []) ⟨hx, hb, hml, hown, hts⟩ (c_J1_charAt_3b067 l D E adK adV ad wa sa i k (hi) (hk)) (va_cwS 2 hts gJ0_charAt_5068e_J1_charAt_3b067 rfl rfl rfl (by decide +kernel) ⟨Nat.le_of_ble_eq_true rfl, Nat.le_of_ble_eq_true rfl⟩) (zrE_S hE hR hS hK (hP.sub (ws' := []) [] rfl)) rfl rfl hl.1 rfl (lv_room (Nat.le_of_ble_eq_true rfl)) dJ0_charAt_5068e_12 ⟨Nat.zero_le _, Nat.zero_le _⟩) (fun r_4 H locs hw_5 hP hS => ?_)
    subst hw_5
    subst hQ
    exact W.zret (v := nI (zc_ch i k)) hx hb hr (by exact zc_nar _ hc2) (fun tz htz hWz => ⟨⟨nI (zc_ch i k), (), rfl, rfl, trivial⟩, hS.F htz⟩) hS.2.2 dJ0_charAt_5068e_15

set_option maxHeartbeats 4000000 in
set_option maxRecDepth 100000 in
theorem c_J1_canEncode_9a6ad (l : Launch) (D : va_G) (E : Nat → ClassId) (c9 : Nat) (hc : c9 < 128) : Met l yJ1_canEncode_9a6ad wsJ1_canEncode_9a6ad ({ frames := 0, cells := 0, slots := 0, locals := 0 }) (zr_P D E [.int (nI c9)] []) (zr_Qi (fun zv => zv = nI 1)) 0 0 (fun _ => False) := by
  refine Met.ofW (cc := cJ1_canEncode_9a6ad) (maxL := 1) (ret := (some .boolean)) (by decide) rfl ?_
  intro p e s m args below meth c s₁ Bz hml hv
  obtain ⟨rfl, hP, hK⟩ := hv
  have hx := Bz.exec
  have hb := Bz.bytes
  have hr := Bz.returns
  have hts := atoms_spec (ws := wsJ1_canEncode_9a6ad) Bz.pre
  have hown : s.vm.findClass RJ1 = some m.cls := findClass_of_methodNamed Bz.named
  have hlocks := Bz.notSynchronized
  have hP : va_P D vwCl [] s.heap := hP
  have hS : va_S (fun _ : Nat => False) s.heap s.heap [] := va_S.rf
  have hl := lv_entry ([.int (nI c9)]) (n := 1) (Nat.le_of_ble_eq_true rfl)
  rw [lg_entry_eq]
  generalize (lg_sl ([.int (nI c9)]) ++ List.replicate (1 - (lg_sl ([.int (nI c9)])).length) Slot.unset).toArray = ls at hl ⊢
  have hl : lv_has ls 1 [(0, .int (nI c9))] := hl
  refine zr_nQ (fun Q hQ => ?_)
  refine lv_iload_n hx hb dJ1_canEncode_9a6ad_0 rfl (lv_at hl 0 rfl) ?_
  refine lv_if_lt (tgt := 15) hx hb dJ1_canEncode_9a6ad_1 (by decide) (fun cn_1 => ?_) (fun cn_1 => ?_)
  · skip
    have cn_1 : c9 < 0 := (nI_ltI (a := c9) (b := 0) (by omega) (by omega)).mp cn_1
    exfalso; omega
  · skip
    have cn_1 : ¬ (c9 < 0) := fun hz => cn_1 ((nI_ltI (a := c9) (b := 0) (by omega) (by omega)).mpr hz)
    refine lv_iload_n hx hb dJ1_canEncode_9a6ad_4 rfl (lv_at hl 0 rfl) ?_
    refine lv_sipush (v := nI 255) hx hb dJ1_canEncode_9a6ad_5 (by rfl) ?_
    refine lv_icmp_gt (tgt := 15) hx hb dJ1_canEncode_9a6ad_8 (by decide) (fun cn_2 => ?_) (fun cn_2 => ?_)
    · skip
      have cn_2 : 255 < c9 := (nI_ltI (a := 255) (b := c9) (by omega) (by omega)).mp cn_2
      exfalso; omega
    · skip
      have cn_2 : ¬ (255 < c9) := fun hz => cn_2 ((nI_ltI (a := 255) (b := c9) (by omega) (by omega)).mpr hz)
      refine lv_iconst (v := nI 1) hx hb dJ1_canEncode_9a6ad_11 (by rfl) ?_
      refine lv_goto (tgt := 16) hx hb dJ1_canEncode_9a6ad_12 (by decide) ?_
      subst hQ
      exact W.zret (v := nI 1) hx hb hr (by decide) (fun tz htz hWz => ⟨⟨nI 1, (), rfl, rfl, trivial⟩, hS.F htz⟩) hS.2.2 dJ1_canEncode_9a6ad_16

set_option maxHeartbeats 4000000 in
set_option maxRecDepth 100000 in
theorem c_J1_indexOfChar_4cfef (l : Launch) (D : va_G) (E : Nat → ClassId) (adK adV ad : Nat → Nat) (wa sa : Nat) (i : Nat) (c9 : Nat) (p9 : Nat) (hi : i < zc_n) (hc : c9 < 128) (hp9 : p9 < zc_len.getD i 0) : Met l yJ1_indexOfChar_4cfef wsJ1_indexOfChar_4cfef ({ frames := 0, cells := 0, slots := 0, locals := 0 }) (zrE_P D E adK adV ad wa sa [.ref (adV i), .int (nI c9), .int (nI p9), .int (nI (zc_len.getD i 0))] []) (zr_Qi (fun zv => zv = zc_ix i c9 (zc_len.getD i 0 - p9) p9)) 0 0 (fun _ => False) := by
  refine Met.ofW (cc := cJ1_indexOfChar_4cfef) (maxL := 6) (ret := (some .int)) (by decide) rfl ?_
  intro p e s m args below meth c s₁ Bz hml hv
  obtain ⟨rfl, hP, hK, hE, hR⟩ := hv
  have hx := Bz.exec
  have hb := Bz.bytes
  have hr := Bz.returns
  have hts := atoms_spec (ws := wsJ1_indexOfChar_4cfef) Bz.pre
  have hown : s.vm.findClass RJ1 = some m.cls := findClass_of_methodNamed Bz.named
  have hlocks := Bz.notSynchronized
  have hP : va_P D vwCl [] s.heap := hP
  have hS : va_S (fun _ : Nat => False) s.heap s.heap [] := va_S.rf
  have hl := lv_entry ([.ref (adV i), .int (nI c9), .int (nI p9), .int (nI (zc_len.getD i 0))]) (n := 6) (Nat.le_of_ble_eq_true rfl)
  rw [lg_entry_eq]
  generalize (lg_sl ([.ref (adV i), .int (nI c9), .int (nI p9), .int (nI (zc_len.getD i 0))]) ++ List.replicate (6 - (lg_sl ([.ref (adV i), .int (nI c9), .int (nI p9), .int (nI (zc_len.getD i 0))])).length) Slot.unset).toArray = ls at hl ⊢
  have hl : lv_has ls 6 [(0, .ref (adV i)), (1, .int (nI c9)), (2, .int (nI p9)), (3, .int (nI (zc_len.getD i 0)))] := hl
  refine zr_nQ (fun Q hQ => ?_)
  have hln := zc_lnS i hi
  refine lv_iload_n hx hb dJ1_indexOfChar_4cfef_0 rfl (lv_at hl 1 rfl) ?_
  refine lv_i2b (v := nI c9) hx hb dJ1_indexOfChar_4cfef_1 (zn_b8 _ hc) ?_
  refine lv_istore (lv' := [(4, .int (nI c9)), (0, .ref (adV i)), (1, .int (nI c9)), (2, .int (nI p9)), (3, .int (nI (zc_len.getD i 0)))]) hx hb dJ1_indexOfChar_4cfef_2 hl (by decide) rfl (fun ls hl => ?_)
  refine lv_iload_n hx hb dJ1_indexOfChar_4cfef_4 rfl (lv_at hl 3 rfl) ?_
  refine lv_istore (lv' := [(5, .int (nI p9)), (4, .int (nI c9)), (0, .ref (adV i)), (1, .int (nI c9)), (2, .int (nI p9)), (3, .int (nI (zc_len.getD i 0)))]) hx hb dJ1_indexOfChar_4cfef_5 hl (by decide) rfl (fun ls hl => ?_)
  suffices KL7 : ∀ (kz : Nat) (j : Nat) (H : Heap) (locs : List Loc) (ls : Array Slot), (zc_len.getD i 0 - j) < kz → (zc_ix i c9 (zc_len.getD i 0 - p9) p9 = zc_ix i c9 (zc_len.getD i 0 - j) j) → (j ≤ zc_len.getD i 0) → va_P D vwCl [] H → va_S (fun _ : Nat => False) s.heap H locs → lv_has ls 6 [(0, .ref (adV i)), (1, .int (nI c9)), (2, .int (nI p9)), (3, .int (nI (zc_len.getD i 0))), (4, .int (nI c9)), (5, .int (nI j))] → W p l e (headSpec wsJ1_indexOfChar_4cfef ({ frames := 0, cells := 0, slots := 0, locals := 0 })).room s m ([.ref (adV i), .int (nI c9), .int (nI p9), .int (nI (zc_len.getD i 0))] : List Value).toArray below meth c H locs 0 0 Q (F0 m 7 ls []) from
    KL7 _ p9 _ _ ls (Nat.lt_succ_self _) (rfl) (Nat.le_of_lt hp9) hP hS (lv_sub hl [2, 3, 4, 5, 1, 0] rfl)
  clear hP hS hl
  intro kz
  induction kz with
  | zero => intro j H locs ls hkz; exact absurd hkz (Nat.not_lt_zero _)
  | succ kz ih7 =>
    intro j H locs ls hkz hI hj hP hS hl
    refine lv_iload hx hb dJ1_indexOfChar_4cfef_7 (lv_at hl 5 rfl) ?_
    refine lv_iload_n hx hb dJ1_indexOfChar_4cfef_9 rfl (lv_at hl 3 rfl) ?_
    refine lv_icmp_ge (tgt := 31) hx hb dJ1_indexOfChar_4cfef_10 (by decide) (fun cn_1 => ?_) (fun cn_1 => ?_)
    · skip
      have cn_1 : zc_len.getD i 0 ≤ j := (nI_leI (a := zc_len.getD i 0) (b := j) (by omega) (by omega)).mp cn_1
      have hje : j = zc_len.getD i 0 := by omega
      refine lv_iconst (v := (-1)) hx hb dJ1_indexOfChar_4cfef_31 (by rfl) ?_
      subst hQ
      exact W.iret (v := (-1)) hx hb hr (fun tz htz hWz => ⟨⟨(-1), (), rfl, by rw [hI, hje, Nat.sub_self]; rfl, trivial⟩, hS.F htz⟩) hS.2.2 dJ1_indexOfChar_4cfef_32
    · skip
      have cn_1 : ¬ (zc_len.getD i 0 ≤ j) := fun hz => cn_1 ((nI_leI (a := zc_len.getD i 0) (b := j) (by omega) (by omega)).mpr hz)
      have hjl : j < zc_len.getD i 0 := by omega
      obtain ⟨hc1, hc2⟩ := zc_chE i hi j hjl
      refine lv_aload_n hx hb dJ1_indexOfChar_4cfef_13 rfl (lv_at hl 0 rfl) ?_
      refine lv_iload hx hb dJ1_indexOfChar_4cfef_14 (lv_at hl 5 rfl) ?_
      refine va_tb (v := .int (nI (zc_ch i j))) hx hb ((hE.2.2.2.2.2.2.2.1 i (hi)).2.2.2) hS (vp_in_nI hjl (by omega)) (by rw [nI_clamp (by omega), hc1]) dJ1_indexOfChar_4cfef_16 ?_
      refine lv_iload hx hb dJ1_indexOfChar_4cfef_17 (lv_at hl 4 rfl) ?_
      refine lv_icmp_ne (tgt := 25) hx hb dJ1_indexOfChar_4cfef_19 (by decide) (fun cn_2 => ?_) (fun cn_2 => ?_)
      · skip
        have cn_2 : ¬ (zc_ch i j = c9) := fun hz => cn_2 ((nI_eq (a := zc_ch i j) (b := c9) (by omega) (by omega)).mpr hz)
        have hbr := cn_2
        refine lv_iinc (v := nI (j + 1)) (lv' := [(5, .int (nI (j + 1))), (0, .ref (adV i)), (1, .int (nI c9)), (2, .int (nI p9)), (3, .int (nI (zc_len.getD i 0))), (4, .int (nI c9))]) hx hb dJ1_indexOfChar_4cfef_25 hl (k := 5) rfl (nI_add _ _) (by decide) rfl (fun ls hl => ?_)
        refine lv_goto (tgt := 7) hx hb dJ1_indexOfChar_4cfef_28 (by decide) ?_
        have hl : lv_has ls 6 [(0, .ref (adV i)), (1, .int (nI c9)), (2, .int (nI p9)), (3, .int (nI (zc_len.getD i 0))), (4, .int (nI c9)), (5, .int (nI (j + 1)))] := lv_sub hl [1, 2, 3, 4, 5, 0] rfl
        exact ih7 (j + 1) H locs ls (by omega) (by rw [hI, show zc_len.getD i 0 - j = (zc_len.getD i 0 - (j + 1)) + 1 from by omega, zc_ix, if_neg hbr]) (by omega) hP hS hl
      · skip
        have cn_2 : zc_ch i j = c9 := (nI_eq (a := zc_ch i j) (b := c9) (by omega) (by omega)).mp cn_2
        have hbr := cn_2
        refine lv_iload hx hb dJ1_indexOfChar_4cfef_22 (lv_at hl 5 rfl) ?_
        subst hQ
        exact W.iret (v := nI j) hx hb hr (fun tz htz hWz => ⟨⟨nI j, (), rfl, by rw [hI, show zc_len.getD i 0 - j = (zc_len.getD i 0 - (j + 1)) + 1 from by omega, zc_ix, if_pos hbr], trivial⟩, hS.F htz⟩) hS.2.2 dJ1_indexOfChar_4cfef_24

set_option maxHeartbeats 4000000 in
set_option maxRecDepth 100000 in
theorem c_J1_indexOf_4cfef (l : Launch) (D : va_G) (E : Nat → ClassId) (adK adV ad : Nat → Nat) (wa sa : Nat) (i : Nat) (c9 : Nat) (p9 : Nat) (hi : i < zc_n) (hc : c9 < 128) (hp9 : p9 < zc_len.getD i 0) : Met l yJ1_indexOf_4cfef wsJ1_indexOf_4cfef ({ frames := 1, cells := 0, slots := 0, locals := 25 }) (zrE_P D E adK adV ad wa sa [.ref (adV i), .int (nI c9), .int (nI p9), .int (nI (zc_len.getD i 0))] []) (zr_Qi (fun zv => zv = zc_ix i c9 (zc_len.getD i 0 - p9) p9)) 0 0 (fun _ => False) := by
  refine Met.ofW (cc := cJ1_indexOf_4cfef) (maxL := 4) (ret := (some .int)) (by decide) rfl ?_
  intro p e s m args below meth c s₁ Bz hml hv
  obtain ⟨rfl, hP, hK, hE, hR⟩ := hv
  have hx := Bz.exec
  have hb := Bz.bytes
  have hr := Bz.returns
  have hts := atoms_spec (ws := wsJ1_indexOf_4cfef) Bz.pre
  have hown : s.vm.findClass RJ1 = some m.cls := findClass_of_methodNamed Bz.named
  have hlocks := Bz.notSynchronized
  have hP : va_P D vwCl [] s.heap := hP
  have hS : va_S (fun _ : Nat => False) s.heap s.heap [] := va_S.rf
  have hl := lv_entry ([.ref (adV i), .int (nI c9), .int (nI p9), .int (nI (zc_len.getD i 0))]) (n := 4) (Nat.le_of_ble_eq_true rfl)
  rw [lg_entry_eq]
  generalize (lg_sl ([.ref (adV i), .int (nI c9), .int (nI p9), .int (nI (zc_len.getD i 0))]) ++ List.replicate (4 - (lg_sl ([.ref (adV i), .int (nI c9), .int (nI p9), .int (nI (zc_len.getD i 0))])).length) Slot.unset).toArray = ls at hl ⊢
  have hl : lv_has ls 4 [(0, .ref (adV i)), (1, .int (nI c9)), (2, .int (nI p9)), (3, .int (nI (zc_len.getD i 0)))] := hl
  refine zr_nQ (fun Q hQ => ?_)
  have hln := zc_lnS i hi
  refine lv_iload_n hx hb dJ1_indexOf_4cfef_0 rfl (lv_at hl 1 rfl) ?_
  refine zr_ci hP hS (va_runS (As := [.int (nI c9)]) (rest := []) ⟨hx, hb, hml, hown, hts⟩ (c_J1_canEncode_9a6ad l D E c9 (by omega)) (va_cwS 1 hts gJ1_indexOf_4cfef_J1_canEncode_9a6ad rfl rfl rfl (by decide +kernel) ⟨Nat.le_of_ble_eq_true rfl, Nat.le_of_ble_eq_true rfl⟩) (zr_S hK (hP.sub (ws' := []) [] rfl)) rfl rfl hl.1 rfl (lv_room (Nat.le_of_ble_eq_true rfl)) dJ1_indexOf_4cfef_1 ⟨Nat.zero_le _, Nat.zero_le _⟩) (fun r_1 H locs hw_2 hP hS => ?_)
  subst hw_2
  refine lv_if_ne (tgt := 9) hx hb dJ1_indexOf_4cfef_4 (by decide) (fun cn_3 => ?_) (fun cn_3 => ?_)
  · skip
    refine lv_iload_n hx hb dJ1_indexOf_4cfef_9 rfl (lv_at hl 2 rfl) ?_
    refine lv_iconst (v := nI 0) hx hb dJ1_indexOf_4cfef_10 (by rfl) ?_
    refine va_mmax hx hb (hml.trans hl.1.symm) hown (hts (.methodLink RJ1 92 Lib.Math.max.name) (by decide +kernel)) (hts (.static Lib.Math.max.name) (by decide +kernel)) (hts (.initialized "java/lang/Math") (by decide +kernel)) (hts (.code Lib.Math.max.name Lib.Math.max.code 2 (some .int)) (by decide +kernel)) (Nat.le_of_ble_eq_true rfl) (Nat.le_of_ble_eq_true rfl) (Nat.zero_le _) (Nat.zero_le _) dJ1_indexOf_4cfef_11 ?_
    refine zr_ti (y := nI p9) (zc_max0 (by omega)) ?_
    refine lv_istore_n (lv' := [(2, .int (nI p9)), (0, .ref (adV i)), (1, .int (nI c9)), (3, .int (nI (zc_len.getD i 0)))]) hx hb dJ1_indexOf_4cfef_14 rfl hl (by decide) rfl (fun ls hl => ?_)
    refine lv_iload_n hx hb dJ1_indexOf_4cfef_15 rfl (lv_at hl 3 rfl) ?_
    refine lv_aload_n hx hb dJ1_indexOf_4cfef_16 rfl (lv_at hl 1 rfl) ?_
    refine va_tlen (v := nI (zc_len.getD i 0)) hx hb ((hE.2.2.2.2.2.2.2.1 i (hi)).2.2.2) hS rfl dJ1_indexOf_4cfef_17 ?_
    refine va_mmin hx hb (hml.trans hl.1.symm) hown (hts (.methodLink RJ1 38 Lib.Math.min.name) (by decide +kernel)) (hts (.static Lib.Math.min.name) (by decide +kernel)) (hts (.initialized "java/lang/Math") (by decide +kernel)) (hts (.code Lib.Math.min.name Lib.Math.min.code 2 (some .int)) (by decide +kernel)) (Nat.le_of_ble_eq_true rfl) (Nat.le_of_ble_eq_true rfl) (Nat.zero_le _) (Nat.zero_le _) dJ1_indexOf_4cfef_18 ?_
    refine zr_ti (y := nI (zc_len.getD i 0)) (zc_minS (by omega)) ?_
    refine lv_istore_n (lv' := [(3, .int (nI (zc_len.getD i 0))), (2, .int (nI p9)), (0, .ref (adV i)), (1, .int (nI c9))]) hx hb dJ1_indexOf_4cfef_21 rfl hl (by decide) rfl (fun ls hl => ?_)
    refine lv_iload_n hx hb dJ1_indexOf_4cfef_22 rfl (lv_at hl 1 rfl) ?_
    refine lv_iload_n hx hb dJ1_indexOf_4cfef_23 rfl (lv_at hl 0 rfl) ?_
    refine lv_icmp_lt (tgt := 29) hx hb dJ1_indexOf_4cfef_24 (by decide) (fun cn_4 => ?_) (fun cn_4 => ?_)
    · skip
      have cn_4 : p9 < zc_len.getD i 0 := (nI_ltI (a := p9) (b := zc_len.getD i 0) (by omega) (by omega)).mp cn_4
      refine lv_aload_n hx hb dJ1_indexOf_4cfef_29 rfl (lv_at hl 2 rfl) ?_
      refine lv_iload_n hx hb dJ1_indexOf_4cfef_30 rfl (lv_at hl 3 rfl) ?_
      refine lv_iload_n hx hb dJ1_indexOf_4cfef_31 rfl (lv_at hl 1 rfl) ?_
      refine lv_iload_n hx hb dJ1_indexOf_4cfef_32 rfl (lv_at hl 0 rfl) ?_
      refine zr_ci hP hS (va_runS (As := [.ref (adV i), .int (nI c9), .int (nI p9), .int (nI (zc_len.getD i 0))]) (rest := []) ⟨hx, hb, hml, hown, hts⟩ (c_J1_indexOfChar_4cfef l D E adK adV ad wa sa i c9 p9 (hi) (by omega) (hp9)) (va_cwS 4 hts gJ1_indexOf_4cfef_J1_indexOfChar_4cfef rfl rfl rfl (by decide +kernel) ⟨Nat.le_of_ble_eq_true rfl, Nat.le_of_ble_eq_true rfl⟩) (zrE_S hE hR hS hK (hP.sub (ws' := []) [] rfl)) rfl rfl hl.1 rfl (lv_room (Nat.le_of_ble_eq_true rfl)) dJ1_indexOf_4cfef_33 ⟨Nat.zero_le _, Nat.zero_le _⟩) (fun r_5 H locs hw_6 hP hS => ?_)
      subst hw_6
      subst hQ
      exact W.iret (v := zc_ix i c9 (zc_len.getD i 0 - p9) p9) hx hb hr (fun tz htz hWz => ⟨⟨zc_ix i c9 (zc_len.getD i 0 - p9) p9, (), rfl, rfl, trivial⟩, hS.F htz⟩) hS.2.2 dJ1_indexOf_4cfef_36
    · skip
      have cn_4 : ¬ (p9 < zc_len.getD i 0) := fun hz => cn_4 ((nI_ltI (a := p9) (b := zc_len.getD i 0) (by omega) (by omega)).mpr hz)
      exfalso; omega
  · skip
    exact absurd cn_3 (by decide)

set_option maxHeartbeats 4000000 in
set_option maxRecDepth 100000 in
theorem c_J0_indexOf_7cf53 (l : Launch) (D : va_G) (E : Nat → ClassId) (adK adV ad : Nat → Nat) (wa sa : Nat) (i : Nat) (c9 : Nat) (p9 : Nat) (hi : i < zc_n) (hc : c9 < 128) (hp9 : p9 < zc_len.getD i 0) : Met l yJ0_indexOf_7cf53 wsJ0_indexOf_7cf53 ({ frames := 2, cells := 0, slots := 0, locals := 48 }) (zrE_P D E adK adV ad wa sa [.ref (adK i), .int (nI c9), .int (nI p9)] []) (zr_Qi (fun zv => zv = zc_ix i c9 (zc_len.getD i 0 - p9) p9)) 0 0 (fun _ => False) := by
  refine Met.ofW (cc := cJ0_indexOf_7cf53) (maxL := 3) (ret := (some .int)) (by decide) rfl ?_
  intro p e s m args below meth c s₁ Bz hml hv
  obtain ⟨rfl, hP, hK, hE, hR⟩ := hv
  have hx := Bz.exec
  have hb := Bz.bytes
  have hr := Bz.returns
  have hts := atoms_spec (ws := wsJ0_indexOf_7cf53) Bz.pre
  have hown : s.vm.findClass RJ0 = some m.cls := findClass_of_methodNamed Bz.named
  have hlocks := Bz.notSynchronized
  have hP : va_P D vwCl [] s.heap := hP
  have hS : va_S (fun _ : Nat => False) s.heap s.heap [] := va_S.rf
  have hl := lv_entry ([.ref (adK i), .int (nI c9), .int (nI p9)]) (n := 3) (Nat.le_of_ble_eq_true rfl)
  rw [lg_entry_eq]
  generalize (lg_sl ([.ref (adK i), .int (nI c9), .int (nI p9)]) ++ List.replicate (3 - (lg_sl ([.ref (adK i), .int (nI c9), .int (nI p9)])).length) Slot.unset).toArray = ls at hl ⊢
  have hl : lv_has ls 3 [(0, .ref (adK i)), (1, .int (nI c9)), (2, .int (nI p9))] := hl
  refine zr_nQ (fun Q hQ => ?_)
  have hln := zc_lnS i hi
  refine lv_aload_n hx hb dJ0_indexOf_7cf53_0 rfl (lv_at hl 0 rfl) ?_
  refine zr_ci hP hS (va_runV (As := []) (rest := []) ⟨hx, hb, hml, hown, hts⟩ (c_J0_isLatin1_aae02 l D E adK adV ad wa sa i (hi)) (cwV 0 hts gJ0_indexOf_7cf53_J0_isLatin1_aae02 rfl rfl rfl (by decide +kernel) ⟨Nat.le_of_ble_eq_true rfl, Nat.le_of_ble_eq_true rfl⟩) (zrE_VK (i := i) (hi) hE hR hS hK (hP.sub (ws' := []) [] rfl)) rfl rfl hl.1 rfl (lv_room (Nat.le_of_ble_eq_true rfl)) dJ0_indexOf_7cf53_1 ⟨Nat.zero_le _, Nat.zero_le _⟩) (fun r_1 H locs hw_2 hP hS => ?_)
  subst hw_2
  refine lv_if_eq (tgt := 23) hx hb dJ0_indexOf_7cf53_4 (by decide) (fun cn_3 => ?_) (fun cn_3 => ?_)
  · skip
    exact absurd cn_3 (by decide)
  · skip
    refine lv_aload_n hx hb dJ0_indexOf_7cf53_7 rfl (lv_at hl 0 rfl) ?_
    refine vk_getf (v := .ref (adV i)) hx hb ((hE.2.2.2.2.2.2.2.1 i (hi)).2.2.1) hS hown (hts (.fieldLink RJ0 9 "java/lang/String" "value" "[B") (by decide +kernel)) (fun _ h9 => h9) dJ0_indexOf_7cf53_8 ?_
    refine lv_iload_n hx hb dJ0_indexOf_7cf53_11 rfl (lv_at hl 1 rfl) ?_
    refine lv_iload_n hx hb dJ0_indexOf_7cf53_12 rfl (lv_at hl 2 rfl) ?_
    refine lv_aload_n hx hb dJ0_indexOf_7cf53_13 rfl (lv_at hl 0 rfl) ?_
    refine zr_ci hP hS (va_runV (As := []) (rest := [.int (nI p9), .int (nI c9), .ref (adV i)]) ⟨hx, hb, hml, hown, hts⟩ (c_J0_length_8abf5 l D E adK adV ad wa sa i (hi)) (cwV 0 hts gJ0_indexOf_7cf53_J0_length_8abf5 rfl rfl rfl (by decide +kernel) ⟨Nat.le_of_ble_eq_true rfl, Nat.le_of_ble_eq_true rfl⟩) (zrE_VK (i := i) (hi) hE hR hS hK (hP.sub (ws' := []) [] rfl)) rfl rfl hl.1 rfl (lv_room (Nat.le_of_ble_eq_true rfl)) dJ0_indexOf_7cf53_14 ⟨Nat.zero_le _, Nat.zero_le _⟩) (fun r_4 H locs hw_5 hP hS => ?_)
    subst hw_5
    refine zr_ci hP hS (va_runS (As := [.ref (adV i), .int (nI c9), .int (nI p9), .int (nI (zc_len.getD i 0))]) (rest := []) ⟨hx, hb, hml, hown, hts⟩ (c_J1_indexOf_4cfef l D E adK adV ad wa sa i c9 p9 (hi) (by omega) (hp9)) (va_cwS 4 hts gJ0_indexOf_7cf53_J1_indexOf_4cfef rfl rfl rfl (by decide +kernel) ⟨Nat.le_of_ble_eq_true rfl, Nat.le_of_ble_eq_true rfl⟩) (zrE_S hE hR hS hK (hP.sub (ws' := []) [] rfl)) rfl rfl hl.1 rfl (lv_room (Nat.le_of_ble_eq_true rfl)) dJ0_indexOf_7cf53_17 ⟨Nat.zero_le _, Nat.zero_le _⟩) (fun r_6 H locs hw_7 hP hS => ?_)
    subst hw_7
    refine lv_goto (tgt := 36) hx hb dJ0_indexOf_7cf53_20 (by decide) ?_
    subst hQ
    exact W.iret (v := zc_ix i c9 (zc_len.getD i 0 - p9) p9) hx hb hr (fun tz htz hWz => ⟨⟨zc_ix i c9 (zc_len.getD i 0 - p9) p9, (), rfl, rfl, trivial⟩, hS.F htz⟩) hS.2.2 dJ0_indexOf_7cf53_36

