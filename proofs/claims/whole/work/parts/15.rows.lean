set_option maxHeartbeats 4000000 in
set_option maxRecDepth 100000 in
theorem c_X2_empty (l : Launch) (D : va_G) (E : Nat → ClassId) (q0 : Nat) (q1 : Nat) (lm : Nat) (ln : Nat) (sz : Nat) (cs : Nat → Int32)  : Met l yX2_empty wsX2_empty ({ frames := 0, cells := 0, slots := 0, locals := 0 }) (zw_P D E [.ref q0] [(q0, .inr (1, [.int (nI lm), .ref q1, .int (nI sz)])), (q1, .inl (E 0, ln, .inl cs))]) (zw_Qv D [(q0, .inr (1, [.int (nI lm), .ref q1, .int (nI sz)])), (q1, .inl (E 0, ln, .inl cs))] (fun (u : Unit) => True) (fun (u : Unit) => [(q0, .inr (1, [.int (nI lm), .ref q1, .int (nI 0)])), (q1, .inl (E 0, ln, .inl cs))])) 0 0 (zw_A [(q0, .inr (1, [.int (nI lm), .ref q1, .int (nI sz)])), (q1, .inl (E 0, ln, .inl cs))]) := by
  refine Met.ofW (cc := cX2_empty) (maxL := 1) (ret := none) (by decide) rfl ?_
  intro p e s m args below meth c s₁ Bz hml hv
  obtain ⟨rfl, hP, hK, hD0⟩ := hv
  have hx := Bz.exec
  have hb := Bz.bytes
  have hr := Bz.returns
  have hts := atoms_spec (ws := wsX2_empty) Bz.pre
  have hown : s.vm.findClass RX2 = some m.cls := findClass_of_methodNamed Bz.named
  have hlocks := Bz.notSynchronized
  have hP : va_P D vwCl [(q0, .inr (1, [.int (nI lm), .ref q1, .int (nI sz)])), (q1, .inl (E 0, ln, .inl cs))] s.heap := hP
  obtain ⟨A, hAe⟩ : ∃ A : Nat → Prop, A = zw_A [(q0, .inr (1, [.int (nI lm), .ref q1, .int (nI sz)])), (q1, .inl (E 0, ln, .inl cs))] := ⟨_, rfl⟩
  have hD : va_D A [(q0, .inr (1, [.int (nI lm), .ref q1, .int (nI sz)])), (q1, .inl (E 0, ln, .inl cs))] := hAe ▸ zw_own hD0
  have hS : va_S A s.heap s.heap [] := va_S.rf
  have hl := lv_entry ([.ref q0]) (n := 1) (Nat.le_of_ble_eq_true rfl)
  rw [lg_entry_eq]
  generalize (lg_sl ([.ref q0]) ++ List.replicate (1 - (lg_sl ([.ref q0])).length) Slot.unset).toArray = ls at hl ⊢
  have hl : lv_has ls 1 [(0, .ref q0)] := hl
  refine zr_nQ (fun Q hQ => ?_)
  refine lv_aload_n hx hb dX2_empty_0 rfl (lv_at hl 0 rfl) ?_
  refine lv_iconst (v := nI 0) hx hb dX2_empty_1 (by rfl) ?_
  refine va_put (D := D) (ci := 1) (v := .int (nI 0)) (ty := .int) (C := RX2) (T := TX2) (N := 3) hx hb hts (by decide +kernel) tyX2 tyX2_ok nmX2 hown hK.1 hP hD hS 0 rfl rfl 2 (by decide) (hts (.fieldLink RX2 25 "HomeRounds$Rows" "size" "I") (by decide +kernel)) (fun _ h9 => h9) rfl (by decide +kernel) rfl rfl (Nat.le_of_ble_eq_true rfl) dX2_empty_2 (fun H locs hP hD hS => ?_)
  have hP : va_P D vwCl [(q0, .inr (1, [.int (nI lm), .ref q1, .int (nI 0)])), (q1, .inl (E 0, ln, .inl cs))] H := hP
  have hD : va_D A [(q0, .inr (1, [.int (nI lm), .ref q1, .int (nI 0)])), (q1, .inl (E 0, ln, .inl cs))] := hD
  subst hQ; subst hAe
  exact W.vret hx hb hr (fun tz htz hWz => ⟨⟨(), rfl, trivial, by rw [htz]; exact hP, hD⟩, hS.F htz⟩) hS.2.2 dX2_empty_5

set_option maxHeartbeats 4000000 in
set_option maxRecDepth 100000 in
theorem c_X2_isFull (l : Launch) (D : va_G) (E : Nat → ClassId) (q0 : Nat) (q1 : Nat) (lm : Nat) (ln : Nat) (sz : Nat) (cs : Nat → Int32) (hlm : lm ≤ 12) (hsz : sz ≤ lm) : Met l yX2_isFull wsX2_isFull ({ frames := 0, cells := 0, slots := 0, locals := 0 }) (zr_P D E [.ref q0] [(q0, .inr (1, [.int (nI lm), .ref q1, .int (nI sz)])), (q1, .inl (E 0, ln, .inl cs))]) (zr_Qi (fun zv => (zv = 1 ∧ (lm ≤ sz)) ∨ (zv = 0 ∧ (sz < lm)))) 0 0 (fun _ => False) := by
  refine Met.ofW (cc := cX2_isFull) (maxL := 1) (ret := (some .boolean)) (by decide) rfl ?_
  intro p e s m args below meth c s₁ Bz hml hv
  obtain ⟨rfl, hP, hK⟩ := hv
  have hx := Bz.exec
  have hb := Bz.bytes
  have hr := Bz.returns
  have hts := atoms_spec (ws := wsX2_isFull) Bz.pre
  have hown : s.vm.findClass RX2 = some m.cls := findClass_of_methodNamed Bz.named
  have hlocks := Bz.notSynchronized
  have hP : va_P D vwCl [(q0, .inr (1, [.int (nI lm), .ref q1, .int (nI sz)])), (q1, .inl (E 0, ln, .inl cs))] s.heap := hP
  have hS : va_S (fun _ : Nat => False) s.heap s.heap [] := va_S.rf
  have hl := lv_entry ([.ref q0]) (n := 1) (Nat.le_of_ble_eq_true rfl)
  rw [lg_entry_eq]
  generalize (lg_sl ([.ref q0]) ++ List.replicate (1 - (lg_sl ([.ref q0])).length) Slot.unset).toArray = ls at hl ⊢
  have hl : lv_has ls 1 [(0, .ref q0)] := hl
  refine zr_nQ (fun Q hQ => ?_)
  refine lv_aload_n hx hb dX2_isFull_0 rfl (lv_at hl 0 rfl) ?_
  refine va_get (D := D) (ci := 1) (v := .int (nI sz)) (C := RX2) (T := TX2) (N := 3) hx hb hts (by decide +kernel) hown hK.1 hP 0 rfl rfl 2 (by decide) (hts (.fieldLink RX2 25 "HomeRounds$Rows" "size" "I") (by decide +kernel)) (fun _ h9 => h9) rfl dX2_isFull_1 ?_
  refine lv_aload_n hx hb dX2_isFull_4 rfl (lv_at hl 0 rfl) ?_
  refine va_get (D := D) (ci := 1) (v := .int (nI lm)) (C := RX2) (T := TX2) (N := 3) hx hb hts (by decide +kernel) hown hK.1 hP 0 rfl rfl 0 (by decide) (hts (.fieldLink RX2 21 "HomeRounds$Rows" "limit" "I") (by decide +kernel)) (fun _ h9 => h9) rfl dX2_isFull_5 ?_
  refine lv_icmp_lt (tgt := 15) hx hb dX2_isFull_8 (by decide) (fun cn_1 => ?_) (fun cn_1 => ?_)
  · skip
    have cn_1 : sz < lm := (nI_ltI (a := sz) (b := lm) (by omega) (by omega)).mp cn_1
    have h1 := cn_1
    refine lv_iconst (v := nI 0) hx hb dX2_isFull_15 (by rfl) ?_
    subst hQ
    exact W.zret (v := nI 0) hx hb hr (by decide) (fun tz htz hWz => ⟨⟨nI 0, (), rfl, by first | exact Or.inl ⟨rfl, by omega⟩ | exact Or.inr ⟨rfl, by omega⟩, trivial⟩, hS.F htz⟩) hS.2.2 dX2_isFull_16
  · skip
    have cn_1 : ¬ (sz < lm) := fun hz => cn_1 ((nI_ltI (a := sz) (b := lm) (by omega) (by omega)).mpr hz)
    have h1 := cn_1
    refine lv_iconst (v := nI 1) hx hb dX2_isFull_11 (by rfl) ?_
    refine lv_goto (tgt := 16) hx hb dX2_isFull_12 (by decide) ?_
    subst hQ
    exact W.zret (v := nI 1) hx hb hr (by decide) (fun tz htz hWz => ⟨⟨nI 1, (), rfl, by first | exact Or.inl ⟨rfl, by omega⟩ | exact Or.inr ⟨rfl, by omega⟩, trivial⟩, hS.F htz⟩) hS.2.2 dX2_isFull_16

set_option maxHeartbeats 4000000 in
set_option maxRecDepth 100000 in
theorem c_X2_add (l : Launch) (D : va_G) (E : Nat → ClassId) (q0 : Nat) (q1 : Nat) (lm : Nat) (ln : Nat) (sz : Nat) (cs : Nat → Int32) (va : Int32) (vb : Int32) (vc : Int32) (vd : Int32) (hlm : lm ≤ 12) (hln : lm * 4 ≤ ln ∧ ln ≤ 48) (hsz : sz < lm) : Met l yX2_add wsX2_add ({ frames := 1, cells := 0, slots := 0, locals := 20 }) (zw_P D E [.ref q0, .int va, .int vb, .int vc, .int vd] [(q0, .inr (1, [.int (nI lm), .ref q1, .int (nI sz)])), (q1, .inl (E 0, ln, .inl cs))]) (zw_Qv D [(q0, .inr (1, [.int (nI lm), .ref q1, .int (nI sz)])), (q1, .inl (E 0, ln, .inl cs))] (fun (u : Unit) => True) (fun (u : Unit) => [(q0, .inr (1, [.int (nI lm), .ref q1, .int (nI (sz + 1))])), (q1, .inl (E 0, ln, .inl (upd (upd (upd (upd cs (sz * 4) va) (sz * 4 + 1) vb) (sz * 4 + 2) vc) (sz * 4 + 3) vd)))])) 0 0 (zw_A [(q0, .inr (1, [.int (nI lm), .ref q1, .int (nI sz)])), (q1, .inl (E 0, ln, .inl cs))]) := by
  refine Met.ofW (cc := cX2_add) (maxL := 6) (ret := none) (by decide) rfl ?_
  intro p e s m args below meth c s₁ Bz hml hv
  obtain ⟨rfl, hP, hK, hD0⟩ := hv
  have hx := Bz.exec
  have hb := Bz.bytes
  have hr := Bz.returns
  have hts := atoms_spec (ws := wsX2_add) Bz.pre
  have hown : s.vm.findClass RX2 = some m.cls := findClass_of_methodNamed Bz.named
  have hlocks := Bz.notSynchronized
  have hP : va_P D vwCl [(q0, .inr (1, [.int (nI lm), .ref q1, .int (nI sz)])), (q1, .inl (E 0, ln, .inl cs))] s.heap := hP
  obtain ⟨A, hAe⟩ : ∃ A : Nat → Prop, A = zw_A [(q0, .inr (1, [.int (nI lm), .ref q1, .int (nI sz)])), (q1, .inl (E 0, ln, .inl cs))] := ⟨_, rfl⟩
  have hD : va_D A [(q0, .inr (1, [.int (nI lm), .ref q1, .int (nI sz)])), (q1, .inl (E 0, ln, .inl cs))] := hAe ▸ zw_own hD0
  have hS : va_S A s.heap s.heap [] := va_S.rf
  have hl := lv_entry ([.ref q0, .int va, .int vb, .int vc, .int vd]) (n := 6) (Nat.le_of_ble_eq_true rfl)
  rw [lg_entry_eq]
  generalize (lg_sl ([.ref q0, .int va, .int vb, .int vc, .int vd]) ++ List.replicate (6 - (lg_sl ([.ref q0, .int va, .int vb, .int vc, .int vd])).length) Slot.unset).toArray = ls at hl ⊢
  have hl : lv_has ls 6 [(0, .ref q0), (1, .int va), (2, .int vb), (3, .int vc), (4, .int vd)] := hl
  refine zr_nQ (fun Q hQ => ?_)
  refine lv_aload_n hx hb dX2_add_0 rfl (lv_at hl 0 rfl) ?_
  refine zr_ci hP hS (va_runV (As := []) (rest := []) ⟨hx, hb, hml, hown, hts⟩ (c_X2_isFull l D E q0 q1 lm ln sz cs (by omega) (by omega)) (cwV 0 hts gX2_add_X2_isFull rfl rfl rfl (by decide +kernel) ⟨Nat.le_of_ble_eq_true rfl, Nat.le_of_ble_eq_true rfl⟩) (zr_V hK (hP.sub (ws' := [(q0, .inr (1, [.int (nI lm), .ref q1, .int (nI sz)])), (q1, .inl (E 0, ln, .inl cs))]) [0, 1] rfl) (ci := 1) (q0 := 0) rfl rfl) rfl rfl hl.1 rfl (lv_room (Nat.le_of_ble_eq_true rfl)) dX2_add_1 ⟨Nat.zero_le _, Nat.zero_le _⟩) (fun r_1 H locs hw_2 hP hS => ?_)
  have hrz : r_1 = 0 := by rcases hw_2 with ⟨-, h9⟩ | ⟨h9, -⟩; exfalso; omega; exact h9
  subst hrz; clear hw_2
  refine zr_ti (y := nI 0) rfl ?_
  refine lv_if_eq (tgt := 8) hx hb dX2_add_4 (by decide) (fun cn_3 => ?_) (fun cn_3 => ?_)
  · skip
    refine lv_aload_n hx hb dX2_add_8 rfl (lv_at hl 0 rfl) ?_
    refine va_get (D := D) (ci := 1) (v := .int (nI sz)) (C := RX2) (T := TX2) (N := 3) hx hb hts (by decide +kernel) hown hK.1 hP 0 rfl rfl 2 (by decide) (hts (.fieldLink RX2 25 "HomeRounds$Rows" "size" "I") (by decide +kernel)) (fun _ h9 => h9) rfl dX2_add_9 ?_
    refine lv_iconst (v := nI 4) hx hb dX2_add_12 (by rfl) ?_
    refine lv_imul hx hb dX2_add_13 ?_
    refine zr_ti (y := nI (sz * 4)) (pk_mul _ _) ?_
    refine lv_istore (lv' := [(5, .int (nI (sz * 4))), (0, .ref q0), (1, .int va), (2, .int vb), (3, .int vc), (4, .int vd)]) hx hb dX2_add_14 hl (by decide) rfl (fun ls hl => ?_)
    refine lv_aload_n hx hb dX2_add_16 rfl (lv_at hl 1 rfl) ?_
    refine va_get (D := D) (ci := 1) (v := .ref q1) (C := RX2) (T := TX2) (N := 3) hx hb hts (by decide +kernel) hown hK.1 hP 0 rfl rfl 1 (by decide) (hts (.fieldLink RX2 11 "HomeRounds$Rows" "cells" "[I") (by decide +kernel)) (fun _ h9 => h9) rfl dX2_add_17 ?_
    refine lv_iload hx hb dX2_add_20 (lv_at hl 0 rfl) ?_
    refine lv_iload_n hx hb dX2_add_22 rfl (lv_at hl 2 rfl) ?_
    refine va_iast hx hb hK.1 hP hD hS 1 0 rfl rfl (vp_in_nI (by omega) (by omega)) dX2_add_23 (fun H locs hP hD hS => ?_)
    have hP : va_P D vwCl [(q0, .inr (1, [.int (nI lm), .ref q1, .int (nI sz)])), (q1, .inl (E 0, ln, .inl (upd cs (nI (sz * 4)).toNatClampNeg va)))] H := hP
    have hD : va_D A [(q0, .inr (1, [.int (nI lm), .ref q1, .int (nI sz)])), (q1, .inl (E 0, ln, .inl (upd cs (nI (sz * 4)).toNatClampNeg va)))] := hD
    have hcz : (upd cs (nI (sz * 4)).toNatClampNeg va) = (upd cs (sz * 4) va) := by rw [nI_clamp (n := sz * 4) (by omega)]
    rw [hcz] at hP hD
    refine lv_aload_n hx hb dX2_add_24 rfl (lv_at hl 1 rfl) ?_
    refine va_get (D := D) (ci := 1) (v := .ref q1) (C := RX2) (T := TX2) (N := 3) hx hb hts (by decide +kernel) hown hK.1 hP 0 rfl rfl 1 (by decide) (hts (.fieldLink RX2 11 "HomeRounds$Rows" "cells" "[I") (by decide +kernel)) (fun _ h9 => h9) rfl dX2_add_25 ?_
    refine lv_iload hx hb dX2_add_28 (lv_at hl 0 rfl) ?_
    refine lv_iconst (v := nI 1) hx hb dX2_add_30 (by rfl) ?_
    refine lv_iadd hx hb dX2_add_31 ?_
    refine zr_ti (y := nI ((sz * 4) + 1)) (nI_add _ _) ?_
    refine lv_iload_n hx hb dX2_add_32 rfl (lv_at hl 3 rfl) ?_
    refine va_iast hx hb hK.1 hP hD hS 1 0 rfl rfl (vp_in_nI (by omega) (by omega)) dX2_add_33 (fun H locs hP hD hS => ?_)
    have hP : va_P D vwCl [(q0, .inr (1, [.int (nI lm), .ref q1, .int (nI sz)])), (q1, .inl (E 0, ln, .inl (upd (upd cs (sz * 4) va) (nI ((sz * 4) + 1)).toNatClampNeg vb)))] H := hP
    have hD : va_D A [(q0, .inr (1, [.int (nI lm), .ref q1, .int (nI sz)])), (q1, .inl (E 0, ln, .inl (upd (upd cs (sz * 4) va) (nI ((sz * 4) + 1)).toNatClampNeg vb)))] := hD
    have hcz : (upd (upd cs (sz * 4) va) (nI ((sz * 4) + 1)).toNatClampNeg vb) = (upd (upd cs (sz * 4) va) ((sz * 4) + 1) vb) := by rw [nI_clamp (n := (sz * 4) + 1) (by omega)]
    rw [hcz] at hP hD
    refine lv_aload_n hx hb dX2_add_34 rfl (lv_at hl 1 rfl) ?_
    refine va_get (D := D) (ci := 1) (v := .ref q1) (C := RX2) (T := TX2) (N := 3) hx hb hts (by decide +kernel) hown hK.1 hP 0 rfl rfl 1 (by decide) (hts (.fieldLink RX2 11 "HomeRounds$Rows" "cells" "[I") (by decide +kernel)) (fun _ h9 => h9) rfl dX2_add_35 ?_
    refine lv_iload hx hb dX2_add_38 (lv_at hl 0 rfl) ?_
    refine lv_iconst (v := nI 2) hx hb dX2_add_40 (by rfl) ?_
    refine lv_iadd hx hb dX2_add_41 ?_
    refine zr_ti (y := nI ((sz * 4) + 2)) (nI_add _ _) ?_
    refine lv_iload_n hx hb dX2_add_42 rfl (lv_at hl 4 rfl) ?_
    refine va_iast hx hb hK.1 hP hD hS 1 0 rfl rfl (vp_in_nI (by omega) (by omega)) dX2_add_43 (fun H locs hP hD hS => ?_)
    have hP : va_P D vwCl [(q0, .inr (1, [.int (nI lm), .ref q1, .int (nI sz)])), (q1, .inl (E 0, ln, .inl (upd (upd (upd cs (sz * 4) va) ((sz * 4) + 1) vb) (nI ((sz * 4) + 2)).toNatClampNeg vc)))] H := hP
    have hD : va_D A [(q0, .inr (1, [.int (nI lm), .ref q1, .int (nI sz)])), (q1, .inl (E 0, ln, .inl (upd (upd (upd cs (sz * 4) va) ((sz * 4) + 1) vb) (nI ((sz * 4) + 2)).toNatClampNeg vc)))] := hD
    have hcz : (upd (upd (upd cs (sz * 4) va) ((sz * 4) + 1) vb) (nI ((sz * 4) + 2)).toNatClampNeg vc) = (upd (upd (upd cs (sz * 4) va) ((sz * 4) + 1) vb) ((sz * 4) + 2) vc) := by rw [nI_clamp (n := (sz * 4) + 2) (by omega)]
    rw [hcz] at hP hD
    refine lv_aload_n hx hb dX2_add_44 rfl (lv_at hl 1 rfl) ?_
    refine va_get (D := D) (ci := 1) (v := .ref q1) (C := RX2) (T := TX2) (N := 3) hx hb hts (by decide +kernel) hown hK.1 hP 0 rfl rfl 1 (by decide) (hts (.fieldLink RX2 11 "HomeRounds$Rows" "cells" "[I") (by decide +kernel)) (fun _ h9 => h9) rfl dX2_add_45 ?_
    refine lv_iload hx hb dX2_add_48 (lv_at hl 0 rfl) ?_
    refine lv_iconst (v := nI 3) hx hb dX2_add_50 (by rfl) ?_
    refine lv_iadd hx hb dX2_add_51 ?_
    refine zr_ti (y := nI ((sz * 4) + 3)) (nI_add _ _) ?_
    refine lv_iload hx hb dX2_add_52 (lv_at hl 5 rfl) ?_
    refine va_iast hx hb hK.1 hP hD hS 1 0 rfl rfl (vp_in_nI (by omega) (by omega)) dX2_add_54 (fun H locs hP hD hS => ?_)
    have hP : va_P D vwCl [(q0, .inr (1, [.int (nI lm), .ref q1, .int (nI sz)])), (q1, .inl (E 0, ln, .inl (upd (upd (upd (upd cs (sz * 4) va) ((sz * 4) + 1) vb) ((sz * 4) + 2) vc) (nI ((sz * 4) + 3)).toNatClampNeg vd)))] H := hP
    have hD : va_D A [(q0, .inr (1, [.int (nI lm), .ref q1, .int (nI sz)])), (q1, .inl (E 0, ln, .inl (upd (upd (upd (upd cs (sz * 4) va) ((sz * 4) + 1) vb) ((sz * 4) + 2) vc) (nI ((sz * 4) + 3)).toNatClampNeg vd)))] := hD
    have hcz : (upd (upd (upd (upd cs (sz * 4) va) ((sz * 4) + 1) vb) ((sz * 4) + 2) vc) (nI ((sz * 4) + 3)).toNatClampNeg vd) = (upd (upd (upd (upd cs (sz * 4) va) ((sz * 4) + 1) vb) ((sz * 4) + 2) vc) ((sz * 4) + 3) vd) := by rw [nI_clamp (n := (sz * 4) + 3) (by omega)]
    rw [hcz] at hP hD
    refine lv_aload_n hx hb dX2_add_55 rfl (lv_at hl 1 rfl) ?_
    refine lv_dup hx hb dX2_add_56 rfl ?_
    refine va_get (D := D) (ci := 1) (v := .int (nI sz)) (C := RX2) (T := TX2) (N := 3) hx hb hts (by decide +kernel) hown hK.1 hP 0 rfl rfl 2 (by decide) (hts (.fieldLink RX2 25 "HomeRounds$Rows" "size" "I") (by decide +kernel)) (fun _ h9 => h9) rfl dX2_add_57 ?_
    refine lv_iconst (v := nI 1) hx hb dX2_add_60 (by rfl) ?_
    refine lv_iadd hx hb dX2_add_61 ?_
    refine zr_ti (y := nI (sz + 1)) (nI_add _ _) ?_
    refine va_put (D := D) (ci := 1) (v := .int (nI (sz + 1))) (ty := .int) (C := RX2) (T := TX2) (N := 3) hx hb hts (by decide +kernel) tyX2 tyX2_ok nmX2 hown hK.1 hP hD hS 0 rfl rfl 2 (by decide) (hts (.fieldLink RX2 25 "HomeRounds$Rows" "size" "I") (by decide +kernel)) (fun _ h9 => h9) rfl (by decide +kernel) rfl rfl (Nat.le_of_ble_eq_true rfl) dX2_add_62 (fun H locs hP hD hS => ?_)
    have hP : va_P D vwCl [(q0, .inr (1, [.int (nI lm), .ref q1, .int (nI (sz + 1))])), (q1, .inl (E 0, ln, .inl (upd (upd (upd (upd cs (sz * 4) va) ((sz * 4) + 1) vb) ((sz * 4) + 2) vc) ((sz * 4) + 3) vd)))] H := hP
    have hD : va_D A [(q0, .inr (1, [.int (nI lm), .ref q1, .int (nI (sz + 1))])), (q1, .inl (E 0, ln, .inl (upd (upd (upd (upd cs (sz * 4) va) ((sz * 4) + 1) vb) ((sz * 4) + 2) vc) ((sz * 4) + 3) vd)))] := hD
    subst hQ; subst hAe
    exact W.vret hx hb hr (fun tz htz hWz => ⟨⟨(), rfl, trivial, by rw [htz]; exact hP, hD⟩, hS.F htz⟩) hS.2.2 dX2_add_65
  · skip
    exact absurd cn_3 (by decide)

set_option maxHeartbeats 4000000 in
set_option maxRecDepth 100000 in
theorem c_X2_at (l : Launch) (D : va_G) (E : Nat → ClassId) (q0 : Nat) (q1 : Nat) (lm : Nat) (ln : Nat) (sz : Nat) (cs : Nat → Int32) (row : Nat) (col : Nat) (hlm : lm ≤ 12) (hln : lm * 4 ≤ ln ∧ ln ≤ 48) (hsz : sz ≤ lm) (hrow : row < sz) (hcol : col < 4) : Met l yX2_at wsX2_at ({ frames := 0, cells := 0, slots := 0, locals := 0 }) (zr_P D E [.ref q0, .int (nI row), .int (nI col)] [(q0, .inr (1, [.int (nI lm), .ref q1, .int (nI sz)])), (q1, .inl (E 0, ln, .inl cs))]) (zr_Qi (fun zv => zv = cs (row * 4 + col))) 0 0 (fun _ => False) := by
  refine Met.ofW (cc := cX2_at) (maxL := 3) (ret := (some .int)) (by decide) rfl ?_
  intro p e s m args below meth c s₁ Bz hml hv
  obtain ⟨rfl, hP, hK⟩ := hv
  have hx := Bz.exec
  have hb := Bz.bytes
  have hr := Bz.returns
  have hts := atoms_spec (ws := wsX2_at) Bz.pre
  have hown : s.vm.findClass RX2 = some m.cls := findClass_of_methodNamed Bz.named
  have hlocks := Bz.notSynchronized
  have hP : va_P D vwCl [(q0, .inr (1, [.int (nI lm), .ref q1, .int (nI sz)])), (q1, .inl (E 0, ln, .inl cs))] s.heap := hP
  have hS : va_S (fun _ : Nat => False) s.heap s.heap [] := va_S.rf
  have hl := lv_entry ([.ref q0, .int (nI row), .int (nI col)]) (n := 3) (Nat.le_of_ble_eq_true rfl)
  rw [lg_entry_eq]
  generalize (lg_sl ([.ref q0, .int (nI row), .int (nI col)]) ++ List.replicate (3 - (lg_sl ([.ref q0, .int (nI row), .int (nI col)])).length) Slot.unset).toArray = ls at hl ⊢
  have hl : lv_has ls 3 [(0, .ref q0), (1, .int (nI row)), (2, .int (nI col))] := hl
  refine zr_nQ (fun Q hQ => ?_)
  refine lv_iload_n hx hb dX2_at_0 rfl (lv_at hl 1 rfl) ?_
  refine lv_if_lt (tgt := 21) hx hb dX2_at_1 (by decide) (fun cn_1 => ?_) (fun cn_1 => ?_)
  · skip
    have cn_1 : row < 0 := (nI_ltI (a := row) (b := 0) (by omega) (by omega)).mp cn_1
    exfalso; omega
  · skip
    have cn_1 : ¬ (row < 0) := fun hz => cn_1 ((nI_ltI (a := row) (b := 0) (by omega) (by omega)).mpr hz)
    refine lv_iload_n hx hb dX2_at_4 rfl (lv_at hl 1 rfl) ?_
    refine lv_aload_n hx hb dX2_at_5 rfl (lv_at hl 0 rfl) ?_
    refine va_get (D := D) (ci := 1) (v := .int (nI sz)) (C := RX2) (T := TX2) (N := 3) hx hb hts (by decide +kernel) hown hK.1 hP 0 rfl rfl 2 (by decide) (hts (.fieldLink RX2 25 "HomeRounds$Rows" "size" "I") (by decide +kernel)) (fun _ h9 => h9) rfl dX2_at_6 ?_
    refine lv_icmp_ge (tgt := 21) hx hb dX2_at_9 (by decide) (fun cn_2 => ?_) (fun cn_2 => ?_)
    · skip
      have cn_2 : sz ≤ row := (nI_leI (a := sz) (b := row) (by omega) (by omega)).mp cn_2
      exfalso; omega
    · skip
      have cn_2 : ¬ (sz ≤ row) := fun hz => cn_2 ((nI_leI (a := sz) (b := row) (by omega) (by omega)).mpr hz)
      refine lv_iload_n hx hb dX2_at_12 rfl (lv_at hl 2 rfl) ?_
      refine lv_if_lt (tgt := 21) hx hb dX2_at_13 (by decide) (fun cn_3 => ?_) (fun cn_3 => ?_)
      · skip
        have cn_3 : col < 0 := (nI_ltI (a := col) (b := 0) (by omega) (by omega)).mp cn_3
        exfalso; omega
      · skip
        have cn_3 : ¬ (col < 0) := fun hz => cn_3 ((nI_ltI (a := col) (b := 0) (by omega) (by omega)).mpr hz)
        refine lv_iload_n hx hb dX2_at_16 rfl (lv_at hl 2 rfl) ?_
        refine lv_iconst (v := nI 4) hx hb dX2_at_17 (by rfl) ?_
        refine lv_icmp_lt (tgt := 23) hx hb dX2_at_18 (by decide) (fun cn_4 => ?_) (fun cn_4 => ?_)
        · skip
          have cn_4 : col < 4 := (nI_ltI (a := col) (b := 4) (by omega) (by omega)).mp cn_4
          refine lv_aload_n hx hb dX2_at_23 rfl (lv_at hl 0 rfl) ?_
          refine va_get (D := D) (ci := 1) (v := .ref q1) (C := RX2) (T := TX2) (N := 3) hx hb hts (by decide +kernel) hown hK.1 hP 0 rfl rfl 1 (by decide) (hts (.fieldLink RX2 11 "HomeRounds$Rows" "cells" "[I") (by decide +kernel)) (fun _ h9 => h9) rfl dX2_at_24 ?_
          refine lv_iload_n hx hb dX2_at_27 rfl (lv_at hl 1 rfl) ?_
          refine lv_iconst (v := nI 4) hx hb dX2_at_28 (by rfl) ?_
          refine lv_imul hx hb dX2_at_29 ?_
          refine zr_ti (y := nI (row * 4)) (pk_mul _ _) ?_
          refine lv_iload_n hx hb dX2_at_30 rfl (lv_at hl 2 rfl) ?_
          refine lv_iadd hx hb dX2_at_31 ?_
          refine zr_ti (y := nI ((row * 4) + col)) (nI_add _ _) ?_
          refine va_iald hx hb hK.1 hP 1 0 rfl rfl (vp_in_nI (by omega) (by omega)) dX2_at_32 ?_
          refine zr_ti (y := cs ((row * 4) + col)) ((congrArg cs (nI_clamp (by omega))).trans (rfl)) ?_
          subst hQ
          exact W.iret (v := cs ((row * 4) + col)) hx hb hr (fun tz htz hWz => ⟨⟨cs ((row * 4) + col), (), rfl, rfl, trivial⟩, hS.F htz⟩) hS.2.2 dX2_at_33
        · skip
          have cn_4 : ¬ (col < 4) := fun hz => cn_4 ((nI_ltI (a := col) (b := 4) (by omega) (by omega)).mpr hz)
          exfalso; omega

set_option maxHeartbeats 4000000 in
set_option maxRecDepth 100000 in
theorem c_X2_become (l : Launch) (D : va_G) (E : Nat → ClassId) (q0 : Nat) (q1 : Nat) (lm : Nat) (ln : Nat) (sz : Nat) (cs : Nat → Int32) (o0 : Nat) (o1 : Nat) (oz : Nat) (oc : Nat → Int32) (hlm : lm ≤ 12) (hln : lm * 4 ≤ ln ∧ ln ≤ 48) (hoz : oz ≤ lm) : Met l yX2_become wsX2_become ({ frames := 1, cells := 0, slots := 0, locals := 60 }) (zw_P D E [.ref q0, .ref o0] [(q0, .inr (1, [.int (nI lm), .ref q1, .int (nI sz)])), (q1, .inl (E 0, ln, .inl cs)), (o0, .inr (1, [.int (nI lm), .ref o1, .int (nI oz)])), (o1, .inl (E 0, ln, .inl oc))]) (zw_Qv D [(q0, .inr (1, [.int (nI lm), .ref q1, .int (nI sz)])), (q1, .inl (E 0, ln, .inl cs)), (o0, .inr (1, [.int (nI lm), .ref o1, .int (nI oz)])), (o1, .inl (E 0, ln, .inl oc))] (fun (u : (Nat → Int32)) => ∀ j, j < ln → u j = oc j) (fun (u : (Nat → Int32)) => [(q0, .inr (1, [.int (nI lm), .ref q1, .int (nI oz)])), (q1, .inl (E 0, ln, .inl u)), (o0, .inr (1, [.int (nI lm), .ref o1, .int (nI oz)])), (o1, .inl (E 0, ln, .inl oc))])) 0 0 (zw_A [(q0, .inr (1, [.int (nI lm), .ref q1, .int (nI sz)])), (q1, .inl (E 0, ln, .inl cs)), (o0, .inr (1, [.int (nI lm), .ref o1, .int (nI oz)])), (o1, .inl (E 0, ln, .inl oc))]) := by
  refine Met.ofW (cc := cX2_become) (maxL := 2) (ret := none) (by decide) rfl ?_
  intro p e s m args below meth c s₁ Bz hml hv
  obtain ⟨rfl, hP, hK, hD0⟩ := hv
  have hx := Bz.exec
  have hb := Bz.bytes
  have hr := Bz.returns
  have hts := atoms_spec (ws := wsX2_become) Bz.pre
  have hown : s.vm.findClass RX2 = some m.cls := findClass_of_methodNamed Bz.named
  have hlocks := Bz.notSynchronized
  have hP : va_P D vwCl [(q0, .inr (1, [.int (nI lm), .ref q1, .int (nI sz)])), (q1, .inl (E 0, ln, .inl cs)), (o0, .inr (1, [.int (nI lm), .ref o1, .int (nI oz)])), (o1, .inl (E 0, ln, .inl oc))] s.heap := hP
  obtain ⟨A, hAe⟩ : ∃ A : Nat → Prop, A = zw_A [(q0, .inr (1, [.int (nI lm), .ref q1, .int (nI sz)])), (q1, .inl (E 0, ln, .inl cs)), (o0, .inr (1, [.int (nI lm), .ref o1, .int (nI oz)])), (o1, .inl (E 0, ln, .inl oc))] := ⟨_, rfl⟩
  have hD : va_D A [(q0, .inr (1, [.int (nI lm), .ref q1, .int (nI sz)])), (q1, .inl (E 0, ln, .inl cs)), (o0, .inr (1, [.int (nI lm), .ref o1, .int (nI oz)])), (o1, .inl (E 0, ln, .inl oc))] := hAe ▸ zw_own hD0
  have hS : va_S A s.heap s.heap [] := va_S.rf
  have hl := lv_entry ([.ref q0, .ref o0]) (n := 2) (Nat.le_of_ble_eq_true rfl)
  rw [lg_entry_eq]
  generalize (lg_sl ([.ref q0, .ref o0]) ++ List.replicate (2 - (lg_sl ([.ref q0, .ref o0])).length) Slot.unset).toArray = ls at hl ⊢
  have hl : lv_has ls 2 [(0, .ref q0), (1, .ref o0)] := hl
  refine zr_nQ (fun Q hQ => ?_)
  refine lv_aload_n hx hb dX2_become_0 rfl (lv_at hl 0 rfl) ?_
  refine lv_aload_n hx hb dX2_become_1 rfl (lv_at hl 1 rfl) ?_
  refine va_get (D := D) (ci := 1) (v := .int (nI oz)) (C := RX2) (T := TX2) (N := 3) hx hb hts (by decide +kernel) hown hK.1 hP 2 rfl rfl 2 (by decide) (hts (.fieldLink RX2 25 "HomeRounds$Rows" "size" "I") (by decide +kernel)) (fun _ h9 => h9) rfl dX2_become_2 ?_
  refine lv_aload_n hx hb dX2_become_5 rfl (lv_at hl 0 rfl) ?_
  refine va_get (D := D) (ci := 1) (v := .int (nI lm)) (C := RX2) (T := TX2) (N := 3) hx hb hts (by decide +kernel) hown hK.1 hP 0 rfl rfl 0 (by decide) (hts (.fieldLink RX2 21 "HomeRounds$Rows" "limit" "I") (by decide +kernel)) (fun _ h9 => h9) rfl dX2_become_6 ?_
  refine va_mmin hx hb (hml.trans hl.1.symm) hown (hts (.methodLink RX2 15 Lib.Math.min.name) (by decide +kernel)) (hts (.static Lib.Math.min.name) (by decide +kernel)) (hts (.initialized "java/lang/Math") (by decide +kernel)) (hts (.code Lib.Math.min.name Lib.Math.min.code 2 (some .int)) (by decide +kernel)) (Nat.le_of_ble_eq_true rfl) (Nat.le_of_ble_eq_true rfl) (Nat.zero_le _) (Nat.zero_le _) dX2_become_9 ?_
  refine zr_ti (y := nI oz) (if_neg (fun hz9 => absurd ((nI_ltI (a := lm) (b := oz) (by omega) (by omega)).mp hz9) (by omega))) ?_
  refine va_put (D := D) (ci := 1) (v := .int (nI oz)) (ty := .int) (C := RX2) (T := TX2) (N := 3) hx hb hts (by decide +kernel) tyX2 tyX2_ok nmX2 hown hK.1 hP hD hS 0 rfl rfl 2 (by decide) (hts (.fieldLink RX2 25 "HomeRounds$Rows" "size" "I") (by decide +kernel)) (fun _ h9 => h9) rfl (by decide +kernel) rfl rfl (Nat.le_of_ble_eq_true rfl) dX2_become_12 (fun H locs hP hD hS => ?_)
  have hP : va_P D vwCl [(q0, .inr (1, [.int (nI lm), .ref q1, .int (nI oz)])), (q1, .inl (E 0, ln, .inl cs)), (o0, .inr (1, [.int (nI lm), .ref o1, .int (nI oz)])), (o1, .inl (E 0, ln, .inl oc))] H := hP
  have hD : va_D A [(q0, .inr (1, [.int (nI lm), .ref q1, .int (nI oz)])), (q1, .inl (E 0, ln, .inl cs)), (o0, .inr (1, [.int (nI lm), .ref o1, .int (nI oz)])), (o1, .inl (E 0, ln, .inl oc))] := hD
  refine lv_aload_n hx hb dX2_become_15 rfl (lv_at hl 1 rfl) ?_
  refine va_get (D := D) (ci := 1) (v := .ref o1) (C := RX2) (T := TX2) (N := 3) hx hb hts (by decide +kernel) hown hK.1 hP 2 rfl rfl 1 (by decide) (hts (.fieldLink RX2 11 "HomeRounds$Rows" "cells" "[I") (by decide +kernel)) (fun _ h9 => h9) rfl dX2_become_16 ?_
  refine lv_iconst (v := nI 0) hx hb dX2_become_19 (by rfl) ?_
  refine lv_aload_n hx hb dX2_become_20 rfl (lv_at hl 0 rfl) ?_
  refine va_get (D := D) (ci := 1) (v := .ref q1) (C := RX2) (T := TX2) (N := 3) hx hb hts (by decide +kernel) hown hK.1 hP 0 rfl rfl 1 (by decide) (hts (.fieldLink RX2 11 "HomeRounds$Rows" "cells" "[I") (by decide +kernel)) (fun _ h9 => h9) rfl dX2_become_21 ?_
  refine lv_iconst (v := nI 0) hx hb dX2_become_24 (by rfl) ?_
  refine lv_aload_n hx hb dX2_become_25 rfl (lv_at hl 0 rfl) ?_
  refine va_get (D := D) (ci := 1) (v := .ref q1) (C := RX2) (T := TX2) (N := 3) hx hb hts (by decide +kernel) hown hK.1 hP 0 rfl rfl 1 (by decide) (hts (.fieldLink RX2 11 "HomeRounds$Rows" "cells" "[I") (by decide +kernel)) (fun _ h9 => h9) rfl dX2_become_26 ?_
  refine va_alen hx hb hK.1 hP 1 0 rfl rfl (v := nI ln) rfl dX2_become_29 ?_
  refine va_copyi hx hb (hml.trans hl.1.symm) hown (hts (.methodLink RX2 32 arraycopyName) (by decide +kernel)) (hts (.native arraycopyName) (by decide +kernel)) (hts (.static arraycopyName) (by decide +kernel)) (hts (.initialized "java/lang/System") (by decide +kernel)) hK.1 hP hD hS 3 1 0 0 rfl rfl rfl rfl rfl (by decide +kernel) (by decide +kernel) (nI_pos (by omega)) (by rw [nI_clamp (n := 0) (by omega), nI_clamp (n := ln) (by omega)]; omega) (by rw [nI_clamp (n := 0) (by omega), nI_clamp (n := ln) (by omega)]; omega) (fun _ _ => rfl) (Nat.le_of_ble_eq_true rfl) (by decide) dX2_become_30 (fun H locs hP hD hS => ?_)
  have hP : va_P D vwCl [(q0, .inr (1, [.int (nI lm), .ref q1, .int (nI oz)])), (q1, .inl (E 0, ln, .inl (va_cpy oc cs (nI 0).toNatClampNeg (nI 0).toNatClampNeg (nI ln).toNatClampNeg))), (o0, .inr (1, [.int (nI lm), .ref o1, .int (nI oz)])), (o1, .inl (E 0, ln, .inl oc))] H := hP
  have hD : va_D A [(q0, .inr (1, [.int (nI lm), .ref q1, .int (nI oz)])), (q1, .inl (E 0, ln, .inl (va_cpy oc cs (nI 0).toNatClampNeg (nI 0).toNatClampNeg (nI ln).toNatClampNeg))), (o0, .inr (1, [.int (nI lm), .ref o1, .int (nI oz)])), (o1, .inl (E 0, ln, .inl oc))] := hD
  subst hQ; subst hAe
  exact W.vret hx hb hr (fun tz htz hWz => ⟨⟨(va_cpy oc cs (nI 0).toNatClampNeg (nI 0).toNatClampNeg (nI ln).toNatClampNeg), rfl, fun j hj => zn_cpy (by omega) hj, by rw [htz]; exact hP, hD⟩, hS.F htz⟩) hS.2.2 dX2_become_33

set_option maxHeartbeats 4000000 in
set_option maxRecDepth 100000 in
theorem c_X4_holdsNothing (l : Launch) (D : va_G) (E : Nat → ClassId) (t0 : Nat) (t1 : Nat) (so : Int32) (tn : Nat) (it : Nat → Int64)  : Met l yX4_holdsNothing wsX4_holdsNothing ({ frames := 0, cells := 0, slots := 0, locals := 0 }) (zr_P D E [.ref t0] [(t0, .inr (3, [.ref t1, .int so, .int (nI tn)])), (t1, .inl (E 3, 60, .inr (.inl it)))]) (zr_Qi (fun zv => (zv = 1 ∧ (so = -1)) ∨ (zv = 0 ∧ (so ≠ -1)))) 0 0 (fun _ => False) := by
  refine Met.ofW (cc := cX4_holdsNothing) (maxL := 1) (ret := (some .boolean)) (by decide) rfl ?_
  intro p e s m args below meth c s₁ Bz hml hv
  obtain ⟨rfl, hP, hK⟩ := hv
  have hx := Bz.exec
  have hb := Bz.bytes
  have hr := Bz.returns
  have hts := atoms_spec (ws := wsX4_holdsNothing) Bz.pre
  have hown : s.vm.findClass RX4 = some m.cls := findClass_of_methodNamed Bz.named
  have hlocks := Bz.notSynchronized
  have hP : va_P D vwCl [(t0, .inr (3, [.ref t1, .int so, .int (nI tn)])), (t1, .inl (E 3, 60, .inr (.inl it)))] s.heap := hP
  have hS : va_S (fun _ : Nat => False) s.heap s.heap [] := va_S.rf
  have hl := lv_entry ([.ref t0]) (n := 1) (Nat.le_of_ble_eq_true rfl)
  rw [lg_entry_eq]
  generalize (lg_sl ([.ref t0]) ++ List.replicate (1 - (lg_sl ([.ref t0])).length) Slot.unset).toArray = ls at hl ⊢
  have hl : lv_has ls 1 [(0, .ref t0)] := hl
  refine zr_nQ (fun Q hQ => ?_)
  refine lv_aload_n hx hb dX4_holdsNothing_0 rfl (lv_at hl 0 rfl) ?_
  refine va_get (D := D) (ci := 3) (v := .int so) (C := RX4) (T := TX4) (N := 3) hx hb hts (by decide +kernel) hown hK.1 hP 0 rfl rfl 1 (by decide) (hts (.fieldLink RX4 15 "HomeRounds$Tape" "sort" "I") (by decide +kernel)) (fun _ h9 => h9) rfl dX4_holdsNothing_1 ?_
  refine lv_iconst (v := (-1)) hx hb dX4_holdsNothing_4 (by rfl) ?_
  refine lv_icmp_ne (tgt := 12) hx hb dX4_holdsNothing_5 (by decide) (fun cn_1 => ?_) (fun cn_1 => ?_)
  · skip
    have h1 := cn_1
    refine lv_iconst (v := nI 0) hx hb dX4_holdsNothing_12 (by rfl) ?_
    subst hQ
    exact W.zret (v := nI 0) hx hb hr (by decide) (fun tz htz hWz => ⟨⟨nI 0, (), rfl, by first | exact Or.inl ⟨rfl, h1⟩ | exact Or.inr ⟨rfl, h1⟩, trivial⟩, hS.F htz⟩) hS.2.2 dX4_holdsNothing_13
  · skip
    have h1 := cn_1
    refine lv_iconst (v := nI 1) hx hb dX4_holdsNothing_8 (by rfl) ?_
    refine lv_goto (tgt := 13) hx hb dX4_holdsNothing_9 (by decide) ?_
    subst hQ
    exact W.zret (v := nI 1) hx hb hr (by decide) (fun tz htz hWz => ⟨⟨nI 1, (), rfl, by first | exact Or.inl ⟨rfl, h1⟩ | exact Or.inr ⟨rfl, h1⟩, trivial⟩, hS.F htz⟩) hS.2.2 dX4_holdsNothing_13

set_option maxHeartbeats 4000000 in
set_option maxRecDepth 100000 in
theorem c_X4_has (l : Launch) (D : va_G) (E : Nat → ClassId) (t0 : Nat) (t1 : Nat) (so : Int32) (tn : Nat) (it : Nat → Int64) (v : Int32) (htn : tn ≤ 60) : Met l yX4_has wsX4_has ({ frames := 0, cells := 0, slots := 0, locals := 0 }) (zr_P D E [.ref t0, .int v] [(t0, .inr (3, [.ref t1, .int so, .int (nI tn)])), (t1, .inl (E 3, 60, .inr (.inl it)))]) (zr_Qi (fun zv => (zv = 1 ∧ (∃ t : Nat, t < tn ∧ v = nI t)) ∨ (zv = 0 ∧ (∀ t : Nat, t < tn → v ≠ nI t)))) 0 0 (fun _ => False) := by
  refine Met.ofW (cc := cX4_has) (maxL := 2) (ret := (some .boolean)) (by decide) rfl ?_
  intro p e s m args below meth c s₁ Bz hml hv
  obtain ⟨rfl, hP, hK⟩ := hv
  have hx := Bz.exec
  have hb := Bz.bytes
  have hr := Bz.returns
  have hts := atoms_spec (ws := wsX4_has) Bz.pre
  have hown : s.vm.findClass RX4 = some m.cls := findClass_of_methodNamed Bz.named
  have hlocks := Bz.notSynchronized
  have hP : va_P D vwCl [(t0, .inr (3, [.ref t1, .int so, .int (nI tn)])), (t1, .inl (E 3, 60, .inr (.inl it)))] s.heap := hP
  have hS : va_S (fun _ : Nat => False) s.heap s.heap [] := va_S.rf
  have hl := lv_entry ([.ref t0, .int v]) (n := 2) (Nat.le_of_ble_eq_true rfl)
  rw [lg_entry_eq]
  generalize (lg_sl ([.ref t0, .int v]) ++ List.replicate (2 - (lg_sl ([.ref t0, .int v])).length) Slot.unset).toArray = ls at hl ⊢
  have hl : lv_has ls 2 [(0, .ref t0), (1, .int v)] := hl
  refine zr_nQ (fun Q hQ => ?_)
  refine lv_iload_n hx hb dX4_has_0 rfl (lv_at hl 1 rfl) ?_
  refine lv_if_lt (tgt := 16) hx hb dX4_has_1 (by decide) (fun cn_1 => ?_) (fun cn_1 => ?_)
  · skip
    have hno := zn_lo (n := tn) cn_1 (by omega)
    refine lv_iconst (v := nI 0) hx hb dX4_has_16 (by rfl) ?_
    subst hQ
    exact W.zret (v := nI 0) hx hb hr (by decide) (fun tz htz hWz => ⟨⟨nI 0, (), rfl, Or.inr ⟨rfl, hno⟩, trivial⟩, hS.F htz⟩) hS.2.2 dX4_has_17
  · skip
    have hge := cn_1
    refine lv_iload_n hx hb dX4_has_4 rfl (lv_at hl 1 rfl) ?_
    refine lv_aload_n hx hb dX4_has_5 rfl (lv_at hl 0 rfl) ?_
    refine va_get (D := D) (ci := 3) (v := .int (nI tn)) (C := RX4) (T := TX4) (N := 3) hx hb hts (by decide +kernel) hown hK.1 hP 0 rfl rfl 2 (by decide) (hts (.fieldLink RX4 19 "HomeRounds$Tape" "length" "I") (by decide +kernel)) (fun _ h9 => h9) rfl dX4_has_6 ?_
    refine lv_icmp_ge (tgt := 16) hx hb dX4_has_9 (by decide) (fun cn_2 => ?_) (fun cn_2 => ?_)
    · skip
      have hno := zn_hi cn_2 (by omega)
      refine lv_iconst (v := nI 0) hx hb dX4_has_16 (by rfl) ?_
      subst hQ
      exact W.zret (v := nI 0) hx hb hr (by decide) (fun tz htz hWz => ⟨⟨nI 0, (), rfl, Or.inr ⟨rfl, hno⟩, trivial⟩, hS.F htz⟩) hS.2.2 dX4_has_17
    · skip
      have hye := zn_in hge cn_2 (by omega)
      refine lv_iconst (v := nI 1) hx hb dX4_has_12 (by rfl) ?_
      refine lv_goto (tgt := 17) hx hb dX4_has_13 (by decide) ?_
      subst hQ
      exact W.zret (v := nI 1) hx hb hr (by decide) (fun tz htz hWz => ⟨⟨nI 1, (), rfl, Or.inl ⟨rfl, hye⟩, trivial⟩, hS.F htz⟩) hS.2.2 dX4_has_17

set_option maxHeartbeats 4000000 in
set_option maxRecDepth 100000 in
theorem c_X4_hasRun (l : Launch) (D : va_G) (E : Nat → ClassId) (t0 : Nat) (t1 : Nat) (so : Int32) (tn : Nat) (it : Nat → Int64) (v : Int32) (w : Int32) (htn : tn ≤ 60) : Met l yX4_hasRun wsX4_hasRun ({ frames := 0, cells := 0, slots := 0, locals := 0 }) (zr_P D E [.ref t0, .int v, .int w] [(t0, .inr (3, [.ref t1, .int so, .int (nI tn)])), (t1, .inl (E 3, 60, .inr (.inl it)))]) (zr_Qi (fun zv => (zv = 1 ∧ (∃ a b : Nat, a + b ≤ tn ∧ v = nI a ∧ w = nI b)) ∨ (zv = 0 ∧ (∀ a b : Nat, a + b ≤ tn → v = nI a → w ≠ nI b)))) 0 0 (fun _ => False) := by
  refine Met.ofW (cc := cX4_hasRun) (maxL := 3) (ret := (some .boolean)) (by decide) rfl ?_
  intro p e s m args below meth c s₁ Bz hml hv
  obtain ⟨rfl, hP, hK⟩ := hv
  have hx := Bz.exec
  have hb := Bz.bytes
  have hr := Bz.returns
  have hts := atoms_spec (ws := wsX4_hasRun) Bz.pre
  have hown : s.vm.findClass RX4 = some m.cls := findClass_of_methodNamed Bz.named
  have hlocks := Bz.notSynchronized
  have hP : va_P D vwCl [(t0, .inr (3, [.ref t1, .int so, .int (nI tn)])), (t1, .inl (E 3, 60, .inr (.inl it)))] s.heap := hP
  have hS : va_S (fun _ : Nat => False) s.heap s.heap [] := va_S.rf
  have hl := lv_entry ([.ref t0, .int v, .int w]) (n := 3) (Nat.le_of_ble_eq_true rfl)
  rw [lg_entry_eq]
  generalize (lg_sl ([.ref t0, .int v, .int w]) ++ List.replicate (3 - (lg_sl ([.ref t0, .int v, .int w])).length) Slot.unset).toArray = ls at hl ⊢
  have hl : lv_has ls 3 [(0, .ref t0), (1, .int v), (2, .int w)] := hl
  refine zr_nQ (fun Q hQ => ?_)
  refine lv_iload_n hx hb dX4_hasRun_0 rfl (lv_at hl 2 rfl) ?_
  refine lv_if_lt (tgt := 30) hx hb dX4_hasRun_1 (by decide) (fun cn_1 => ?_) (fun cn_1 => ?_)
  · skip
    have hf := zn_run_f (v := v) (n := tn) (by omega) (Or.inl cn_1)
    refine lv_iconst (v := nI 0) hx hb dX4_hasRun_30 (by rfl) ?_
    subst hQ
    exact W.zret (v := nI 0) hx hb hr (by decide) (fun tz htz hWz => ⟨⟨nI 0, (), rfl, Or.inr ⟨rfl, hf⟩, trivial⟩, hS.F htz⟩) hS.2.2 dX4_hasRun_31
  · skip
    have h1 := cn_1
    refine lv_iload_n hx hb dX4_hasRun_4 rfl (lv_at hl 1 rfl) ?_
    refine lv_if_lt (tgt := 30) hx hb dX4_hasRun_5 (by decide) (fun cn_2 => ?_) (fun cn_2 => ?_)
    · skip
      have hf := zn_run_f (w := w) (n := tn) (by omega) (Or.inr (Or.inl cn_2))
      refine lv_iconst (v := nI 0) hx hb dX4_hasRun_30 (by rfl) ?_
      subst hQ
      exact W.zret (v := nI 0) hx hb hr (by decide) (fun tz htz hWz => ⟨⟨nI 0, (), rfl, Or.inr ⟨rfl, hf⟩, trivial⟩, hS.F htz⟩) hS.2.2 dX4_hasRun_31
    · skip
      have h2 := cn_2
      refine lv_iload_n hx hb dX4_hasRun_8 rfl (lv_at hl 1 rfl) ?_
      refine lv_aload_n hx hb dX4_hasRun_9 rfl (lv_at hl 0 rfl) ?_
      refine va_get (D := D) (ci := 3) (v := .int (nI tn)) (C := RX4) (T := TX4) (N := 3) hx hb hts (by decide +kernel) hown hK.1 hP 0 rfl rfl 2 (by decide) (hts (.fieldLink RX4 19 "HomeRounds$Tape" "length" "I") (by decide +kernel)) (fun _ h9 => h9) rfl dX4_hasRun_10 ?_
      refine lv_icmp_gt (tgt := 30) hx hb dX4_hasRun_13 (by decide) (fun cn_3 => ?_) (fun cn_3 => ?_)
      · skip
        have hf := zn_run_f (w := w) (by omega) (Or.inr (Or.inr (Or.inl cn_3)))
        refine lv_iconst (v := nI 0) hx hb dX4_hasRun_30 (by rfl) ?_
        subst hQ
        exact W.zret (v := nI 0) hx hb hr (by decide) (fun tz htz hWz => ⟨⟨nI 0, (), rfl, Or.inr ⟨rfl, hf⟩, trivial⟩, hS.F htz⟩) hS.2.2 dX4_hasRun_31
      · skip
        have h3 := cn_3
        refine lv_iload_n hx hb dX4_hasRun_16 rfl (lv_at hl 2 rfl) ?_
        refine lv_aload_n hx hb dX4_hasRun_17 rfl (lv_at hl 0 rfl) ?_
        refine va_get (D := D) (ci := 3) (v := .int (nI tn)) (C := RX4) (T := TX4) (N := 3) hx hb hts (by decide +kernel) hown hK.1 hP 0 rfl rfl 2 (by decide) (hts (.fieldLink RX4 19 "HomeRounds$Tape" "length" "I") (by decide +kernel)) (fun _ h9 => h9) rfl dX4_hasRun_18 ?_
        refine lv_iload_n hx hb dX4_hasRun_21 rfl (lv_at hl 1 rfl) ?_
        refine lv_isub hx hb dX4_hasRun_22 ?_
        refine lv_icmp_gt (tgt := 30) hx hb dX4_hasRun_23 (by decide) (fun cn_4 => ?_) (fun cn_4 => ?_)
        · skip
          have hf := zn_run_f (by omega) (Or.inr (Or.inr (Or.inr cn_4)))
          refine lv_iconst (v := nI 0) hx hb dX4_hasRun_30 (by rfl) ?_
          subst hQ
          exact W.zret (v := nI 0) hx hb hr (by decide) (fun tz htz hWz => ⟨⟨nI 0, (), rfl, Or.inr ⟨rfl, hf⟩, trivial⟩, hS.F htz⟩) hS.2.2 dX4_hasRun_31
        · skip
          have h4 := cn_4
          refine lv_iconst (v := nI 1) hx hb dX4_hasRun_26 (by rfl) ?_
          refine lv_goto (tgt := 31) hx hb dX4_hasRun_27 (by decide) ?_
          subst hQ
          exact W.zret (v := nI 1) hx hb hr (by decide) (fun tz htz hWz => ⟨⟨nI 1, (), rfl, Or.inl ⟨rfl, zn_run_t (by omega) h1 h2 h3 h4⟩, trivial⟩, hS.F htz⟩) hS.2.2 dX4_hasRun_31

set_option maxHeartbeats 4000000 in
set_option maxRecDepth 100000 in
theorem c_X4_become (l : Launch) (D : va_G) (E : Nat → ClassId) (t0 : Nat) (t1 : Nat) (so : Int32) (tn : Nat) (it : Nat → Int64) (sv : Int32) (nn : Nat)  : Met l yX4_become wsX4_become ({ frames := 1, cells := 0, slots := 0, locals := 24 }) (zw_P D E [.ref t0, .int sv, .int (nI nn)] [(t0, .inr (3, [.ref t1, .int so, .int (nI tn)])), (t1, .inl (E 3, 60, .inr (.inl it)))]) (zw_Qv D [(t0, .inr (3, [.ref t1, .int so, .int (nI tn)])), (t1, .inl (E 3, 60, .inr (.inl it)))] (fun (u : (Nat → Int64)) => ∀ j, j < 60 → u j = lN 0) (fun (u : (Nat → Int64)) => [(t0, .inr (3, [.ref t1, .int sv, .int (nI nn)])), (t1, .inl (E 3, 60, .inr (.inl u)))])) 0 0 (zw_A [(t0, .inr (3, [.ref t1, .int so, .int (nI tn)])), (t1, .inl (E 3, 60, .inr (.inl it)))]) := by
  refine Met.ofW (cc := cX4_become) (maxL := 3) (ret := none) (by decide) rfl ?_
  intro p e s m args below meth c s₁ Bz hml hv
  obtain ⟨rfl, hP, hK, hD0⟩ := hv
  have hx := Bz.exec
  have hb := Bz.bytes
  have hr := Bz.returns
  have hts := atoms_spec (ws := wsX4_become) Bz.pre
  have hown : s.vm.findClass RX4 = some m.cls := findClass_of_methodNamed Bz.named
  have hlocks := Bz.notSynchronized
  have hP : va_P D vwCl [(t0, .inr (3, [.ref t1, .int so, .int (nI tn)])), (t1, .inl (E 3, 60, .inr (.inl it)))] s.heap := hP
  obtain ⟨A, hAe⟩ : ∃ A : Nat → Prop, A = zw_A [(t0, .inr (3, [.ref t1, .int so, .int (nI tn)])), (t1, .inl (E 3, 60, .inr (.inl it)))] := ⟨_, rfl⟩
  have hD : va_D A [(t0, .inr (3, [.ref t1, .int so, .int (nI tn)])), (t1, .inl (E 3, 60, .inr (.inl it)))] := hAe ▸ zw_own hD0
  have hS : va_S A s.heap s.heap [] := va_S.rf
  have hl := lv_entry ([.ref t0, .int sv, .int (nI nn)]) (n := 3) (Nat.le_of_ble_eq_true rfl)
  rw [lg_entry_eq]
  generalize (lg_sl ([.ref t0, .int sv, .int (nI nn)]) ++ List.replicate (3 - (lg_sl ([.ref t0, .int sv, .int (nI nn)])).length) Slot.unset).toArray = ls at hl ⊢
  have hl : lv_has ls 3 [(0, .ref t0), (1, .int sv), (2, .int (nI nn))] := hl
  refine zr_nQ (fun Q hQ => ?_)
  refine lv_aload_n hx hb dX4_become_0 rfl (lv_at hl 0 rfl) ?_
  refine lv_iload_n hx hb dX4_become_1 rfl (lv_at hl 1 rfl) ?_
  refine va_put (D := D) (ci := 3) (v := .int sv) (ty := .int) (C := RX4) (T := TX4) (N := 3) hx hb hts (by decide +kernel) tyX4 tyX4_ok nmX4 hown hK.1 hP hD hS 0 rfl rfl 1 (by decide) (hts (.fieldLink RX4 15 "HomeRounds$Tape" "sort" "I") (by decide +kernel)) (fun _ h9 => h9) rfl (by decide +kernel) rfl rfl (Nat.le_of_ble_eq_true rfl) dX4_become_2 (fun H locs hP hD hS => ?_)
  have hP : va_P D vwCl [(t0, .inr (3, [.ref t1, .int sv, .int (nI tn)])), (t1, .inl (E 3, 60, .inr (.inl it)))] H := hP
  have hD : va_D A [(t0, .inr (3, [.ref t1, .int sv, .int (nI tn)])), (t1, .inl (E 3, 60, .inr (.inl it)))] := hD
  refine lv_aload_n hx hb dX4_become_5 rfl (lv_at hl 0 rfl) ?_
  refine lv_iload_n hx hb dX4_become_6 rfl (lv_at hl 2 rfl) ?_
  refine va_put (D := D) (ci := 3) (v := .int (nI nn)) (ty := .int) (C := RX4) (T := TX4) (N := 3) hx hb hts (by decide +kernel) tyX4 tyX4_ok nmX4 hown hK.1 hP hD hS 0 rfl rfl 2 (by decide) (hts (.fieldLink RX4 19 "HomeRounds$Tape" "length" "I") (by decide +kernel)) (fun _ h9 => h9) rfl (by decide +kernel) rfl rfl (Nat.le_of_ble_eq_true rfl) dX4_become_7 (fun H locs hP hD hS => ?_)
  have hP : va_P D vwCl [(t0, .inr (3, [.ref t1, .int sv, .int (nI nn)])), (t1, .inl (E 3, 60, .inr (.inl it)))] H := hP
  have hD : va_D A [(t0, .inr (3, [.ref t1, .int sv, .int (nI nn)])), (t1, .inl (E 3, 60, .inr (.inl it)))] := hD
  refine lv_aload_n hx hb dX4_become_10 rfl (lv_at hl 0 rfl) ?_
  refine va_get (D := D) (ci := 3) (v := .ref t1) (C := RX4) (T := TX4) (N := 3) hx hb hts (by decide +kernel) hown hK.1 hP 0 rfl rfl 0 (by decide) (hts (.fieldLink RX4 9 "HomeRounds$Tape" "items" "[J") (by decide +kernel)) (fun _ h9 => h9) rfl dX4_become_11 ?_
  refine lv_lconst (v := lN 0) hx hb dX4_become_14 (by rfl) ?_
  have hPc := hP.sub (ws' := [(t1, .inl (E 3, 60, .inr (.inl it)))]) [1] rfl
  have hDc := hD.sub (ws' := [(t1, .inl (E 3, 60, .inr (.inl it)))]) [1] (by decide +kernel) rfl
  have hAc := zw_AA (wc := [(t1, .inl (E 3, 60, .inr (.inl it)))]) hD [1] rfl
  refine zw_cv hAc hS (va_runS (As := [.ref t1, .long (lN 0)]) (rest := []) ⟨hx, hb, hml, hown, hts⟩ (c_J7_fill_d0a16 l D E t1 60 it (lN 0) (by omega)) (va_cwS 2 hts gX4_become_J7_fill_d0a16 rfl rfl rfl (by decide +kernel) ⟨Nat.le_of_ble_eq_true rfl, Nat.le_of_ble_eq_true rfl⟩) (zw_S hK hPc hDc) rfl rfl hl.1 rfl (lv_room (Nat.le_of_ble_eq_true rfl)) dX4_become_15 ⟨Nat.zero_le _, Nat.zero_le _⟩) (fun u_3 H locs hw_2 hP1 hD1 hk1 hS => ?_)
  obtain ⟨ff_4, rfl⟩ : ∃ z, z = u_3 := ⟨_, rfl⟩
  try dsimp only at hw_2 hP1 hD1
  obtain ⟨hP, hD⟩ := zw_join (wr := [(t0, .inr (3, [.ref t1, .int sv, .int (nI nn)]))]) (w1 := [(t1, .inl (E 3, 60, .inr (.inl ff_4)))]) (ws' := [(t0, .inr (3, [.ref t1, .int sv, .int (nI nn)])), (t1, .inl (E 3, 60, .inr (.inl ff_4)))]) hP hD [1] [0] [0, 1] rfl rfl (by decide +kernel) (by decide +kernel) hAc hk1 hP1 hD1 (by decide +kernel) rfl
  clear hP1 hD1 hk1 hPc hDc hAc
  have hfill := hw_2
  subst hQ; subst hAe
  exact W.vret hx hb hr (fun tz htz hWz => ⟨⟨ff_4, rfl, hfill, by rw [htz]; exact hP, hD⟩, hS.F htz⟩) hS.2.2 dX4_become_18

set_option maxHeartbeats 4000000 in
set_option maxRecDepth 100000 in
theorem c_X4_cut (l : Launch) (D : va_G) (E : Nat → ClassId) (t0 : Nat) (t1 : Nat) (so : Int32) (tn : Nat) (it : Nat → Int64) (k : Nat) (v : Int64) (hk5 : k < 5) (hso : so = nI k) : Met l yX4_cut wsX4_cut ({ frames := 0, cells := 0, slots := 0, locals := 0 }) (zr_P D E [.ref t0, .long v] [(t0, .inr (3, [.ref t1, .int so, .int (nI tn)])), (t1, .inl (E 3, 60, .inr (.inl it)))]) (zr_Ql (fun zv => zv = zt_cut k v)) 0 0 (fun _ => False) := by
  refine Met.ofW (cc := cX4_cut) (maxL := 3) (ret := (some .long)) (by decide) rfl ?_
  intro p e s m args below meth c s₁ Bz hml hv
  obtain ⟨rfl, hP, hK⟩ := hv
  have hx := Bz.exec
  have hb := Bz.bytes
  have hr := Bz.returns
  have hts := atoms_spec (ws := wsX4_cut) Bz.pre
  have hown : s.vm.findClass RX4 = some m.cls := findClass_of_methodNamed Bz.named
  have hlocks := Bz.notSynchronized
  have hP : va_P D vwCl [(t0, .inr (3, [.ref t1, .int so, .int (nI tn)])), (t1, .inl (E 3, 60, .inr (.inl it)))] s.heap := hP
  have hS : va_S (fun _ : Nat => False) s.heap s.heap [] := va_S.rf
  have hl := lv_entry ([.ref t0, .long v]) (n := 3) (Nat.le_of_ble_eq_true rfl)
  rw [lg_entry_eq]
  generalize (lg_sl ([.ref t0, .long v]) ++ List.replicate (3 - (lg_sl ([.ref t0, .long v])).length) Slot.unset).toArray = ls at hl ⊢
  have hl : lv_has ls 3 [(0, .ref t0), (1, .long v)] := hl
  refine zr_nQ (fun Q hQ => ?_)
  refine lv_aload_n hx hb dX4_cut_0 rfl (lv_at hl 0 rfl) ?_
  refine va_get (D := D) (ci := 3) (v := .int so) (C := RX4) (T := TX4) (N := 3) hx hb hts (by decide +kernel) hown hK.1 hP 0 rfl rfl 1 (by decide) (hts (.fieldLink RX4 15 "HomeRounds$Tape" "sort" "I") (by decide +kernel)) (fun _ h9 => h9) rfl dX4_cut_1 ?_
  refine zr_ti (y := nI k) hso ?_
  have hsw : k = 0 ∨ k = 1 ∨ k = 2 ∨ k = 3 ∨ k = 4 := by omega
  rcases hsw with hsw | hsw | hsw | hsw | hsw
  · skip
    refine zr_ti (y := nI 0) (by rw [hsw]) ?_
    refine lv_tableIn (x := nI 0) (off := 36) (tgt := 40) hx hb dX4_cut_4 (by decide +kernel) (by decide +kernel) (by decide +kernel) (by decide) ?_
    refine lv_lload_n hx hb dX4_cut_40 rfl (lv_at hl 1 rfl) ?_
    refine lv_l2i (v := (v).toInt32) hx hb dX4_cut_41 (rfl) ?_
    refine lv_i2b (v := ((v).toInt32).toInt8.toInt32) hx hb dX4_cut_42 (rfl) ?_
    refine lv_i2l (v := (((v).toInt32).toInt8.toInt32).toInt64) hx hb dX4_cut_43 (rfl) ?_
    subst hQ
    exact W.lret (v := (((v).toInt32).toInt8.toInt32).toInt64) hx hb hr (fun tz htz hWz => ⟨⟨(((v).toInt32).toInt8.toInt32).toInt64, (), rfl, by subst hsw; unfold zt_cut; first | rfl | (simp; done) | (simp [hbr]; done) | (rw [if_neg (by decide), if_neg (by decide), if_neg (by decide), if_neg (by decide), if_pos hbr]) | (rw [if_neg (by decide), if_neg (by decide), if_neg (by decide), if_neg (by decide), if_neg hbr]), trivial⟩, hS.F htz⟩) hS.2.2 dX4_cut_44
  · skip
    refine zr_ti (y := nI 1) (by rw [hsw]) ?_
    refine lv_tableIn (x := nI 1) (off := 41) (tgt := 45) hx hb dX4_cut_4 (by decide +kernel) (by decide +kernel) (by decide +kernel) (by decide) ?_
    refine lv_lload_n hx hb dX4_cut_45 rfl (lv_at hl 1 rfl) ?_
    refine lv_l2i (v := (v).toInt32) hx hb dX4_cut_46 (rfl) ?_
    refine lv_i2s (v := ((v).toInt32).toInt16.toInt32) hx hb dX4_cut_47 (rfl) ?_
    refine lv_i2l (v := (((v).toInt32).toInt16.toInt32).toInt64) hx hb dX4_cut_48 (rfl) ?_
    subst hQ
    exact W.lret (v := (((v).toInt32).toInt16.toInt32).toInt64) hx hb hr (fun tz htz hWz => ⟨⟨(((v).toInt32).toInt16.toInt32).toInt64, (), rfl, by subst hsw; unfold zt_cut; first | rfl | (simp; done) | (simp [hbr]; done) | (rw [if_neg (by decide), if_neg (by decide), if_neg (by decide), if_neg (by decide), if_pos hbr]) | (rw [if_neg (by decide), if_neg (by decide), if_neg (by decide), if_neg (by decide), if_neg hbr]), trivial⟩, hS.F htz⟩) hS.2.2 dX4_cut_49
  · skip
    refine zr_ti (y := nI 2) (by rw [hsw]) ?_
    refine lv_tableIn (x := nI 2) (off := 46) (tgt := 50) hx hb dX4_cut_4 (by decide +kernel) (by decide +kernel) (by decide +kernel) (by decide) ?_
    refine lv_lload_n hx hb dX4_cut_50 rfl (lv_at hl 1 rfl) ?_
    refine lv_l2i (v := (v).toInt32) hx hb dX4_cut_51 (rfl) ?_
    refine lv_i2l (v := ((v).toInt32).toInt64) hx hb dX4_cut_52 (rfl) ?_
    subst hQ
    exact W.lret (v := ((v).toInt32).toInt64) hx hb hr (fun tz htz hWz => ⟨⟨((v).toInt32).toInt64, (), rfl, by subst hsw; unfold zt_cut; first | rfl | (simp; done) | (simp [hbr]; done) | (rw [if_neg (by decide), if_neg (by decide), if_neg (by decide), if_neg (by decide), if_pos hbr]) | (rw [if_neg (by decide), if_neg (by decide), if_neg (by decide), if_neg (by decide), if_neg hbr]), trivial⟩, hS.F htz⟩) hS.2.2 dX4_cut_53
  · skip
    refine zr_ti (y := nI 3) (by rw [hsw]) ?_
    refine lv_tableIn (x := nI 3) (off := 62) (tgt := 66) hx hb dX4_cut_4 (by decide +kernel) (by decide +kernel) (by decide +kernel) (by decide) ?_
    refine lv_lload_n hx hb dX4_cut_66 rfl (lv_at hl 1 rfl) ?_
    subst hQ
    exact W.lret (v := v) hx hb hr (fun tz htz hWz => ⟨⟨v, (), rfl, by subst hsw; unfold zt_cut; first | rfl | (simp; done) | (simp [hbr]; done) | (rw [if_neg (by decide), if_neg (by decide), if_neg (by decide), if_neg (by decide), if_pos hbr]) | (rw [if_neg (by decide), if_neg (by decide), if_neg (by decide), if_neg (by decide), if_neg hbr]), trivial⟩, hS.F htz⟩) hS.2.2 dX4_cut_67
  · skip
    refine zr_ti (y := nI 4) (by rw [hsw]) ?_
    refine lv_tableIn (x := nI 4) (off := 50) (tgt := 54) hx hb dX4_cut_4 (by decide +kernel) (by decide +kernel) (by decide +kernel) (by decide) ?_
    refine lv_lload_n hx hb dX4_cut_54 rfl (lv_at hl 1 rfl) ?_
    refine lv_lconst (v := lN 0) hx hb dX4_cut_55 (by rfl) ?_
    refine W.lcmp hx hb dX4_cut_56 ?_
    refine lv_topi (fun lc_1 elc_1 => ?_)
    have LC := elc_1
    refine lv_if_eq (tgt := 64) hx hb dX4_cut_57 (by decide) (fun cn_2 => ?_) (fun cn_2 => ?_)
    · skip
      have hbr := (lg_cmp_eq _ _).mp (elc_1 ▸ cn_2)
      refine lv_lconst (v := lN 0) hx hb dX4_cut_64 (by rfl) ?_
      subst hQ
      exact W.lret (v := lN 0) hx hb hr (fun tz htz hWz => ⟨⟨lN 0, (), rfl, by subst hsw; unfold zt_cut; first | rfl | (simp; done) | (simp [hbr]; done) | (rw [if_neg (by decide), if_neg (by decide), if_neg (by decide), if_neg (by decide), if_pos hbr]) | (rw [if_neg (by decide), if_neg (by decide), if_neg (by decide), if_neg (by decide), if_neg hbr]), trivial⟩, hS.F htz⟩) hS.2.2 dX4_cut_65
    · skip
      have hbr := fun hz => cn_2 (elc_1.trans ((lg_cmp_eq _ _).mpr hz))
      refine lv_lconst (v := lN 1) hx hb dX4_cut_60 (by rfl) ?_
      refine lv_goto (tgt := 65) hx hb dX4_cut_61 (by decide) ?_
      subst hQ
      exact W.lret (v := lN 1) hx hb hr (fun tz htz hWz => ⟨⟨lN 1, (), rfl, by subst hsw; unfold zt_cut; first | rfl | (simp; done) | (simp [hbr]; done) | (rw [if_neg (by decide), if_neg (by decide), if_neg (by decide), if_neg (by decide), if_pos hbr]) | (rw [if_neg (by decide), if_neg (by decide), if_neg (by decide), if_neg (by decide), if_neg hbr]), trivial⟩, hS.F htz⟩) hS.2.2 dX4_cut_65

