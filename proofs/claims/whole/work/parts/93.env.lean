/-! THE START'S OWN FACTS: the tables, and what stands ahead of the run -/
def zj_tm (i : Nat) : Term := ([.string "HomeRounds$Word" 55, .string "HomeRounds$Word" 63, .string "HomeRounds$Word" 68, .string "HomeRounds$Word" 71, .string "HomeRounds$Word" 74, .string "HomeRounds$Word" 77, .string "HomeRounds$Word" 82, .string "HomeRounds$Word" 85, .string "HomeRounds$Word" 57, .string "HomeRounds$Word" 65, .string "HomeRounds$Word" 79, .string "HomeRounds$Word" 87, .string "HomeRoundsModel" 115] : List Term).getD i (.string "HomeRoundsModel" 115)
def zj_wn (k : Nat) : Term := .static "HomeRounds$Word" ((["TEAMS", "SWAP", "TURN", "SWOP", "BAR", "RATE", "KIND", "AT"] : List String).getD k "AT") "LHomeRounds$Word;"
abbrev zj_fl : List Cond := flatC (Jvm.Cond.and given_1 narrow_1)
def zj_b (i : Nat) : Nat := ([135, 152, 173, 186, 200, 214, 245, 263, 145, 163, 230, 280, 93] : List Nat).getD i 0
def zj_rk (i : Nat) : Nat := ([1, 3, 5, 6, 7, 8, 10, 11, 2, 4, 9, 12, 0] : List Nat).getD i 0
def zj_wb (k : Nat) : Nat := ([33, 37, 42, 48, 55, 63, 72, 82] : List Nat).getD k 0
theorem zj_hex : ∀ i, i < 13 → zj_fl[zj_b i]? = some (Cond.exactly (zj_tm i) "java/lang/String") := by decide +kernel
theorem zj_hco : ∀ i, i < 13 → zj_fl[zj_b i + 1]? = some (Cond.eq (.field (zj_tm i) "java/lang/String" "coder" "B") (.int 0)) := by decide +kernel
theorem zj_har : ∀ i, i < 13 → zj_fl[zj_b i + 2]? = some (Cond.arrayOf (.field (zj_tm i) "java/lang/String" "value" "[B") .byte) := by decide +kernel
theorem zj_hle : ∀ i, i < 13 → zj_fl[zj_b i + 3]? = some (Cond.eq (.length (.field (zj_tm i) "java/lang/String" "value" "[B")) (.int (Int32.ofNat (zc_len.getD i 0)))) := by decide +kernel
theorem zj_hel : ∀ i, i < 13 → ∀ j, j < zc_len.getD i 0 → zj_fl[zj_b i + 4 + j]? = some (Cond.eq (.elem (.field (zj_tm i) "java/lang/String" "value" "[B") (.int (Int32.ofNat j))) (.int ((zc_byt.getD i []).getD j 0))) := by decide +kernel
theorem zj_hn1 : ∀ j, j < 6 → ∀ i, i < 13 → zj_rk i < zj_rk j → zj_fl[zj_b j + 4 + zc_len.getD j 0 + zj_rk i]? = some (Cond.not (Cond.eq (zj_tm i) (zj_tm j))) := by decide +kernel
theorem zj_hn2 : ∀ j, j < 10 → 5 < j → ∀ i, i < 13 → zj_rk i < zj_rk j → zj_fl[zj_b j + 4 + zc_len.getD j 0 + zj_rk i]? = some (Cond.not (Cond.eq (zj_tm i) (zj_tm j))) := by decide +kernel
theorem zj_hn3 : ∀ j, j < 13 → 9 < j → ∀ i, i < 13 → zj_rk i < zj_rk j → zj_fl[zj_b j + 4 + zc_len.getD j 0 + zj_rk i]? = some (Cond.not (Cond.eq (zj_tm i) (zj_tm j))) := by decide +kernel
theorem zj_rks : ∀ i, i < 13 → ∀ j, j < 13 → i ≠ j → zj_rk i < zj_rk j ∨ zj_rk j < zj_rk i := by decide +kernel
theorem zj_hn {i j : Nat} (hi : i < 13) (hj : j < 13) (h : zj_rk i < zj_rk j) : Cond.not (Cond.eq (zj_tm i) (zj_tm j)) ∈ zj_fl := by
  rcases Nat.lt_or_ge j 6 with h1 | h1
  · exact List.mem_of_getElem? (zj_hn1 j h1 i hi h)
  · rcases Nat.lt_or_ge j 10 with h2 | h2
    · exact List.mem_of_getElem? (zj_hn2 j h2 h1 i hi h)
    · exact List.mem_of_getElem? (zj_hn3 j hj h2 i hi h)
theorem zj_hne {i j : Nat} (hi : i < 13) (hj : j < 13) (h : i ≠ j) : Cond.not (Cond.eq (zj_tm i) (zj_tm j)) ∈ zj_fl ∨ Cond.not (Cond.eq (zj_tm j) (zj_tm i)) ∈ zj_fl := (zj_rks i hi j hj h).imp (zj_hn hi hj) (zj_hn hj hi)
theorem zj_len : ∀ i, i < 13 → zc_len.getD i 0 < 2 ^ 31 := by decide +kernel
theorem zj_wex : ∀ k, k < 8 → zj_fl[zj_wb k]? = some (Cond.exactly (zj_wn k) "HomeRounds$Word") := by decide +kernel
theorem zj_wel : ∀ k, k < 8 → zj_fl[9 + k]? = some (Cond.eq (.elem (.static "HomeRounds" "WORDS" "[LHomeRounds$Word;") (.int (Int32.ofNat k))) (zj_wn k)) := by decide +kernel
theorem zj_wle : ∀ k, k < 8 → zj_fl[zj_wb k + 2]? = some (Cond.eq (.field (zj_wn k) "HomeRounds$Word" "letters" "Ljava/lang/String;") (zj_tm k)) := by decide +kernel
theorem zj_wnu : ∀ k, k < 8 → zj_fl[zj_wb k + 3]? = some (Cond.eq (.field (zj_wn k) "HomeRounds$Word" "numbers" "Ljava/lang/String;") (zj_tm (zc_nu k))) := by decide +kernel
theorem zj_nu : ∀ k, k < 8 → zc_nu k < 13 := by decide +kernel
theorem zj_wor : ∀ k, k < 8 → zj_fl[zj_wb k + 1]? = some (Cond.eq (.field (zj_wn k) "java/lang/Enum" "ordinal" "I") (.int (nI k))) := by decide +kernel
theorem zj_sel : ∀ k, k < 8 → zj_fl[25 + k]? = some (Cond.eq (.elem (.static "HomeRounds$1" "$SwitchMap$HomeRounds$Word" "[I") (.int (Int32.ofNat k))) (.int (nI (k + 1)))) := by decide +kernel
theorem zj_w : Cond.arrayOf (.static "HomeRounds" "WORDS" "[LHomeRounds$Word;") (.object "HomeRounds$Word") ∈ zj_fl ∧ Cond.eq (.length (.static "HomeRounds" "WORDS" "[LHomeRounds$Word;")) (.int (Int32.ofNat 8)) ∈ zj_fl ∧ Cond.arrayOf (.static "HomeRounds$1" "$SwitchMap$HomeRounds$Word" "[I") .int ∈ zj_fl ∧ Cond.eq (.length (.static "HomeRounds$1" "$SwitchMap$HomeRounds$Word" "[I")) (.int (Int32.ofNat 8)) ∈ zj_fl ∧ Cond.eq (.static "java/lang/String" "COMPACT_STRINGS" "Z") (.int 1) ∈ zj_fl ∧ Cond.isRef (.static "jdk/internal/util/Preconditions" "SIOOBE_FORMATTER" "Ljava/util/function/BiFunction;") ∈ zj_fl :=
  ⟨List.mem_of_getElem? (i := 6) (by decide +kernel), List.mem_of_getElem? (i := 7) (by decide +kernel), List.mem_of_getElem? (i := 23) (by decide +kernel), List.mem_of_getElem? (i := 24) (by decide +kernel), List.mem_of_getElem? (i := 17) (by decide +kernel), List.mem_of_getElem? (i := 18) (by decide +kernel)⟩
theorem zj_t : Cond.laysStatic "java/lang/String" "COMPACT_STRINGS" "Z" ∈ lw_tbl ∧ Cond.initialized "java/lang/String" ∈ lw_tbl ∧ Cond.laysStatic "jdk/internal/util/Preconditions" "SIOOBE_FORMATTER" "Ljava/util/function/BiFunction;" ∈ lw_tbl ∧ Cond.initialized "jdk/internal/util/Preconditions" ∈ lw_tbl ∧ Cond.laysStatic "HomeRounds" "WORDS" "[LHomeRounds$Word;" ∈ lw_tbl ∧ Cond.initialized "HomeRounds" ∈ lw_tbl ∧ Cond.laysStatic "HomeRounds$1" "$SwitchMap$HomeRounds$Word" "[I" ∈ lw_tbl ∧ Cond.initialized "HomeRounds$1" ∈ lw_tbl ∧ Cond.stringRef "HomeRoundsModel" 115 "teams swap turn swop bar rate kind at " ∈ lw_tbl :=
  ⟨List.mem_of_getElem? (i := 416) (by decide +kernel), List.mem_of_getElem? (i := 59) (by decide +kernel), List.mem_of_getElem? (i := 432) (by decide +kernel), List.mem_of_getElem? (i := 61) (by decide +kernel), List.mem_of_getElem? (i := 402) (by decide +kernel), List.mem_of_getElem? (i := 51) (by decide +kernel), List.mem_of_getElem? (i := 485) (by decide +kernel), List.mem_of_getElem? (i := 64) (by decide +kernel), List.mem_of_getElem? (i := 1024) (by decide +kernel)⟩
theorem zj_env {args : Array Value} {s : State} (hg : (Jvm.Cond.and given_1 narrow_1).before args s = true) (hts : ∀ w ∈ lw_tbl, w.before args s = true) : ∃ (adK adV ad : Nat → Nat) (wa sa : Nat), zc_E adK adV ad wa sa (fun q : Nat => s.heap.size ≤ q) s s.heap ∧ zc_R adK s := by
  have hs := flat_of_before _ hg
  have hA : ∀ a : Nat, a < s.heap.size → ¬ (fun q : Nat => s.heap.size ≤ q) a := fun a h => Nat.not_le.mpr h
  obtain ⟨adK, adV, hSK, htm⟩ := vk_Sof (N := 13) (tm := zj_tm) (len := zc_len) (byt := zc_byt) (A := fun q : Nat => s.heap.size ≤ q) zj_len (fun i hi => hs _ (List.mem_of_getElem? (zj_hex i hi))) (fun i hi => hs _ (List.mem_of_getElem? (zj_hco i hi))) (fun i hi => hs _ (List.mem_of_getElem? (zj_har i hi))) (fun i hi => hs _ (List.mem_of_getElem? (zj_hle i hi))) (fun i hi j hj => hs _ (List.mem_of_getElem? (zj_hel i hi j hj))) (fun i j hi hj hij => (zj_hne hi hj hij).imp (hs _) (hs _)) hA
  have h0 : ∀ k : Nat, ∃ a : Nat, k < 8 → (zj_wn k).eval args s none [] s = some (.ref a) ∧ va_O "HomeRounds$Word" a (fun q : Nat => s.heap.size ≤ q) s s.heap := by
    intro k
    by_cases hk : k < 8
    · obtain ⟨a, c, cA, kA, q1, q2, q3, q4, q5, q6, -⟩ := Cond.exactly_spec (args := args) (first := s) (o := none) (s := s) (idx := []) (t := zj_wn k) (cls := "HomeRounds$Word") (hs _ (List.mem_of_getElem? (zj_wex k hk)))
      exact ⟨a, fun _ => ⟨q1, cA, q3, q5, by rw [q6]; exact q2, hA a (Array.getElem?_eq_some_iff.mp q3).1⟩⟩
    · exact ⟨0, fun h => absurd h hk⟩
  obtain ⟨ad, had⟩ := Classical.axiomOfChoice h0
  obtain ⟨w1, w2, w3, w4, w5, w6⟩ := zj_w
  obtain ⟨t1, t2, t3, t4, t5, t6, t7, t8, t9⟩ := zj_t
  obtain ⟨wa, hwa, hT⟩ := va_Tof (N := 8) (f := fun k => Value.ref (ad k)) (A := fun q : Nat => s.heap.size ≤ q) (by decide) (hs _ w1) (va_eqt (hs _ w2)) (fun j hj => va_eqv (hs _ (List.mem_of_getElem? (zj_wel j hj))) (had j hj).1) hA
  obtain ⟨sa, hsa, hT2⟩ := va_Tof (N := 8) (f := fun k => Value.int (nI (k + 1))) (A := fun q : Nat => s.heap.size ≤ q) (by decide) (hs _ w3) (va_eqt (hs _ w4)) (fun j hj => va_eqt (hs _ (List.mem_of_getElem? (zj_sel j hj)))) hA
  refine ⟨adK, adV, ad, wa, sa, ⟨va_Zof (hts _ t1) (hts _ t2) (va_eqi (hs _ w5)) hA, va_Zqof (hts _ t3) (hts _ t4) (hs _ w6) hA, va_Zof (hts _ t5) (hts _ t6) hwa hA, hT, va_Zof (hts _ t7) (hts _ t8) hsa hA, hT2, fun k hk => ⟨(had k hk).2, vk_OFof (had k hk).1 (va_eqv (hs _ (List.mem_of_getElem? (zj_wle k hk))) (htm k (by omega))) hA, vk_OFof (had k hk).1 (va_eqv (hs _ (List.mem_of_getElem? (zj_wnu k hk))) (htm (zc_nu k) (zj_nu k hk))) hA, vk_OFof (had k hk).1 (va_eqt (hs _ (List.mem_of_getElem? (zj_wor k hk)))) hA⟩, hSK⟩, vk_R.of (hts _ t9) (htm 12 (by decide))⟩
theorem zj_arr {args : Array Value} {s : State} {ty : FieldType} (h : (Cond.arrayClass ty).before args s = true) (ho : ∀ C, ty ≠ .object C) : ∃ cA : ClassId, ArrOfT s cA ty ∧ va_RA s cA ty := by
  obtain ⟨cA, kA, comp, f1, f2, f3⟩ := Cond.arrayClass_spec h
  refine ⟨cA, fun N z => ⟨(fun k h => by cases h), kA, f2, comp, f3⟩, ?_⟩
  cases ty with
  | object C => exact absurd rfl (ho C)
  | _ => exact f1
theorem zj_i : Cond.instantiable RX1 7 ∈ lw_tbl ∧ Cond.instantiable RX2 3 ∈ lw_tbl ∧ Cond.instantiable RX3 9 ∈ lw_tbl ∧ Cond.instantiable RX4 3 ∈ lw_tbl ∧ Cond.instantiable RX5 5 ∈ lw_tbl ∧ Cond.instantiable RX7 6 ∈ lw_tbl ∧ Cond.instantiable RX8 15 ∈ lw_tbl ∧ Cond.arrayClass .int ∈ lw_tbl ∧ Cond.arrayClass .boolean ∈ lw_tbl ∧ Cond.arrayClass .byte ∈ lw_tbl ∧ Cond.arrayClass .long ∈ lw_tbl ∧ Cond.arrayOver (.object "HomeRounds$Tape") ∈ lw_tbl :=
  ⟨List.mem_of_getElem? (i := 85) (by decide +kernel), List.mem_of_getElem? (i := 116) (by decide +kernel), List.mem_of_getElem? (i := 79) (by decide +kernel), List.mem_of_getElem? (i := 223) (by decide +kernel), List.mem_of_getElem? (i := 194) (by decide +kernel), List.mem_of_getElem? (i := 71) (by decide +kernel), List.mem_of_getElem? (i := 843) (by decide +kernel), List.mem_of_getElem? (i := 114) (by decide +kernel), List.mem_of_getElem? (i := 136) (by decide +kernel), List.mem_of_getElem? (i := 220) (by decide +kernel), List.mem_of_getElem? (i := 240) (by decide +kernel), List.mem_of_getElem? (i := 222) (by decide +kernel)⟩
theorem zj_n : Cond.methodLinkNest RX1 41 yX7_cellOf "HomeRounds" ∈ lw_tbl ∧ Cond.methodLinkNest RX3 11 yX1_init "HomeRounds" ∈ lw_tbl ∧ Cond.methodLinkNest RX7 26 yX5_init "HomeRounds" ∈ lw_tbl ∧ Cond.methodLinkNest RX7 37 yX4_init "HomeRounds" ∈ lw_tbl ∧ Cond.methodLinkNest RX3 81 yX7_isRate "HomeRounds" ∈ lw_tbl ∧ Cond.methodLinkNest RX3 84 yX7_isNumber "HomeRounds" ∈ lw_tbl ∧ Cond.methodLinkNest RX3 115 yX7_cellOf "HomeRounds" ∈ lw_tbl ∧ Cond.fieldLinkNest RX5 52 "HomeRounds" "WORDS" "[LHomeRounds$Word;" "HomeRounds" ∈ lw_tbl :=
  ⟨List.mem_of_getElem? (i := 153) (by decide +kernel), List.mem_of_getElem? (i := 86) (by decide +kernel), List.mem_of_getElem? (i := 195) (by decide +kernel), List.mem_of_getElem? (i := 224) (by decide +kernel), List.mem_of_getElem? (i := 297) (by decide +kernel), List.mem_of_getElem? (i := 300) (by decide +kernel), List.mem_of_getElem? (i := 528) (by decide +kernel), List.mem_of_getElem? (i := 401) (by decide +kernel)⟩
theorem zj_G {args : Array Value} {s : State} (hts : ∀ w ∈ lw_tbl, w.before args s = true) : ∃ (D : va_G) (E : Nat → ClassId), zr_G D E s := by
  obtain ⟨n1, n2, n3, n4, n5, n6, n7, m1, m2, m3, m4, m5⟩ := zj_i
  obtain ⟨c0, i0, k0⟩ := u_known (C := RX1) (T := TX1) (N := 7) (n := 7) hts inX1 (hts _ n1)
  obtain ⟨c1, i1, k1⟩ := u_known (C := RX2) (T := TX2) (N := 3) (n := 3) hts inX2 (hts _ n2)
  obtain ⟨c2, i2, k2⟩ := u_known (C := RX3) (T := TX3) (N := 9) (n := 9) hts inX3 (hts _ n3)
  obtain ⟨c3, i3, k3⟩ := u_known (C := RX4) (T := TX4) (N := 3) (n := 3) hts inX4 (hts _ n4)
  obtain ⟨c4, i4, k4⟩ := u_known (C := RX5) (T := TX5) (N := 5) (n := 5) hts inX5 (hts _ n5)
  obtain ⟨c5, i5, k5⟩ := u_known (C := RX7) (T := TX7) (N := 6) (n := 6) hts inX7 (hts _ n6)
  obtain ⟨c6, i6, k6⟩ := u_known (C := RX8) (T := TX8) (N := 15) (n := 15) hts inX8 (hts _ n7)
  obtain ⟨a0, e0⟩ := zj_arr (hts _ m1) (fun C h => by cases h)
  obtain ⟨a1, e1⟩ := zj_arr (hts _ m2) (fun C h => by cases h)
  obtain ⟨a2, e2⟩ := zj_arr (hts _ m3) (fun C h => by cases h)
  obtain ⟨a3, e3⟩ := zj_arr (hts _ m4) (fun C h => by cases h)
  obtain ⟨comp, a4, kA, h1, h2, h3, h4, h5⟩ := Cond.arrayOver_spec (hts _ m5)
  have e4 : ArrOfT s a4 (.object "HomeRounds$Tape") ∧ va_RA s a4 (.object "HomeRounds$Tape") := ⟨fun N z => ⟨(fun k h => by cases h), kA, h3, comp, h4⟩, kA, comp, h3, h4, h1, h5⟩
  obtain ⟨q1, q2, q3, q4, q5, q6, q7, q8⟩ := zj_n
  refine ⟨(fun k => match k with | 0 => c0 | 1 => c1 | 2 => c2 | 3 => c3 | 4 => c4 | 5 => c5 | _ => c6, fun k => match k with | 0 => i0 | 1 => i1 | 2 => i2 | 3 => i3 | 4 => i4 | 5 => i5 | _ => i6), fun k => match k with | 0 => a0 | 1 => a1 | 2 => a2 | 3 => a3 | _ => a4, ⟨?_, ?_⟩, va_Nw.of rfl (hts _ q1), va_Nw.of rfl (hts _ q2), va_Nw.of rfl (hts _ q3), va_Nw.of rfl (hts _ q4), va_Nw.of rfl (hts _ q5), va_Nw.of rfl (hts _ q6), va_Nw.of rfl (hts _ q7), va_Nw.of rfl (hts _ q8)⟩
  · intro k q hq
    match k, hq with
    | 0, hq => cases hq; exact k0
    | 1, hq => cases hq; exact k1
    | 2, hq => cases hq; exact k2
    | 3, hq => cases hq; exact k3
    | 4, hq => cases hq; exact k4
    | 5, hq => cases hq; exact k5
    | 6, hq => cases hq; exact k6
    | k + 7, hq => simp [vwCl] at hq
  · intro k q hq
    match k, hq with
    | 0, hq => cases hq; exact e0
    | 1, hq => cases hq; exact e1
    | 2, hq => cases hq; exact e2
    | 3, hq => cases hq; exact e3
    | 4, hq => cases hq; exact e4
    | k + 5, hq => simp [zr_T] at hq
theorem zj_AO {args : Array Value} {s : State} (hts : ∀ w ∈ lw_tbl, w.before args s = true) : va_AO "HomeRounds$Tape" s := va_AO.of (hts _ zj_i.2.2.2.2.2.2.2.2.2.2.2)
