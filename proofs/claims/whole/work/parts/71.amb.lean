/-! what stands ahead of the run and nobody writes: String constants, the words of the set-ups, the table of the switch -/
abbrev zc_n : Nat := 13
def zc_len : List Nat := [5, 4, 4, 4, 3, 4, 4, 2, 1, 2, 2, 3, 38]
def zc_byt : List (List Int32) := [[116, 101, 97, 109, 115], [115, 119, 97, 112], [116, 117, 114, 110], [115, 119, 111, 112], [98, 97, 114], [114, 97, 116, 101], [107, 105, 110, 100], [97, 116], [49], [49, 49], [49, 50], [49, 50, 50], [116, 101, 97, 109, 115, 32, 115, 119, 97, 112, 32, 116, 117, 114, 110, 32, 115, 119, 111, 112, 32, 98, 97, 114, 32, 114, 97, 116, 101, 32, 107, 105, 110, 100, 32, 97, 116, 32]]
/-- which String constant is the row of widths of word k -/
def zc_nu (k : Nat) : Nat := [8, 9, 9, 9, 9, 10, 8, 11].getD k 0
def zc_E (adK adV ad : Nat → Nat) (wa sa : Nat) (A : Nat → Prop) (U : State) (H : Heap) : Prop :=
  va_Z "java/lang/String" "COMPACT_STRINGS" "Z" (.int 1) A U H ∧ va_Zq "jdk/internal/util/Preconditions" "SIOOBE_FORMATTER" "Ljava/util/function/BiFunction;" A U H ∧
  va_Z "HomeRounds" "WORDS" "[LHomeRounds$Word;" (.ref wa) A U H ∧ va_T (.object "HomeRounds$Word") wa 8 (fun k => .ref (ad k)) A U H ∧
  va_Z "HomeRounds$1" "$SwitchMap$HomeRounds$Word" "[I" (.ref sa) A U H ∧ va_T .int sa 8 (fun k => .int (nI (k + 1))) A U H ∧
  (∀ k : Nat, k < 8 → va_O "HomeRounds$Word" (ad k) A U H ∧ va_OF "HomeRounds$Word" "letters" "Ljava/lang/String;" (.ref (adK k)) (ad k) A U H ∧ va_OF "HomeRounds$Word" "numbers" "Ljava/lang/String;" (.ref (adK (zc_nu k))) (ad k) A U H ∧ va_OF "java/lang/Enum" "ordinal" "I" (.int (nI k)) (ad k) A U H) ∧
  vk_S zc_n zc_len zc_byt adK adV A U H
section ZCE
variable {adK adV ad : Nat → Nat} {wa sa : Nat} {A B : Nat → Prop} {u s U : State} {H H1 : Heap}
theorem zc_E.moved (hvm : u.vm.Alike U.vm) (h : zc_E adK adV ad wa sa A u H) : zc_E adK adV ad wa sa A U H := by
  obtain ⟨h1, h2, h3, h4, h5, h6, h7, h8⟩ := h
  exact ⟨h1.moved hvm, h2.moved hvm, h3.moved hvm, h4.moved hvm, h5.moved hvm, h6.moved hvm, fun k hk => ⟨(h7 k hk).1.moved hvm, (h7 k hk).2.1.moved hvm, (h7 k hk).2.2.1.moved hvm, (h7 k hk).2.2.2.moved hvm⟩, h8.moved hvm⟩
theorem zc_E.kept (h : zc_E adK adV ad wa sa A U H) (hq : ∀ a : Nat, a < H.size → ¬ A a → H1[a]? = H[a]?) : zc_E adK adV ad wa sa A U H1 := by
  obtain ⟨h1, h2, h3, h4, h5, h6, h7, h8⟩ := h
  exact ⟨h1.kept hq, h2.kept hq, h3.kept hq, h4.kept hq, h5.kept hq, h6.kept hq, fun k hk => ⟨(h7 k hk).1.kept hq, (h7 k hk).2.1.kept hq, (h7 k hk).2.2.1.kept hq, (h7 k hk).2.2.2.kept hq⟩, h8.kept hq⟩
theorem zc_E.narrow (h : zc_E adK adV ad wa sa A U H) (hAB : ∀ q, B q → A q) : zc_E adK adV ad wa sa B U H := by
  obtain ⟨h1, h2, h3, h4, h5, h6, h7, h8⟩ := h
  exact ⟨h1.narrow hAB, h2.narrow hAB, h3.narrow hAB, h4.narrow hAB, h5.narrow hAB, h6.narrow hAB, fun k hk => ⟨(h7 k hk).1.narrow hAB, (h7 k hk).2.1.narrow hAB, (h7 k hk).2.2.1.narrow hAB, (h7 k hk).2.2.2.narrow hAB⟩, h8.narrow hAB⟩
theorem zc_E.here {locs : List Loc} (h : zc_E adK adV ad wa sa A s s.heap) (hS : va_S A s.heap H locs) (hvm : s.vm.Alike U.vm) (hAB : ∀ q, B q → A q) : zc_E adK adV ad wa sa B U H :=
  ((h.kept (H1 := H) (fun a h1 h2 => hS.2.1 a h1 h2)).moved hvm).narrow hAB
end ZCE
def zc_R (adK : Nat → Nat) (U : State) : Prop := vk_R "HomeRoundsModel" 115 "teams swap turn swop bar rate kind at " (adK 12) U
/-- contracts that read these -/
def zrE_P (D : va_G) (E : Nat → ClassId) (adK adV ad : Nat → Nat) (wa sa : Nat) (av : List Value) (w : va_W) : Array Value → State → Prop := va_Pc av (fun U => va_P D vwCl w U.heap ∧ zr_G D E U ∧ zc_E adK adV ad wa sa (fun _ => False) U U.heap ∧ zc_R adK U)
def zwE_P (D : va_G) (E : Nat → ClassId) (adK adV ad : Nat → Nat) (wa sa : Nat) (av : List Value) (w : va_W) : Array Value → State → Prop := va_Pc av (fun U => va_P D vwCl w U.heap ∧ zr_G D E U ∧ va_D (fun _ => True) w ∧ zc_E adK adV ad wa sa (zw_A w) U U.heap ∧ zc_R adK U)
section ZRE
variable {D : va_G} {E : Nat → ClassId} {adK adV ad : Nat → Nat} {wa sa : Nat} {av As : List Value} {w : va_W} {A : Nat → Prop} {s : State} {H : Heap} {locs : List Loc} {b : Addr} {ci q0 : Nat} {q : vw_C} {fs : List Value}
theorem zrE_blind : FrameBlind (zrE_P D E adK adV ad wa sa av w) := fun a U g mk q => ⟨q.1, q.2.1, q.2.2.1.same (u := U) (U := U.calling g mk a) rfl, q.2.2.2.1.moved (U := U.calling g mk a) (Vm.Alike.refl U.vm), vk_R.same (u := U) (U := U.calling g mk a) rfl q.2.2.2.2⟩
theorem zwE_blind : FrameBlind (zwE_P D E adK adV ad wa sa av w) := fun a U g mk q => ⟨q.1, q.2.1, q.2.2.1.same (u := U) (U := U.calling g mk a) rfl, q.2.2.2.1, q.2.2.2.2.1.moved (U := U.calling g mk a) (Vm.Alike.refl U.vm), vk_R.same (u := U) (U := U.calling g mk a) rfl q.2.2.2.2.2⟩
theorem zrE_V (hE : zc_E adK adV ad wa sa A s s.heap) (hR : zc_R adK s) (hS : va_S A s.heap H locs) (hK : zr_G D E s) (hP : va_P D vwCl w H) (hc : vwCl[ci]? = some q) (he : w[q0]? = some (b, .inr (ci, fs))) : PreV s H q.1 b (zrE_P D E adK adV ad wa sa (.ref b :: As) w) As :=
  ⟨zrE_blind, va_recv hK.1 hP hc he, fun U hU hW => ⟨rfl, by rw [hU]; exact hP, hK.warm hW, by rw [hU]; exact hE.here hS hW.alike (fun _ h => h.elim), vk_R.warm hW hR⟩⟩
theorem zrE_S (hE : zc_E adK adV ad wa sa A s s.heap) (hR : zc_R adK s) (hS : va_S A s.heap H locs) (hK : zr_G D E s) (hP : va_P D vwCl w H) : PreS s H (zrE_P D E adK adV ad wa sa As w) As :=
  ⟨zrE_blind, fun U hU hW => ⟨rfl, by rw [hU]; exact hP, hK.warm hW, by rw [hU]; exact hE.here hS hW.alike (fun _ h => h.elim), vk_R.warm hW hR⟩⟩
/-- the receiver is a String constant -/
theorem zrE_VK {i : Nat} (hi : i < zc_n) (hE : zc_E adK adV ad wa sa A s s.heap) (hR : zc_R adK s) (hS : va_S A s.heap H locs) (hK : zr_G D E s) (hP : va_P D vwCl w H) : PreV s H "java/lang/String" (adK i) (zrE_P D E adK adV ad wa sa (.ref (adK i) :: As) w) As :=
  ⟨zrE_blind, vk_recv hE.2.2.2.2.2.2.2 hi hS, fun U hU hW => ⟨rfl, by rw [hU]; exact hP, hK.warm hW, by rw [hU]; exact hE.here hS hW.alike (fun _ h => h.elim), vk_R.warm hW hR⟩⟩
/-- .. a word -/
theorem zrE_VW {i : Nat} (hi : i < 8) (hE : zc_E adK adV ad wa sa A s s.heap) (hR : zc_R adK s) (hS : va_S A s.heap H locs) (hK : zr_G D E s) (hP : va_P D vwCl w H) : PreV s H "HomeRounds$Word" (ad i) (zrE_P D E adK adV ad wa sa (.ref (ad i) :: As) w) As := by
  refine ⟨zrE_blind, ?_, fun U hU hW => ⟨rfl, by rw [hU]; exact hP, hK.warm hW, by rw [hU]; exact hE.here hS hW.alike (fun _ h => h.elim), vk_R.warm hW hR⟩⟩
  obtain ⟨cell, h1, h2, h3, -⟩ := ((hE.2.2.2.2.2.2.1 i hi).1.kept (H1 := H) (fun a h1 h2 => hS.2.1 a h1 h2))
  exact ⟨cell, h1, h2, h3⟩
theorem zwE_V (hE : zc_E adK adV ad wa sa A s s.heap) (hR : zc_R adK s) (hS : va_S A s.heap H locs) (hA : ∀ q, zw_A w q → A q) (hK : zr_G D E s) (hP : va_P D vwCl w H) {A1 : Nat → Prop} (hD : va_D A1 w) (hc : vwCl[ci]? = some q) (he : w[q0]? = some (b, .inr (ci, fs))) : PreV s H q.1 b (zwE_P D E adK adV ad wa sa (.ref b :: As) w) As :=
  ⟨zwE_blind, va_recv hK.1 hP hc he, fun U hU hW => ⟨rfl, by rw [hU]; exact hP, hK.warm hW, hD.weaken (fun _ _ _ _ => trivial), by rw [hU]; exact hE.here hS hW.alike hA, vk_R.warm hW hR⟩⟩
end ZRE
theorem zc_byS : ∀ i, i < zc_n → ∀ j, j < zc_len.getD i 0 → 0 ≤ ((zc_byt.getD i []).getD j 0) ∧ ((zc_byt.getD i []).getD j 0) < 128 := by decide +kernel
theorem zc_lnS : ∀ i, i < zc_n → zc_len.getD i 0 ≤ 38 := by decide +kernel
/-- the byte at j of constant i -/
def zc_ch (i j : Nat) : Nat := ((zc_byt.getD i []).getD j 0).toNatClampNeg
theorem zc_chE : ∀ i, i < zc_n → ∀ j, j < zc_len.getD i 0 → (zc_byt.getD i []).getD j 0 = nI (zc_ch i j) ∧ zc_ch i j < 128 := by decide +kernel
theorem zc_shr0 {n : Nat} (h : n < 2 ^ 31) : nI n >>> ((0 : Int32) &&& 31) = nI n := by
  rw [show ((0 : Int32) &&& 31) = nI 0 from by decide +kernel]
  apply Int32.toInt_inj.mp
  have := pk_shr (nI n) (nI 0) 0 (by decide +kernel)
  rw [this]; simp
theorem zc_c2 : ∀ n, n < 128 → ((nI n &&& nI 255).toUInt32 % 65536).toInt32 = nI n := by decide +kernel
theorem zc_nar : ∀ n, n < 128 → narrow .char (.int (nI n)) = .int (nI n) := by decide +kernel
/-- where a byte comes next -/
def zc_ix (i c : Nat) : Nat → Nat → Int32 | 0, _ => -1 | k + 1, p => if zc_ch i p = c then nI p else zc_ix i c k (p + 1)
theorem zc_max0 {p : Nat} (h : p < 2 ^ 31) : (if nI p < nI 0 then nI 0 else nI p) = nI p := by rw [if_neg (fun q => absurd ((nI_ltI h (by omega)).mp q) (by omega))]
theorem zc_minS {n : Nat} (h : n < 2 ^ 31) : (if nI n < nI n then nI n else nI n) = nI n := by split <;> rfl
/-- a reading method without an answer -/
def zr_Qv : Array Value → State → Outcome → State → Prop := va_Qv (fun (_ : Unit) => True) (fun _ _ => True) (fun _ => False)
section ZRV
variable {p : Program} {l : Launch} {e : Env} {R : Room} {s : State} {m : MethodId} {args : Array Value} {below : List Frame} {meth : Method} {c : Code} {H : Heap} {locs : List Loc} {cells slots : Nat} {Q : State → Prop}
variable {pc : Nat} {ls : Array Slot} {rest st0 : List Value} {a : Array Value} {A0 : Nat → Prop} {H0 : Heap} {D : va_G} {cl : List vw_C} {ws : va_W}
theorem zr_cv (hP : va_P D cl ws H) (hS : va_S A0 H0 H locs) (hr : va_Run p l e R s m args below meth c H locs cells slots 0 0 (F0 m pc ls st0) rest (zr_Qv a) (fun _ => False))
    (kk : ∀ (H1 : Heap) (locs1 : List Loc), va_P D cl ws H1 → va_S A0 H0 H1 locs1 → W p l e R s m args below meth c H1 locs1 cells slots Q (F0 m (pc + 3) ls rest)) : W p l e R s m args below meth c H locs cells slots Q (F0 m pc ls st0) :=
  va_callv hr hS (fun q _ h => h.elim) (fun q h => h.elim) (fun u t H1 locs1 ht hvm hw hB hz hk hS1 => kk H1 locs1 (hP.kept (fun k q hq => hk q.1 (hP k q hq).lt id)) hS1)
end ZRV
