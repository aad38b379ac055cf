/-! BASE: the words of the claim's proof that every method shares -/
/-- the classes of the arrays: ints, booleans, bytes, longs, tapes -/
abbrev zr_T (E : Nat → ClassId) : List (ClassId × FieldType) := [(E 0, .int), (E 1, .boolean), (E 2, .byte), (E 3, .long), (E 4, .object "HomeRounds$Tape")]
/-- the links among nest mates -/
def zr_N (U : State) : Prop :=
  va_Nw (.methodLinkNest RX1 41 yX7_cellOf "HomeRounds") U ∧ va_Nw (.methodLinkNest RX3 11 yX1_init "HomeRounds") U ∧ va_Nw (.methodLinkNest RX7 26 yX5_init "HomeRounds") U ∧ va_Nw (.methodLinkNest RX7 37 yX4_init "HomeRounds") U ∧ va_Nw (.methodLinkNest RX3 81 yX7_isRate "HomeRounds") U ∧ va_Nw (.methodLinkNest RX3 84 yX7_isNumber "HomeRounds") U ∧ va_Nw (.methodLinkNest RX3 115 yX7_cellOf "HomeRounds") U ∧ va_Nw (.fieldLinkNest RX5 52 "HomeRounds" "WORDS" "[LHomeRounds$Word;" "HomeRounds") U
theorem zr_N.warm {s U : State} (hW : s.WarmedH U.vm) (h : zr_N s) : zr_N U := by
  obtain ⟨h1, h2, h3, h4, h5, h6, h7, h8⟩ := h
  exact ⟨va_Nw.warmM hW h1, va_Nw.warmM hW h2, va_Nw.warmM hW h3, va_Nw.warmM hW h4, va_Nw.warmM hW h5, va_Nw.warmM hW h6, va_Nw.warmM hW h7, va_Nw.warmF hW h8⟩
theorem zr_N.same {u U : State} (hv : u.vm = U.vm) (h : zr_N u) : zr_N U := by
  obtain ⟨h1, h2, h3, h4, h5, h6, h7, h8⟩ := h
  exact ⟨va_Nw.same rfl hv h1, va_Nw.same rfl hv h2, va_Nw.same rfl hv h3, va_Nw.same rfl hv h4, va_Nw.same rfl hv h5, va_Nw.same rfl hv h6, va_Nw.same rfl hv h7, va_Nw.same rfl hv h8⟩
/-- what a method may take of the tables: the classes as they are, the links among nest mates -/
def zr_G (D : va_G) (E : Nat → ClassId) (U : State) : Prop := va_K D vwCl (zr_T E) U ∧ zr_N U
theorem zr_G.warm {D : va_G} {E : Nat → ClassId} {s U : State} (hW : s.WarmedH U.vm) (h : zr_G D E s) : zr_G D E U := ⟨va_K.moved hW.alike h.1, h.2.warm hW⟩
theorem zr_G.same {D : va_G} {E : Nat → ClassId} {u U : State} (hv : u.vm = U.vm) (h : zr_G D E u) : zr_G D E U := ⟨va_K.moved (by rw [hv]; exact Vm.Alike.refl U.vm) h.1, h.2.same hv⟩
/-- a reading method: its start -/
def zr_P (D : va_G) (E : Nat → ClassId) (av : List Value) (w : va_W) : Array Value → State → Prop := va_Pc av (fun U => va_P D vwCl w U.heap ∧ zr_G D E U)
/-- a reading method: its end; nothing has changed -/
def zr_Qi (post : Int32 → Prop) : Array Value → State → Outcome → State → Prop := va_Qi (fun (r : Int32) (_ : Unit) => post r) (fun _ _ => True) (fun _ => False)
def zr_Ql (post : Int64 → Prop) : Array Value → State → Outcome → State → Prop := va_Ql (fun (r : Int64) (_ : Unit) => post r) (fun _ _ => True) (fun _ => False)
def zr_Qf (post : UInt32 → Prop) : Array Value → State → Outcome → State → Prop := va_Qf (fun (r : UInt32) (_ : Unit) => post r) (fun _ _ => True) (fun _ => False)
def zr_Qd (post : UInt64 → Prop) : Array Value → State → Outcome → State → Prop := va_Qd (fun (r : UInt64) (_ : Unit) => post r) (fun _ _ => True) (fun _ => False)
theorem zr_blind {D : va_G} {E : Nat → ClassId} {av : List Value} {w : va_W} : FrameBlind (zr_P D E av w) := fun a U g mk q => ⟨q.1, q.2.1, q.2.2.same (u := U) (U := U.calling g mk a) rfl⟩
theorem zr_V {D : va_G} {E : Nat → ClassId} {w : va_W} {s : State} {H : Heap} {b : Addr} {As : List Value} {ci q0 : Nat} {q : vw_C} {fs : List Value} (hK : zr_G D E s) (hP : va_P D vwCl w H) (hc : vwCl[ci]? = some q) (he : w[q0]? = some (b, .inr (ci, fs))) : PreV s H q.1 b (zr_P D E (.ref b :: As) w) As :=
  ⟨zr_blind, va_recv hK.1 hP hc he, fun U hU hW => ⟨rfl, by rw [hU]; exact hP, hK.warm hW⟩⟩
theorem zr_S {D : va_G} {E : Nat → ClassId} {w : va_W} {s : State} {H : Heap} {As : List Value} (hK : zr_G D E s) (hP : va_P D vwCl w H) : PreS s H (zr_P D E As w) As :=
  ⟨zr_blind, fun U hU hW => ⟨rfl, by rw [hU]; exact hP, hK.warm hW⟩⟩
/-! writing methods: the world is theirs, at its end it is w' u -/
def zw_P (D : va_G) (E : Nat → ClassId) (av : List Value) (w : va_W) : Array Value → State → Prop := va_Pc av (fun U => va_P D vwCl w U.heap ∧ zr_G D E U ∧ va_D (fun _ => True) w)
/-- the cells of a world -/
def zw_A (w : va_W) : Nat → Prop := fun q => ∃ (k : Nat) (e : va_E), w[k]? = some (q, e)
def zw_B {S : Type} (D : va_G) (w : va_W) (w' : S → va_W) (u : S) (t : State) : Prop := va_P D vwCl (w' u) t.heap ∧ va_D (zw_A w) (w' u)
def zw_Qv {S : Type} (D : va_G) (w : va_W) (post : S → Prop) (w' : S → va_W) : Array Value → State → Outcome → State → Prop := va_Qv post (zw_B D w w') (zw_A w)
def zw_Qi {S : Type} (D : va_G) (w : va_W) (post : Int32 → S → Prop) (w' : S → va_W) : Array Value → State → Outcome → State → Prop := va_Qi post (zw_B D w w') (zw_A w)
def zw_Ql {S : Type} (D : va_G) (w : va_W) (post : Int64 → S → Prop) (w' : S → va_W) : Array Value → State → Outcome → State → Prop := va_Ql post (zw_B D w w') (zw_A w)
def zw_Qf {S : Type} (D : va_G) (w : va_W) (post : UInt32 → S → Prop) (w' : S → va_W) : Array Value → State → Outcome → State → Prop := va_Qf post (zw_B D w w') (zw_A w)
theorem zw_blind {D : va_G} {E : Nat → ClassId} {av : List Value} {w : va_W} : FrameBlind (zw_P D E av w) := fun a U g mk q => ⟨q.1, q.2.1, q.2.2.1.same (u := U) (U := U.calling g mk a) rfl, q.2.2.2⟩
theorem zw_V {D : va_G} {E : Nat → ClassId} {A : Nat → Prop} {w : va_W} {s : State} {H : Heap} {b : Addr} {As : List Value} {ci q0 : Nat} {q : vw_C} {fs : List Value} (hK : zr_G D E s) (hP : va_P D vwCl w H) (hD : va_D A w) (hc : vwCl[ci]? = some q) (he : w[q0]? = some (b, .inr (ci, fs))) : PreV s H q.1 b (zw_P D E (.ref b :: As) w) As :=
  ⟨zw_blind, va_recv hK.1 hP hc he, fun U hU hW => ⟨rfl, by rw [hU]; exact hP, hK.warm hW, hD.weaken (fun _ _ _ _ => trivial)⟩⟩
theorem zw_S {D : va_G} {E : Nat → ClassId} {A : Nat → Prop} {w : va_W} {s : State} {H : Heap} {As : List Value} (hK : zr_G D E s) (hP : va_P D vwCl w H) (hD : va_D A w) : PreS s H (zw_P D E As w) As :=
  ⟨zw_blind, fun U hU hW => ⟨rfl, by rw [hU]; exact hP, hK.warm hW, hD.weaken (fun _ _ _ _ => trivial)⟩⟩
theorem zw_own {A : Nat → Prop} {w : va_W} (hD : va_D A w) : va_D (zw_A w) w := hD.weaken (fun k q hk _ => ⟨k, q.2, hk⟩)
section ZRC
variable {p : Program} {l : Launch} {e : Env} {R : Room} {s : State} {m : MethodId} {args : Array Value} {below : List Frame} {meth : Method} {c : Code} {H : Heap} {locs : List Loc} {cells slots : Nat} {Q : State → Prop}
variable {pc : Nat} {ls : Array Slot} {rest st0 : List Value} {a : Array Value} {A0 : Nat → Prop} {H0 : Heap} {D : va_G} {cl : List vw_C} {ws : va_W}
theorem zr_ci {post : Int32 → Prop} (hP : va_P D cl ws H) (hS : va_S A0 H0 H locs) (hr : va_Run p l e R s m args below meth c H locs cells slots 0 0 (F0 m pc ls st0) rest (zr_Qi post a) (fun _ => False))
    (kk : ∀ (r : Int32) (H1 : Heap) (locs1 : List Loc), post r → va_P D cl ws H1 → va_S A0 H0 H1 locs1 → W p l e R s m args below meth c H1 locs1 cells slots Q (F0 m (pc + 3) ls (.int r :: rest))) : W p l e R s m args below meth c H locs cells slots Q (F0 m pc ls st0) :=
  va_calli hr hS (fun q _ h => h.elim) (fun q h => h.elim) (fun r u t H1 locs1 ht hvm hw hB hz hk hS1 => kk r H1 locs1 hw (hP.kept (fun k q hq => hk q.1 (hP k q hq).lt id)) hS1)
theorem zr_cl {post : Int64 → Prop} (hP : va_P D cl ws H) (hS : va_S A0 H0 H locs) (hr : va_Run p l e R s m args below meth c H locs cells slots 0 0 (F0 m pc ls st0) rest (zr_Ql post a) (fun _ => False))
    (kk : ∀ (r : Int64) (H1 : Heap) (locs1 : List Loc), post r → va_P D cl ws H1 → va_S A0 H0 H1 locs1 → W p l e R s m args below meth c H1 locs1 cells slots Q (F0 m (pc + 3) ls (.long r :: rest))) : W p l e R s m args below meth c H locs cells slots Q (F0 m pc ls st0) :=
  va_calll hr hS (fun q _ h => h.elim) (fun q h => h.elim) (fun r u t H1 locs1 ht hvm hw hB hz hk hS1 => kk r H1 locs1 hw (hP.kept (fun k q hq => hk q.1 (hP k q hq).lt id)) hS1)
theorem zr_cf {post : UInt32 → Prop} (hP : va_P D cl ws H) (hS : va_S A0 H0 H locs) (hr : va_Run p l e R s m args below meth c H locs cells slots 0 0 (F0 m pc ls st0) rest (zr_Qf post a) (fun _ => False))
    (kk : ∀ (r : UInt32) (H1 : Heap) (locs1 : List Loc), post r → va_P D cl ws H1 → va_S A0 H0 H1 locs1 → W p l e R s m args below meth c H1 locs1 cells slots Q (F0 m (pc + 3) ls (.float r :: rest))) : W p l e R s m args below meth c H locs cells slots Q (F0 m pc ls st0) :=
  va_callf hr hS (fun q _ h => h.elim) (fun q h => h.elim) (fun r u t H1 locs1 ht hvm hw hB hz hk hS1 => kk r H1 locs1 hw (hP.kept (fun k q hq => hk q.1 (hP k q hq).lt id)) hS1)
theorem zr_cd {post : UInt64 → Prop} (hP : va_P D cl ws H) (hS : va_S A0 H0 H locs) (hr : va_Run p l e R s m args below meth c H locs cells slots 0 0 (F0 m pc ls st0) rest (zr_Qd post a) (fun _ => False))
    (kk : ∀ (r : UInt64) (H1 : Heap) (locs1 : List Loc), post r → va_P D cl ws H1 → va_S A0 H0 H1 locs1 → W p l e R s m args below meth c H1 locs1 cells slots Q (F0 m (pc + 3) ls (.double r :: rest))) : W p l e R s m args below meth c H locs cells slots Q (F0 m pc ls st0) :=
  va_calld hr hS (fun q _ h => h.elim) (fun q h => h.elim) (fun r u t H1 locs1 ht hvm hw hB hz hk hS1 => kk r H1 locs1 hw (hP.kept (fun k q hq => hk q.1 (hP k q hq).lt id)) hS1)
/-- the world behind a writing call: the callee's cells wc (at the places isC) are w1 now, the rest wr (at isR) stays; ws' is all of it, in the order 'perm' of wr ++ w1 -/
theorem zw_join {H1 : Heap} {wc wr w1 ws' : va_W} (hP : va_P D cl ws H) (hD : va_D A0 ws) (isC isR perm : List Nat) (hC : isC.map (fun i => ws[i]?) = wc.map some) (hR : isR.map (fun i => ws[i]?) = wr.map some) (hn : va_nd isR = true) (hdis : ∀ i ∈ isR, i ∉ isC) (hA : ∀ q, zw_A wc q → A0 q)
    (hk : ∀ q : Nat, q < H.size → ¬ zw_A wc q → H1[q]? = H[q]?) (hP1 : va_P D cl w1 H1) (hD1 : va_D (zw_A wc) w1) (hnp : va_nd perm = true) (hs : perm.map (fun i => (wr ++ w1)[i]?) = ws'.map some) : va_P D cl ws' H1 ∧ va_D A0 ws' := by
  have hcw : ∀ (i : Nat), i ∈ isR → ∀ x, ws[i]? = some x → ¬ zw_A wc x.1 := by
    intro i hi x hx ⟨k, ec, hk2⟩
    have h1 : (wc.map some)[k]? = some (some (x.1, ec)) := by simp [hk2]
    rw [← hC, List.getElem?_map] at h1
    cases hj : isC[k]? with
    | none => rw [hj] at h1; cases h1
    | some j =>
      rw [hj] at h1
      have h2 : ws[j]? = some (x.1, ec) := Option.some.inj h1
      have hij := hD.1 i j x (x.1, ec) hx h2 rfl
      exact hdis i hi (hij ▸ List.mem_of_getElem? hj)
  have hrw : ∀ (k : Nat) (x : Nat × va_E), wr[k]? = some x → ∃ i, isR[k]? = some i ∧ ws[i]? = some x := by
    intro k x hx
    have h1 : (wr.map some)[k]? = some (some x) := by simp [hx]
    rw [← hR, List.getElem?_map] at h1
    cases hj : isR[k]? with
    | none => rw [hj] at h1; cases h1
    | some j => rw [hj] at h1; exact ⟨j, rfl, Option.some.inj h1⟩
  have hPr : va_P D cl wr H1 := by
    intro k x hx
    obtain ⟨i, h1, h2⟩ := hrw k x hx
    exact (hP i x h2).kept (hk x.1 (hP i x h2).lt (hcw i (List.mem_of_getElem? h1) x h2))
  have hDr : va_D A0 wr := by
    refine ⟨fun i j x y hx hy hxy => ?_, fun k x hx => ?_⟩
    · obtain ⟨i1, h1, h2⟩ := hrw i x hx
      obtain ⟨j1, h3, h4⟩ := hrw j y hy
      have := hD.1 i1 j1 x y h2 h4 hxy
      exact va_nd_inj isR hn i j i1 h1 (this ▸ h3)
    · obtain ⟨i, h1, h2⟩ := hrw k x hx
      exact hD.2 i x h2
  have hDw : va_D A0 (wr ++ w1) := by
    refine ⟨fun i j x y hx hy hxy => ?_, fun k x hx => ?_⟩
    · by_cases hi : i < wr.length <;> by_cases hj : j < wr.length
      · rw [List.getElem?_append_left hi] at hx
        rw [List.getElem?_append_left hj] at hy
        exact hDr.1 i j x y hx hy hxy
      · rw [List.getElem?_append_left hi] at hx
        rw [List.getElem?_append_right (by omega)] at hy
        obtain ⟨i1, h1, h2⟩ := hrw i x hx
        exact absurd (hxy ▸ hD1.2 _ y hy) (hcw i1 (List.mem_of_getElem? h1) x h2)
      · rw [List.getElem?_append_right (by omega)] at hx
        rw [List.getElem?_append_left hj] at hy
        obtain ⟨j1, h1, h2⟩ := hrw j y hy
        exact absurd (hxy ▸ hD1.2 _ x hx) (hcw j1 (List.mem_of_getElem? h1) y h2)
      · rw [List.getElem?_append_right (by omega)] at hx
        rw [List.getElem?_append_right (by omega)] at hy
        have := hD1.1 _ _ x y hx hy hxy
        omega
    · rcases List.mem_append.mp (List.mem_of_getElem? hx) with h | h
      · obtain ⟨i, hi⟩ := List.getElem?_of_mem h
        exact hDr.2 i x hi
      · obtain ⟨i, hi⟩ := List.getElem?_of_mem h
        exact hA _ (hD1.2 i x hi)
  have hs2 : perm.filterMap (fun i => (wr ++ w1)[i]?) = ws' := by
    have h := congrArg (List.filterMap id) hs
    simpa [List.filterMap_map] using h
  exact ⟨(hPr.app hP1).sub perm hs2, hDw.sub perm hnp hs⟩
theorem zw_AA {wc : va_W} (hD : va_D A0 ws) (isC : List Nat) (hC : isC.map (fun i => ws[i]?) = wc.map some) : ∀ q, zw_A wc q → A0 q := by
  intro q ⟨k, ec, hk2⟩
  have h1 : (wc.map some)[k]? = some (some (q, ec)) := by simp [hk2]
  rw [← hC, List.getElem?_map] at h1
  cases hj : isC[k]? with
  | none => rw [hj] at h1; cases h1
  | some j => rw [hj] at h1; exact hD.2 j _ (Option.some.inj h1)
theorem zw_ci {S : Type} {wc : va_W} {post : Int32 → S → Prop} {w' : S → va_W} (hA : ∀ q, zw_A wc q → A0 q) (hS : va_S A0 H0 H locs) (hr : va_Run p l e R s m args below meth c H locs cells slots 0 0 (F0 m pc ls st0) rest (zw_Qi D wc post w' a) (zw_A wc))
    (kk : ∀ (r : Int32) (u : S) (H1 : Heap) (locs1 : List Loc), post r u → va_P D vwCl (w' u) H1 → va_D (zw_A wc) (w' u) → (∀ q : Nat, q < H.size → ¬ zw_A wc q → H1[q]? = H[q]?) → va_S A0 H0 H1 locs1 → W p l e R s m args below meth c H1 locs1 cells slots Q (F0 m (pc + 3) ls (.int r :: rest))) : W p l e R s m args below meth c H locs cells slots Q (F0 m pc ls st0) :=
  va_calli hr hS (fun q _ h => hA q h) hA (fun r u t H1 locs1 ht hvm hw hB hz hk hS1 => kk r u H1 locs1 hw (ht ▸ hB.1) hB.2 hk hS1)
theorem zw_cf {S : Type} {wc : va_W} {post : UInt32 → S → Prop} {w' : S → va_W} (hA : ∀ q, zw_A wc q → A0 q) (hS : va_S A0 H0 H locs) (hr : va_Run p l e R s m args below meth c H locs cells slots 0 0 (F0 m pc ls st0) rest (zw_Qf D wc post w' a) (zw_A wc))
    (kk : ∀ (r : UInt32) (u : S) (H1 : Heap) (locs1 : List Loc), post r u → va_P D vwCl (w' u) H1 → va_D (zw_A wc) (w' u) → (∀ q : Nat, q < H.size → ¬ zw_A wc q → H1[q]? = H[q]?) → va_S A0 H0 H1 locs1 → W p l e R s m args below meth c H1 locs1 cells slots Q (F0 m (pc + 3) ls (.float r :: rest))) : W p l e R s m args below meth c H locs cells slots Q (F0 m pc ls st0) :=
  va_callf hr hS (fun q _ h => hA q h) hA (fun r u t H1 locs1 ht hvm hw hB hz hk hS1 => kk r u H1 locs1 hw (ht ▸ hB.1) hB.2 hk hS1)
theorem zw_cl {S : Type} {wc : va_W} {post : Int64 → S → Prop} {w' : S → va_W} (hA : ∀ q, zw_A wc q → A0 q) (hS : va_S A0 H0 H locs) (hr : va_Run p l e R s m args below meth c H locs cells slots 0 0 (F0 m pc ls st0) rest (zw_Ql D wc post w' a) (zw_A wc))
    (kk : ∀ (r : Int64) (u : S) (H1 : Heap) (locs1 : List Loc), post r u → va_P D vwCl (w' u) H1 → va_D (zw_A wc) (w' u) → (∀ q : Nat, q < H.size → ¬ zw_A wc q → H1[q]? = H[q]?) → va_S A0 H0 H1 locs1 → W p l e R s m args below meth c H1 locs1 cells slots Q (F0 m (pc + 3) ls (.long r :: rest))) : W p l e R s m args below meth c H locs cells slots Q (F0 m pc ls st0) :=
  va_calll hr hS (fun q _ h => hA q h) hA (fun r u t H1 locs1 ht hvm hw hB hz hk hS1 => kk r u H1 locs1 hw (ht ▸ hB.1) hB.2 hk hS1)
theorem zw_cv {S : Type} {wc : va_W} {post : S → Prop} {w' : S → va_W} (hA : ∀ q, zw_A wc q → A0 q) (hS : va_S A0 H0 H locs) (hr : va_Run p l e R s m args below meth c H locs cells slots 0 0 (F0 m pc ls st0) rest (zw_Qv D wc post w' a) (zw_A wc))
    (kk : ∀ (u : S) (H1 : Heap) (locs1 : List Loc), post u → va_P D vwCl (w' u) H1 → va_D (zw_A wc) (w' u) → (∀ q : Nat, q < H.size → ¬ zw_A wc q → H1[q]? = H[q]?) → va_S A0 H0 H1 locs1 → W p l e R s m args below meth c H1 locs1 cells slots Q (F0 m (pc + 3) ls rest)) : W p l e R s m args below meth c H locs cells slots Q (F0 m pc ls st0) :=
  va_callv hr hS (fun q _ h => hA q h) hA (fun u t H1 locs1 ht hvm hw hB hz hk hS1 => kk u H1 locs1 hw (ht ▸ hB.1) hB.2 hk hS1)
/-- the number on top is as well this one -/
theorem zr_ti {x y : Int32} (h : x = y) (k : W p l e R s m args below meth c H locs cells slots Q (F0 m pc ls (.int y :: rest))) : W p l e R s m args below meth c H locs cells slots Q (F0 m pc ls (.int x :: rest)) := h ▸ k
theorem zr_tl {x y : Int64} (h : x = y) (k : W p l e R s m args below meth c H locs cells slots Q (F0 m pc ls (.long y :: rest))) : W p l e R s m args below meth c H locs cells slots Q (F0 m pc ls (.long x :: rest)) := h ▸ k
theorem zr_tf {x y : UInt32} (h : x = y) (k : W p l e R s m args below meth c H locs cells slots Q (F0 m pc ls (.float y :: rest))) : W p l e R s m args below meth c H locs cells slots Q (F0 m pc ls (.float x :: rest)) := h ▸ k
end ZRC
/-! plain facts of small numbers -/
theorem zn_in {v : Int32} {n : Nat} (h0 : ¬ v < 0) (h : ¬ nI n ≤ v) (hn : n < 2 ^ 31) : ∃ t : Nat, t < n ∧ v = nI t := by
  obtain ⟨j, hj, rfl⟩ := nI_of h0
  exact ⟨j, by
    rcases Nat.lt_or_ge j n with q | q
    · exact q
    · exact absurd (nI_le q hj) h, rfl⟩
theorem zn_lo {v : Int32} {n : Nat} (h0 : v < 0) (hn : n < 2 ^ 31) : ∀ t : Nat, t < n → v ≠ nI t := fun t ht e => nI_pos (n := t) (by omega) (e ▸ h0)
theorem zn_hi {v : Int32} {n : Nat} (h0 : nI n ≤ v) (hn : n < 2 ^ 31) : ∀ t : Nat, t < n → v ≠ nI t := fun t ht e => nI_ge ht hn (e ▸ h0)
section ZRQ
variable {p : Program} {l : Launch} {e : Env} {R : Room} {s : State} {m : MethodId} {args : Array Value} {below : List Frame} {meth : Method} {c : Code} {H : Heap} {locs : List Loc} {cells slots : Nat}
/-- a name for what is to be reached -/
theorem zr_nQ {Q : State → Prop} {g : JFrame} (h : ∀ Q' : State → Prop, Q' = Q → W p l e R s m args below meth c H locs cells slots Q' g) : W p l e R s m args below meth c H locs cells slots Q g := h Q rfl
end ZRQ
/-! the rounds: G r k is the team at place k of round r (game k / 2; home, if k is even), P r t the place of team t -/
def zm_mate (k : Nat) : Nat := if k % 2 = 0 then k + 1 else k - 1
def zm_rv (G P : Nat → Nat → Nat) (t r : Nat) : Nat := G r (zm_mate (P r t))
def zm_sd (P : Nat → Nat → Nat) (t r : Nat) : Nat := 1 - P r t % 2
def zm_gm (P : Nat → Nat → Nat) (t r : Nat) : Nat := P r t / 2
/-- n teams (4 or 6), in each round each at one place -/
def zm_ok (N : Nat) (G P : Nat → Nat → Nat) : Prop := (N = 4 ∨ N = 6) ∧ (∀ r k, r < N - 1 → k < N → G r k < N ∧ P r (G r k) = k) ∧ (∀ r t, r < N - 1 → t < N → P r t < N ∧ G r (P r t) = t)
/-- what a Plan's rows hold -/
def zm_pl (N : Nat) (G P : Nat → Nat → Nat) (hm aw rv sd gm : Nat → Int32) : Prop :=
  zm_ok N G P ∧ (∀ r k, r < N - 1 → k < N / 2 → hm (r * 3 + k) = nI (G r (2 * k))) ∧ (∀ r k, r < N - 1 → k < N / 2 → aw (r * 3 + k) = nI (G r (2 * k + 1))) ∧
  (∀ r t, r < N - 1 → t < N → rv (r * 6 + t) = nI (zm_rv G P t r)) ∧ (∀ r t, r < N - 1 → t < N → sd (r * 6 + t) = nI (zm_sd P t r)) ∧ (∀ r t, r < N - 1 → t < N → gm (r * 6 + t) = nI (zm_gm P t r))
theorem zm_mate_lt {N k : Nat} (h : N = 4 ∨ N = 6) (hk : k < N) : zm_mate k < N := by
  unfold zm_mate; split <;> omega
theorem zm_rv_lt {N t r : Nat} {G P : Nat → Nat → Nat} (h : zm_ok N G P) (hr : r < N - 1) (ht : t < N) : zm_rv G P t r < N := (h.2.1 r _ hr (zm_mate_lt h.1 (h.2.2 r t hr ht).1)).1
theorem zm_sd_lt {t r : Nat} {P : Nat → Nat → Nat} : zm_sd P t r < 2 := by unfold zm_sd; omega
/-! sums, the first that is so -/
def zm_sum (f : Nat → Nat) : Nat → Nat | 0 => 0 | n + 1 => zm_sum f n + f n
def zm_find (f : Nat → Nat) (j : Nat) : Nat → Nat → Int32 | 0, _ => -1 | k + 1, r => if f r = j then nI r else zm_find f j k (r + 1)
/-- the pattern of a team -/
def zm_pat (P : Nat → Nat → Nat) (t : Nat) : Nat → Int32 | 0 => nI 0 | i + 1 => if zm_sd P t i = 1 then zm_pat P t i ||| ((nI 1) <<< (nI i &&& 31)) else zm_pat P t i
/-- breaks -/
def zm_bf (P : Nat → Nat → Nat) (t r : Nat) : Nat := if zm_sd P t r = zm_sd P t (r + 1) then 1 else 0
def zm_br (N : Nat) (P : Nat → Nat → Nat) (t : Nat) : Nat := zm_sum (zm_bf P t) (N - 2)
def zm_brs (N : Nat) (P : Nat → Nat → Nat) : Nat := zm_sum (zm_br N P) N
theorem zm_bf_lt {P : Nat → Nat → Nat} {t r : Nat} : zm_bf P t r < 2 := by unfold zm_bf; split <;> omega
theorem zm_sum_le {f : Nat → Nat} {b : Nat} (h : ∀ i, f i ≤ b) : ∀ n, zm_sum f n ≤ n * b
  | 0 => by simp [zm_sum]
  | n + 1 => by
    have h1 := zm_sum_le h n
    have h2 := h n
    rw [zm_sum, Nat.succ_mul]; omega
theorem zm_br_le {N : Nat} {P : Nat → Nat → Nat} {t : Nat} (h : N = 4 ∨ N = 6) : zm_br N P t ≤ 4 := by
  have h1 := zm_sum_le (f := zm_bf P t) (b := 1) (fun i => by have := zm_bf_lt (P := P) (t := t) (r := i); omega) (N - 2)
  unfold zm_br; omega
theorem zm_brs_le {N : Nat} {P : Nat → Nat → Nat} (h : N = 4 ∨ N = 6) : zm_brs N P ≤ 24 := by
  have h1 := zm_sum_le (f := zm_br N P) (b := 4) (fun i => zm_br_le h) N
  unfold zm_brs; omega
def zm_meet (N : Nat) (G P : Nat → Nat → Nat) (i j : Nat) : Int32 := zm_find (zm_rv G P i) j (N - 1) 0
def zm_half (N kd r : Nat) : Nat := if r < N - 1 then r else if kd = 0 then r - (N - 1) else if kd = 1 then N - 2 - (r - (N - 1)) else if r - (N - 1) = 0 then N - 2 else r - (N - 1) - 1
theorem zm_half_lt {N kd r : Nat} (h : N = 4 ∨ N = 6) (hr : r < 2 * (N - 1)) : zm_half N kd r < N - 1 := by
  unfold zm_half; repeat' split
  all_goals omega
def zm_ss (N : Nat) (P : Nat → Nat → Nat) (kd t r : Nat) : Nat := if r < N - 1 then zm_sd P t (zm_half N kd r) else 1 - zm_sd P t (zm_half N kd r)
theorem zm_ss_lt {N kd t r : Nat} {P : Nat → Nat → Nat} : zm_ss N P kd t r < 2 := by
  have := zm_sd_lt (P := P) (t := t) (r := zm_half N kd r)
  unfold zm_ss; split <;> omega
def zm_sbf (N : Nat) (P : Nat → Nat → Nat) (kd t r : Nat) : Nat := if zm_ss N P kd t r = zm_ss N P kd t (r + 1) then 1 else 0
def zm_sb (N : Nat) (P : Nat → Nat → Nat) (kd t : Nat) : Nat := zm_sum (zm_sbf N P kd t) (2 * (N - 1) - 1)
def zm_sbs (N : Nat) (P : Nat → Nat → Nat) (kd : Nat) : Nat := zm_sum (zm_sb N P kd) N
theorem zm_sb_le {N kd t : Nat} {P : Nat → Nat → Nat} (h : N = 4 ∨ N = 6) : zm_sb N P kd t ≤ 9 := by
  have h1 := zm_sum_le (f := zm_sbf N P kd t) (b := 1) (fun i => by unfold zm_sbf; split <;> omega) (2 * (N - 1) - 1)
  unfold zm_sb; omega
theorem zm_sbs_le {N kd : Nat} {P : Nat → Nat → Nat} (h : N = 4 ∨ N = 6) : zm_sbs N P kd ≤ 54 := by
  have h1 := zm_sum_le (f := zm_sb N P kd) (b := 9) (fun i => zm_sb_le h) N
  unfold zm_sbs; omega
theorem zm_sum_mono {f : Nat → Nat} {a b : Nat} (h : a ≤ b) : zm_sum f a ≤ zm_sum f b := by
  induction h with
  | refl => exact Nat.le_refl _
  | step _ ih => exact Nat.le_trans ih (Nat.le_add_right _ _)
theorem zn_wrap {a b c : Nat} (h : b ≤ a + c) : nI a - nI b + nI c = nI (a + c - b) := by
  rw [← pk_sub h, ← nI_add, Int32.sub_eq_add_neg, Int32.sub_eq_add_neg, Int32.add_assoc, Int32.add_comm (-nI b), ← Int32.add_assoc]
theorem zn_sneg {a b : Nat} (hb : b < 2 ^ 30) (h : a < b) : ¬ 0 ≤ nI a - nI b := fun q => Int32.not_le.mpr (pk_sneg hb h) q
theorem zn_cpy {α : Type} {f g : Nat → α} {n j : Nat} (hn : n < 2 ^ 31) (h : j < n) : va_cpy f g (nI 0).toNatClampNeg (nI 0).toNatClampNeg (nI n).toNatClampNeg j = f j := by
  rw [nI_clamp (n := 0) (by omega), nI_clamp hn, pk_cpy_in (Nat.zero_le _) (by omega)]; simp
/-! ways: xs, ys are the grounds -/
def zm_ad (a b : Nat) : Nat := (a - b) + (b - a)
def zm_far (X Y : Nat → Nat) (i j : Nat) : Nat := zm_ad (X i) (X j) + zm_ad (Y i) (Y j)
/-- where a team is behind so many rounds -/
def zm_host (G P : Nat → Nat → Nat) (t : Nat) : Nat → Nat | 0 => t | r + 1 => if zm_sd P t r = 1 then t else zm_rv G P t r
def zm_way (G P : Nat → Nat → Nat) (X Y : Nat → Nat) (t r : Nat) : Nat := zm_far X Y (zm_host G P t r) (zm_host G P t (r + 1))
def zm_miles (N : Nat) (G P : Nat → Nat → Nat) (X Y : Nat → Nat) (t : Nat) : Nat := zm_far X Y (zm_host G P t (N - 1)) t + zm_sum (zm_way G P X Y t) (N - 1)
def zm_amiles (N : Nat) (G P : Nat → Nat → Nat) (X Y : Nat → Nat) : Nat := zm_sum (zm_miles N G P X Y) N
def zm_gr (X Y : Nat → Nat) (xs ys : Nat → Int32) : Prop := ∀ t, t < 6 → X t ≤ 99 ∧ Y t ≤ 99 ∧ xs t = nI (X t) ∧ ys t = nI (Y t)
theorem zm_far_le {X Y : Nat → Nat} {xs ys : Nat → Int32} (h : zm_gr X Y xs ys) {i j : Nat} (hi : i < 6) (hj : j < 6) : zm_far X Y i j ≤ 198 := by
  have h1 := h i hi
  have h2 := h j hj
  unfold zm_far zm_ad; omega
theorem zm_host_lt {N : Nat} {G P : Nat → Nat → Nat} (h : zm_ok N G P) {t : Nat} (ht : t < N) (r : Nat) (hr : r ≤ N - 1) : zm_host G P t r < N := by
  cases r with
  | zero => exact ht
  | succ r =>
    rw [zm_host]; split
    · exact ht
    · exact zm_rv_lt (t := t) (r := r) h (by omega) ht
theorem zm_way_le {N : Nat} {G P : Nat → Nat → Nat} {X Y : Nat → Nat} {xs ys : Nat → Int32} (hok : zm_ok N G P) (h : zm_gr X Y xs ys) {t r : Nat} (ht : t < N) (hr : r < N - 1) : zm_way G P X Y t r ≤ 198 := by
  have hN := hok.1
  have h1 := zm_host_lt hok ht r (by omega)
  have h2 := zm_host_lt hok ht (r + 1) (by omega)
  exact zm_far_le h (by omega) (by omega)
theorem zm_sum_leN {f : Nat → Nat} {b : Nat} : ∀ n, (∀ i, i < n → f i ≤ b) → zm_sum f n ≤ n * b
  | 0, _ => by simp [zm_sum]
  | n + 1, h => by
    have h1 := zm_sum_leN n (fun i hi => h i (by omega))
    have h2 := h n (by omega)
    rw [zm_sum, Nat.succ_mul]; omega
theorem zm_miles_le {N : Nat} {G P : Nat → Nat → Nat} {X Y : Nat → Nat} {xs ys : Nat → Int32} (hok : zm_ok N G P) (h : zm_gr X Y xs ys) {t : Nat} (ht : t < N) : zm_miles N G P X Y t ≤ 1188 := by
  have hN := hok.1
  have h1 := zm_sum_leN (f := zm_way G P X Y t) (b := 198) (N - 1) (fun i hi => zm_way_le hok h ht hi)
  have h2 := zm_host_lt hok ht (N - 1) (Nat.le_refl _)
  have h3 := zm_far_le h (i := zm_host G P t (N - 1)) (j := t) (by omega) (by omega)
  unfold zm_miles; omega
theorem zm_amiles_le {N : Nat} {G P : Nat → Nat → Nat} {X Y : Nat → Nat} {xs ys : Nat → Int32} (hok : zm_ok N G P) (h : zm_gr X Y xs ys) : zm_amiles N G P X Y ≤ 7128 := by
  have hN := hok.1
  have h1 := zm_sum_leN (f := zm_miles N G P X Y) (b := 1188) N (fun i hi => zm_miles_le hok h hi)
  unfold zm_amiles; omega
/-- the size of a difference -/
theorem zn_abs {a b : Nat} (ha : a < 2 ^ 30) (hb : b < 2 ^ 30) : (if 0 ≤ nI a - nI b then nI a - nI b else 0 - (nI a - nI b)) = nI (zm_ad a b) := by
  rcases Nat.lt_or_ge a b with h | h
  · rw [if_neg (zn_sneg hb h), Int32.sub_eq_add_neg 0, Int32.zero_add, Int32.neg_sub, pk_sub (by omega)]
    congr 1; unfold zm_ad; omega
  · rw [pk_sub h, if_pos (nI_pos' (by omega))]
    congr 1; unfold zm_ad; omega
/-- bars: a team mustn't be at home in a round -/
def zm_bz (B : Nat → Nat → Nat) (bz : Nat → Int32) : Prop := ∀ r t, r < 5 → t < 6 → B t r < 2 ∧ bz (r * 6 + t) = nI (B t r)
def zm_vf (G : Nat → Nat → Nat) (B : Nat → Nat → Nat) (r k : Nat) : Nat := B (G r (2 * k)) r
def zm_vr (N : Nat) (G B : Nat → Nat → Nat) (r : Nat) : Nat := zm_sum (zm_vf G B r) (N / 2)
def zm_vio (N : Nat) (G B : Nat → Nat → Nat) : Nat := zm_sum (zm_vr N G B) (N - 1)
