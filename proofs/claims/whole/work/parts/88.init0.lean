/-! CONSTRUCTORS: a method that makes cells; its world at the start is its object alone -/
def zi_P (D : va_G) (E : Nat → ClassId) (av : List Value) (sz : Nat) (w : va_W) : Array Value → State → Prop := va_Pc av (fun U => U.heap.size = sz ∧ va_P D vwCl w U.heap ∧ zr_G D E U ∧ va_D (fun _ => True) w)
def zi_PA (C : String) (D : va_G) (E : Nat → ClassId) (av : List Value) (sz : Nat) (w : va_W) : Array Value → State → Prop := va_Pc av (fun U => U.heap.size = sz ∧ va_P D vwCl w U.heap ∧ zr_G D E U ∧ va_D (fun _ => True) w ∧ va_AO C U)
def zi_B {S : Type} (D : va_G) (w : va_W) (sz : Nat) (w' : S → va_W) (u : S) (t : State) : Prop := va_P D vwCl (w' u) t.heap ∧ va_D (va_A w sz) (w' u)
def zi_Q {S : Type} (D : va_G) (w : va_W) (sz : Nat) (post : S → Prop) (w' : S → va_W) : Array Value → State → Outcome → State → Prop := va_Qv post (zi_B D w sz w') (va_A w sz)
theorem zi_S {D : va_G} {E : Nat → ClassId} {A : Nat → Prop} {w : va_W} {s : State} {H : Heap} {As : List Value} (hK : zr_G D E s) (hP : va_P D vwCl w H) (hD : va_D A w) : PreS s H (zi_P D E As H.size w) As :=
  ⟨fun a U g mk q => ⟨q.1, q.2.1, q.2.2.1, q.2.2.2.1.same (u := U) (U := U.calling g mk a) rfl, q.2.2.2.2⟩, fun U hU hW => ⟨rfl, by rw [hU], by rw [hU]; exact hP, hK.warm hW, hD.weaken (fun _ _ _ _ => trivial)⟩⟩
theorem zi_SA {C : String} {D : va_G} {E : Nat → ClassId} {A : Nat → Prop} {w : va_W} {s : State} {H : Heap} {As : List Value} (hAO : va_AO C s) (hK : zr_G D E s) (hP : va_P D vwCl w H) (hD : va_D A w) : PreS s H (zi_PA C D E As H.size w) As :=
  ⟨fun a U g mk q => ⟨q.1, q.2.1, q.2.2.1, q.2.2.2.1.same (u := U) (U := U.calling g mk a) rfl, q.2.2.2.2.1, va_AO.moved (u := U) (U := U.calling g mk a) (Vm.Alike.refl U.vm) q.2.2.2.2.2⟩, fun U hU hW => ⟨rfl, by rw [hU], by rw [hU]; exact hP, hK.warm hW, hD.weaken (fun _ _ _ _ => trivial), va_AO.moved hW.alike hAO⟩⟩
/-- a new array's class is the one that is known -/
theorem zi_one {s : State} {a b : ClassId} {ty : FieldType} (h1 : va_RA s a ty) (h2 : va_RA s b ty) : a = b := by
  cases ty with
  | object C =>
    obtain ⟨-, -, -, -, -, h1⟩ := h1
    obtain ⟨-, -, -, -, -, h2⟩ := h2
    exact Option.some.inj (h1.symm.trans h2)
  | _ => exact Option.some.inj (h1.symm.trans h2)
section ZIC
variable {p : Program} {l : Launch} {e : Env} {R : Room} {s : State} {m : MethodId} {args : Array Value} {below : List Frame} {meth : Method} {c : Code} {H : Heap} {locs : List Loc} {cells slots : Nat} {Q : State → Prop}
variable {pc : Nat} {ls : Array Slot} {rest st0 : List Value} {a : Array Value} {A0 : Nat → Prop} {H0 : Heap} {D : va_G} {cl : List vw_C} {ws : va_W} {cc : ByteArray} {tys : List (ClassId × FieldType)} {mc ms : Nat}
theorem zi_newa (j : Nat) (hexec : p.tables.exec = Jvm.exec) (hb : c.code = cc) {atype : ArrayType} (harr : (Cond.arrayClass (newarray.typeOf atype)).before args s = true) {ty : FieldType} {cE : ClassId} (hty : newarray.typeOf atype = ty) (hK : va_K D cl tys s) (hj : tys[j]? = some (cE, ty)) (hP : va_P D cl ws H) (hD : va_D A0 ws) (hS : va_S A0 H0 H locs) (hA : ∀ q, H0.size ≤ q → A0 q)
    {n : Int32} {N' : Nat} {a0 : vp_A} (ha : ∀ cA : ClassId, vp_cell cA a0 = arrV cA N' (fun _ => defaultValue ty)) (hn : ¬ n < 0) (hN : n.toNatClampNeg = N') (hbytes : N' * componentBytes ty ≤ 536870912) (hcells : cells + 1 ≤ R.cells) (hslots : slots + N' ≤ R.slots) (hdg : decode cc pc = .ok (.newarray atype, 2))
    (kk : ∀ (q : Nat) (H1 : Heap), va_P D cl (ws ++ [(q, .inl (cE, a0))]) H1 → va_D A0 (ws ++ [(q, .inl (cE, a0))]) → va_S A0 H0 H1 locs →
      W p l e R s m args below meth c H1 locs (cells + 1) (slots + N') Q (F0 m (pc + 2) ls (.ref q :: rest))) : W p l e R s m args below meth c H locs cells slots Q (F0 m pc ls (.int n :: rest)) :=
  va_newa hexec hb harr hty hK hP hD hS hA ha hn hN hbytes hcells hslots hdg (fun q cA H1 hK1 hP1 hD1 hS1 => by
    have h1 := (hK1.2 tys.length (cA, ty) (by simp)).2
    have h2 := (hK.2 j _ hj).2
    obtain rfl : cA = cE := zi_one h1 h2
    exact kk q H1 hP1 hD1 hS1)
theorem zi_newq (j : Nat) (hexec : p.tables.exec = Jvm.exec) (hb : c.code = cc) {own C : String} {index : Nat} {cE : ClassId} (hown : s.vm.findClass own = some m.cls) (hclink : (Cond.classLink own index C).before args s = true) (hover : va_AO C s) (hK : va_K D cl tys s) (hj : tys[j]? = some (cE, .object C)) (hP : va_P D cl ws H) (hD : va_D A0 ws) (hS : va_S A0 H0 H locs) (hA : ∀ q, H0.size ≤ q → A0 q)
    {n : Int32} {N' : Nat} (hn : ¬ n < 0) (hN : n.toNatClampNeg = N') (hbytes : N' * 4 ≤ 536870912) (hcells : cells + 1 ≤ R.cells) (hslots : slots + N' ≤ R.slots) (hdg : decode cc pc = .ok (.anewarray index, 3))
    (kk : ∀ (q : Nat) (H1 : Heap), va_P D cl (ws ++ [(q, .inl (cE, N', .inr (.inr (.inr (.inr (fun _ => none))))))]) H1 → va_D A0 (ws ++ [(q, .inl (cE, N', .inr (.inr (.inr (.inr (fun _ => none))))))]) → va_S A0 H0 H1 locs →
      W p l e R s m args below meth c H1 locs (cells + 1) (slots + N') Q (F0 m (pc + 3) ls (.ref q :: rest))) : W p l e R s m args below meth c H locs cells slots Q (F0 m pc ls (.int n :: rest)) :=
  va_newq hexec hb hown hclink hover hK hP hD hS hA hn hN hbytes hcells hslots hdg (fun q cA H1 hK1 hP1 hD1 hS1 => by
    have h1 := (hK1.2 tys.length (cA, .object C) (by simp)).2
    have h2 := (hK.2 j _ hj).2
    obtain rfl : cA = cE := zi_one h1 h2
    exact kk q H1 hP1 hD1 hS1)
/-- behind a constructor's call: the cells wc (at isC) are w' u now, the rest stays -/
theorem zi_cv {S : Type} {post : S → Prop} {w' : S → va_W} {wc wr : va_W} (hP : va_P D vwCl ws H) (hD : va_D A0 ws) (hS : va_S A0 H0 H locs) (hA : ∀ q, H0.size ≤ q → A0 q) (isC isR : List Nat) (hC : isC.map (fun i => ws[i]?) = wc.map some) (hR : isR.map (fun i => ws[i]?) = wr.map some) (hn : va_nd isR = true) (hdis : ∀ i ∈ isR, i ∉ isC)
    (hr : va_Run p l e R s m args below meth c H locs cells slots mc ms (F0 m pc ls st0) rest (zi_Q D wc H.size post w' a) (va_A wc H.size))
    (kk : ∀ (u : S) (H1 : Heap) (locs1 : List Loc), post u → va_P D vwCl (wr ++ w' u) H1 → va_D A0 (wr ++ w' u) → va_S A0 H0 H1 locs1 → W p l e R s m args below meth c H1 locs1 (cells + mc) (slots + ms) Q (F0 m (pc + 3) ls rest)) : W p l e R s m args below meth c H locs cells slots Q (F0 m pc ls st0) :=
  va_callv hr hS (fun q _ h => va_free hD hS hA isC hC q h) (va_free hD hS hA isC hC) (fun u t H1 locs1 ht hvm hw hB hz hk hS1 => by
    obtain ⟨hP1, hD1⟩ := hB
    rw [ht] at hP1
    obtain ⟨hP2, hD2⟩ := va_join hP hD isC isR hC hR hn hdis hk (va_free hD hS hA isC hC) hP1 hD1
    exact kk u H1 locs1 hw hP2 hD2 hS1)
end ZIC
/-- what the arrays begin with -/
def zi_rt : Nat → Int32 := upd (upd (upd (upd (fun _ => 0) 0 (nI 10)) 1 (nI 50)) 2 (nI 1)) 3 (nI 0)
def zi_w0 : Nat → Int32 := upd (upd (upd (fun _ => 0) 5 (nI 10)) 6 (nI 50)) 7 (nI 1)
def zi_so : Nat → Int32 := upd (upd (upd (upd (upd (upd (fun _ => 0) 0 (-1)) 1 (-1)) 2 (-1)) 3 (-1)) 4 (-1)) 5 (-1)
theorem zi_eS {A : Nat → Prop} {w : va_W} {sz : Nat} {H0 H : Heap} {locs : List Loc} (h : A = va_A w sz) (hS : va_S A H0 H locs) : va_S (va_A w sz) H0 H locs := h ▸ hS
theorem zi_eD {A : Nat → Prop} {w ws : va_W} {sz : Nat} (h : A = va_A w sz) (hD : va_D A ws) : va_D (va_A w sz) ws := h ▸ hD
