/-! Enum.ordinal walked where it is called, in place of a contract: no word of the Statement says that java/lang/Enum is initialised, and the machine doesn't ask it at an invokevirtual -/
theorem zj_back {l : Launch} {R : Room} {p : Program} {e : Env} {below : List Frame} {s : State} {sargs : Array Value} {y : MethodName} {len W : Nat} {rm : Room} {Pc : Array Value → State → Prop} {Qc : Array Value → State → Outcome → State → Prop} {mc ms : Nat} {free : Addr → Prop} {bytes : ByteArray} {maxL : Nat} {ret : Option FieldType}
    (hy : plainFor y = true) (hframes : rm.frames + 1 ≤ R.frames) (hlocals : W + (maxL + 11) + rm.locals ≤ R.locals) (hrc : rm.cells = mc) (hrs : rm.slots = ms) (hblind : FrameBlind Pc)
    (hcode : ∀ (a' : Array Value) (U : State), s.WarmedH U.vm → (Cond.code y bytes maxL ret).before a' U = true)
    (hbody : ∀ (s' : State) (m' : MethodId) (a : Array Value) (below' : List Frame) (meth' : Method) (c' : Code) (s₁ : State), s.WarmedH s'.vm → s'.methodNamed? y = some m' → meth'.sig.returnType = ret → meth'.locks = false → c'.code = bytes → c'.maxLocals = maxL → Pc a s' → s₁.heap = s'.heap → Stand p l e rm s' m' a below' meth' c' s₁ [] 0 0 → ∃ t, Steps p.tables e below' (s₁.setTop (entryFrame m' a maxL)) t ∧ MQ below' Qc a s' mc ms free t) :
    Back l R p e below s sargs y len W (PreOf R mc ms Pc) (PostOf Qc mc ms free) := by
  intro m meth c A g ig mk a X hg hsize hdg hW hn hp
  obtain ⟨U, Ls, c0, s0⟩ := A
  obtain ⟨hp1, hp2, hp3⟩ := hp
  dsimp only [Pt.U, Pt.locs, Pt.cells, Pt.slots] at X hn hp1 hp2 hp3 ⊢
  obtain ⟨methY, cY, hmY, hcY, hbY, hlY, hretY, hlockY, -, -⟩ := Cond.code_spec hn (hcode a U X.warmed)
  have h : At U g.method c below := by rw [hg]; exact X.here
  obtain ⟨mid, hmid⟩ := h.above
  have hroom : (U.calling g mk a).hasRoom e.platform rm = true := X.room_calling (g := g) (R' := rm) hsize hmY hcY hframes (by rw [hlY]; omega) (by rw [hrc]; exact hp1) (by rw [hrs]; exact hp2)
  have hf' : (U.calling g mk a).frames = .invoking mk a :: .java g :: U.frames.tail := State.frames_calling h.top g mk a
  have hhears : (U.calling g mk a).hears mk (.java g :: U.frames.tail) = true := by
    have hcd : (U.calling g mk a).code? g.method = some c := by
      have := h.code
      rw [State.code?_eq] at this ⊢
      simpa [State.calling, State.pushFrame, State.setFrames] using this
    simp [State.hears, hcd, hdg, Except.toOption]
  have hcur := State.cur_lt_of_frames hf'
  have hf1 : ((U.calling g mk a).setFrames (.java (entryFrame mk a maxL) :: .java g :: U.frames.tail)).frames = .java (entryFrame mk a maxL) :: .java g :: U.frames.tail := State.frames_setFrames _ hcur
  have ht1 := State.topJava?_of_frames hf1
  have hmY' : (U.calling g mk a).vm.method? mk = some methY := hmY
  have hn' : (U.calling g mk a).methodNamed? y = some mk := hn
  have hplain : ((U.calling g mk a).setFrames (.java (entryFrame mk a maxL) :: .java g :: U.frames.tail)).plainMethod mk := State.plainMethod.of_named (s := U.calling g mk a) hy hn' hmY'
  have hrun : (U.calling g mk a).status = .running := h.running
  have hable : (U.calling g mk a).curStatus? = some .runnable := by simpa [State.calling] using h.runnable
  have halone : (U.calling g mk a).alone = true := by simpa [State.calling] using h.alone
  have hAt : At ((U.calling g mk a).setFrames (.java (entryFrame mk a maxL) :: .java g :: U.frames.tail)) mk cY (.java g :: U.frames.tail) :=
    ⟨by rw [ht1]; rfl, ⟨[], by rw [hf1]; rfl⟩, hrun, by simpa using hable, by simpa using halone,
      by rw [State.code?_eq]; simp [State.setFrames, hmY', hcY], hplain⟩
  obtain ⟨th, hth, -⟩ := State.frames_cons hf'
  have hsame := (State.sameButNew.refl (U.calling g mk a) hth).setFrames (.java (entryFrame mk a maxL) :: .java g :: U.frames.tail) hcur
  have XC : Stand p l e rm (U.calling g mk a) mk a (.java g :: U.frames.tail) methY cY ((U.calling g mk a).setFrames (.java (entryFrame mk a maxL) :: .java g :: U.frames.tail)) [] 0 0 :=
    ⟨X.admits, X.cas, X.clock, hf', hroom, hhears, hmY', hcY, hAt, by rw [hf1]; rfl, State.WarmedH.refl _, by rw [State.stackLimits_setFrames], by rw [State.stackBytes_setFrames], hsame⟩
  obtain ⟨s₂, ⟨kk, hk1, hk2⟩, o, -, hend, hq, L, hfe, hL⟩ := hbody (U.calling g mk a) mk a (.java g :: U.frames.tail) methY cY ((U.calling g mk a).setFrames (.java (entryFrame mk a maxL) :: .java g :: U.frames.tail)) X.warmed hn' hretY hlockY hbY hlY (hblind _ _ g mk hp3) rfl XC
  have hsteps : Steps p.tables e below (((U.calling g mk a).setFrames (.java (entryFrame mk a maxL) :: .java g :: U.frames.tail)).setTop (entryFrame mk a maxL)) s₂ :=
    ⟨kk, hk1, fun j hj => by
      have h9 := hk2 j hj
      have hfb : (.java g :: U.frames.tail : List Frame) = (.java g :: mid) ++ below := by rw [hmid]; rfl
      exact (cast (congrArg (Within _) hfb) h9).weaken⟩
  have hin : (doInvoke e (U.setTop g) [] mk a).1 = ((U.calling g mk a).setFrames (.java (entryFrame mk a maxL) :: .java g :: U.frames.tail)).setTop (entryFrame mk a maxL) := by
    rw [doInvoke_enter (g := g) h.top [] hmY hcY hlockY (X.notFull (g := g) (vars := cY.maxLocals) hsize (by omega) (by rw [hlY]; omega)), hlY]
    simp only [State.calling, State.pushFrame, State.setFrames_setFrames, State.frames_setTop' g h.top]
  rw [hin]
  obtain ⟨⟨v, rfl⟩, hW₂, e2, q2, q3, q4, q5, q6⟩ := id hfe
  have e3 : s₂ = ({ (U.calling g mk a).setFrames s₂.frames with heap := s₂.heap, slotsUsed := s₂.slotsUsed } : State).setVm s₂.vm := by
    have : s₂ = ({ s₂ with vm := (U.calling g mk a).vm } : State).setVm s₂.vm := rfl
    rw [e2] at this
    exact this
  obtain ⟨c₂, i₂, len₂, hc₂, hd₂, hf₂⟩ := hend
  have hW' : U.WarmedH s₂.vm := hW₂
  have hcc : c₂ = c := by
    have h1 : s₂.code? g.method = U.code? g.method := by
      rw [State.code?_eq, State.code?_eq, hW'.alike.method?]
    exact Option.some.inj (hc₂.symm.trans (h1.trans h.code))
  subst hcc
  have hlen : len₂ = len := by rw [hdg] at hd₂; cases hd₂; rfl
  subst hlen
  obtain ⟨g₀, hg0⟩ := Option.isSome_iff_exists.mp h.top
  obtain ⟨r, hr⟩ := State.topJava?_eq_some.mp hg0
  have hs₂ : s₂ = (({ U with heap := s₂.heap, slotsUsed := s₂.slotsUsed } : State).setVm s₂.vm).setTop { g with pc := g.pc + len₂, stack := v.toList ++ g.stack } := by
    have hr' : (({ U with heap := s₂.heap, slotsUsed := s₂.slotsUsed } : State).setVm s₂.vm).frames = .java g₀ :: r := hr
    refine e3.trans ?_
    rw [hf₂, State.calling_eq h.top, State.setFrames_setFrames, State.setTop_of_frames _ hr', hr]
    rfl
  have hsame2 : U.sameButNew ({ U with heap := s₂.heap, slotsUsed := s₂.slotsUsed } : State) L mc ms := by
    refine ⟨?_, q2, q3, q4, q5, q6⟩
    obtain ⟨t, ht, -⟩ := State.frames_cons hr
    show ({ U with heap := s₂.heap, slotsUsed := s₂.slotsUsed } : State) = { U.setFrames U.frames with heap := s₂.heap, slotsUsed := s₂.slotsUsed }
    rw [State.setFrames_self ht]
  subst hg
  refine ⟨v, ⟨(({ U with heap := s₂.heap, slotsUsed := s₂.slotsUsed } : State).setVm s₂.vm), Ls ++ L, c0 + mc, s0 + ms⟩,
    ⟨X.admits, X.cas, X.clock, X.frames, X.room, X.hears, X.method, X.code, (X.here.setHeapUsed s₂.heap s₂.slotsUsed).setVm hW'.alike, X.tail, State.WarmedH.trans X.warmed hW', X.limits, X.bytes, X.same.trans (hsame2.setVm s.vm)⟩,
    ⟨g, mk, s₂, L, rfl, rfl, hq, rfl, hL, rfl, rfl⟩, ?_⟩
  show Steps p.tables e below _ ((({ U with heap := s₂.heap, slotsUsed := s₂.slotsUsed } : State).setVm s₂.vm).setTop { g with pc := g.pc + len₂, stack := v.toList ++ g.stack })
  rw [← hs₂]
  exact hsteps
set_option maxHeartbeats 4000000 in
set_option maxRecDepth 100000 in
/-- Enum.ordinal of the word i, its frame walked -/
theorem zj_runO {p : Program} {l : Launch} {e : Env} {R : Room} {s : State} {m : MethodId} {args : Array Value} {below : List Frame} {meth : Method} {c : Code} {H : Heap} {locs : List Loc} {cells slots : Nat} {D : va_G} {E : Nat → ClassId} {adK adV ad : Nat → Nat} {wa sa i nL index : Nat} {cc : ByteArray} {Ts : List Cond} {own : String} {rest : List Value} {g : JFrame} {b : Addr} (hi8 : i < 8)
    (S : CallFix p m c cc nL s args Ts own) (hws : ∀ w ∈ wsJx29ce0_ordinal_8abf5, ∀ (a' : Array Value) (U : State), s.WarmedH U.vm → w.before a' U = true)
    (hlink : (Cond.methodLink own index ⟨"HomeRounds$Word", "ordinal", "()I"⟩).before args s = true) (hsame : (Cond.sameMethod "HomeRounds$Word" "java/lang/Enum" "ordinal" "()I").before args s = true)
    (hsel : (Cond.selects RX6 ⟨"HomeRounds$Word", "ordinal", "()I"⟩ yJx29ce0_ordinal_8abf5).before args s = true) (hinst : (Cond.instanceMethod yJx29ce0_ordinal_8abf5).before args s = true)
    (hcode : (Cond.code yJx29ce0_ordinal_8abf5 cJx29ce0_ordinal_8abf5 1 (some .int)).before args s = true)
    (hR1 : 1 ≤ R.frames) (hR2 : 20 ≤ R.locals) (hp : PreV s H RX6 b (zrE_P D E adK adV ad wa sa [.ref (ad i)] []) [])
    (hg : g.method = m) (hsize : g.locals.size = nL) (hstack : g.stack = .ref b :: rest) (hW : 2 * g.monitorRoom + (rest.map fun v => v.category).sum ≤ 8) (hdg : decode cc g.pc = .ok (.invokevirtual index, 3)) (hf : cells + 0 ≤ R.cells ∧ slots + 0 ≤ R.slots) :
    va_Run p l e R s m args below meth c H locs cells slots 0 0 g rest (zr_Qi (fun zv => zv = nI i) ([Value.ref b].toArray)) (fun _ => False) := by
  obtain ⟨hx, hb, hml, ho, -⟩ := S
  have hK : Back l R p e below s args yJx29ce0_ordinal_8abf5 3 8 (PreOf R 0 0 (zrE_P D E adK adV ad wa sa [.ref (ad i)] [])) (PostOf (zr_Qi (fun zv => zv = nI i)) 0 0 (fun _ => False)) := by
    refine zj_back (rm := { frames := 0, cells := 0, slots := 0, locals := 0 }) (bytes := cJx29ce0_ordinal_8abf5) (maxL := 1) (ret := some .int) (by decide +kernel) (by show 0 + 1 ≤ R.frames; omega) (by show 8 + (1 + 11) + 0 ≤ R.locals; omega) rfl rfl hp.1 (fun a' U h => hws _ List.mem_cons_self a' U h) ?_
    intro s' m' a below' meth' c' s₁ hW1 hnm hr hlocks hb hml hv hheap X
    obtain ⟨rfl, hP, hK, hE, hR⟩ := hv
    have hts : ∀ w ∈ wsJx29ce0_ordinal_8abf5, w.before _ s' = true := fun w h => hws w h ([.ref (ad i)] : List Value).toArray s' hW1
    have hown : s'.vm.findClass RJx29ce0 = some m'.cls := findClass_of_methodNamed hnm
    have hP : va_P D vwCl [] s'.heap := hP
    have hS : va_S (fun _ : Nat => False) s'.heap s'.heap [] := va_S.rf
    have KW : W p l e { frames := 0, cells := 0, slots := 0, locals := 0 } s' m' ([.ref (ad i)] : List Value).toArray below' meth' c' s'.heap [] 0 0 (MQ below' (zr_Qi (fun zv => zv = nI i)) ([.ref (ad i)] : List Value).toArray s' 0 0 (fun _ => False)) (entryFrame m' ([.ref (ad i)] : List Value).toArray 1) := by
      have hl := lv_entry ([.ref (ad i)]) (n := 1) (Nat.le_of_ble_eq_true rfl)
      rw [lg_entry_eq]
      generalize (lg_sl ([.ref (ad i)]) ++ List.replicate (1 - (lg_sl ([.ref (ad i)])).length) Slot.unset).toArray = ls at hl ⊢
      have hl : lv_has ls 1 [(0, .ref (ad i))] := hl
      refine zr_nQ (fun Q hQ => ?_)
      refine lv_aload_n hx hb dJx29ce0_ordinal_8abf5_0 rfl (lv_at hl 0 rfl) ?_
      refine vk_getf (v := .int (nI i)) hx hb ((hE.2.2.2.2.2.2.1 i (by omega)).2.2.2) hS hown (hts (.fieldLink RJx29ce0 7 "java/lang/Enum" "ordinal" "I") (by decide +kernel)) (fun _ h9 => h9) dJx29ce0_ordinal_8abf5_1 ?_
      subst hQ
      exact W.iret (v := nI i) hx hb hr (fun tz htz hWz => ⟨⟨nI i, (), rfl, rfl, trivial⟩, hS.F htz⟩) hS.2.2 dJx29ce0_ordinal_8abf5_4
    exact KW s₁ hheap X
  obtain ⟨-, ⟨cellB, hcB, hoB, hclB⟩, hPc⟩ := hp
  intro T hT X
  obtain ⟨v, vm₁, ⟨U', l2, c2, s2⟩, hW₁, X', ⟨g', mk, t, L, e1, e2, hq, h1, hL, h2, h3⟩, st⟩ := va_callVU X hx (C := RX6) (owner := "java/lang/Enum") (bytes := cJx29ce0_ordinal_8abf5) (maxL := 1) (ret := some .int) ho hlink hsame (va_Decl.of hinst hcode) (by decide) hsel hinst hcode hK (by rw [hT]; exact hcB) hoB hclB hg (hsize.trans hml.symm) (argsL := []) (rest := rest) (fun sig h => by
      have h8 : (parseMethodDescriptor "()I").map (fun d => d.parameters.length) = some 0 := by decide +kernel
      rw [h] at h8
      exact (Option.some.inj h8).symm) hstack hW (by rw [hb]; exact hdg)
    (fun vm₁ hW₁ => ⟨hf.1, hf.2, hPc (T.setVm vm₁) hT hW₁⟩)
  dsimp only [Pt.U, Pt.locs, Pt.cells, Pt.slots] at X' e1 e2 h1 h2 h3 st
  subst h1; subst h2; subst h3
  exact ⟨v, (T.setVm vm₁).calling g' mk (Value.ref b :: []).toArray, t, U', L, hT, X', hL, e1, e2, hq, st⟩
