/-! THE CLAIM OUT OF ONE WALK OF THE LAW'S BODY. Your part is whole_start (and what it stands on); all else here is the same for every law, but numbers. -/
def R_law : String := "HomeRoundsLaw"
def lw_P (b : Addr) (xs : List Int32) (args : Array Value) (s : State) : Prop := args = #[.ref b] ∧ s.IntsAt b xs ∧ xs.length ≤ 3072 ∧ (Jvm.Cond.and given_1 narrow_1).before args s = true
/-- what a walk over the start with the record d0 says of its end, said of the start itself -/
theorem lw_closed {s t : State} {o : Outcome} {d0 : Drawn} {L : List Loc} {k n : Nat} (hd0 : s.drawn.sameBut d0 lw_cs) (hv : ∃ v, o = .returned v) (hW : (s.setDrawn d0).WarmedH t.vm) (hs : (s.setDrawn d0).sameButNew ({ t with vm := s.vm } : State) L k n) : State.butDraws s t lw_cs (fun t1 => Framed s o t1 L k n) := by
  have h2 : t.drawn = d0 := congrArg State.drawn hs.1
  refine ⟨⟨hv, hW, State.sameButNew.setDrawn hs s.drawn⟩, ?_, by decide⟩
  rw [h2]
  exact hd0
def lw_Q (_ : Array Value) (s : State) (o : Outcome) (t : State) : Prop := o = .returned (some (.int 1)) ∧ State.butDraws s t lw_cs (fun t1 => Framed s o t1 [] 600000 7302250)
def lw_Z (below : List Frame) (a : Array Value) (s : State) : State → Prop := fun t => ∃ o, t.status = .running ∧ Ended t below o ∧ lw_Q a s o t
/-- the law's own end, with 1 on the stack, nothing written that was there before, its room as the claim has it; d0: the record of draws at this point (at the entry s.drawn: begin with 'refine W.base ?_' and 'have hd0 := Drawn.sameBut.refl s.drawn lw_cs') -/
theorem lw_ret {p : Program} {l : Launch} {e : Env} {s : State} {m : MethodId} {below : List Frame} {meth : Method} {c : Code} {b : Nat} {d0 : Drawn} (hd0 : s.drawn.sameBut d0 lw_cs) (hx : p.tables.exec = Jvm.exec) (hb : c.code = code) (hr : meth.sig.returnType = ret) (hlocks : meth.locks = false) {pc : Nat} {H : Heap} {ls : Array Slot} (hdg : decode code pc = .ok (.ireturn, 1)) : W p l e room_1 (s.setDrawn d0) m #[Value.ref b] below meth c H [] 600000 7302250 (lw_Z below #[Value.ref b] s) (F0 m pc ls [.int 1]) := by
  intro T hT X
  obtain ⟨fs, hret, hrun, hended, hW, hframe⟩ := X.leave (v := some (.int 1)) (hlocks := hlocks) (fun h => by rw [hr] at h; cases h)
  have hmeth' : T.vm.method? m = some meth := X.method'
  refine ⟨T.setFrames fs, ?_, .returned (some (.int 1)), hrun, hended, rfl, lw_closed hd0 ⟨_, rfl⟩ hW hframe⟩
  jvm_step X.here [X.here.top, hx, hb, hdg, hmeth', hr, ret, narrow_b1]
  (try refine ⟨rfl, ?_⟩); (try refine ⟨rfl, ?_⟩)
  first | (intro acts; rw [hret _ acts rfl rfl rfl]) | rw [hret _ _ rfl rfl rfl]
  exact Steps.refl _
/-- what holds at the law's entry: the machine, the code, the tables' words (any of lw_tbl by 'hts w (by decide +kernel)'), the script of L ints xs at the cell b, what the Statement gives of the start (any of its parts by flat_of_before) -/
def lw_At (p : Program) (s : State) (m : MethodId) (meth : Method) (c : Code) (b L : Nat) (xs : Nat → Int32) : Prop :=
  p.tables.exec = Jvm.exec ∧ c.code = code ∧ meth.sig.returnType = ret ∧ c.maxLocals = 4 ∧ s.vm.findClass R_law = some m.cls ∧ (∀ w ∈ lw_tbl, w.before #[Value.ref b] s = true) ∧ va_X b L xs s s.heap ∧ b < s.heap.size ∧ meth.locks = false ∧ (Jvm.Cond.and given_1 narrow_1).before #[Value.ref b] s = true
/-! little rows of the law's cases -/
theorem law_cut {c : Bool} {n : Nat} {sT sR sH : Nat → Nat} {cs : Nat → Int32} (h : zm_sc n sT sR sH cs) : zm_sc (cond c 0 n) sT sR sH cs := by
  cases c with
  | true => exact fun k hk => absurd hk (Nat.not_lt_zero _)
  | false => exact h
theorem law_cut3 {c : Bool} {n : Nat} {eW eN : Nat → Nat} {cs : Nat → Int32} (h : zm_ec n eW eN cs) : zm_ec (cond c 0 n) eW eN cs := by
  cases c with
  | true => exact fun k hk => absurd hk (Nat.not_lt_zero _)
  | false => exact h
theorem law_cut4 {c : Bool} {n : Nat} {bT bN : Nat → Nat} {cs : Nat → Int32} (h : zm_bc n bT bN cs) : zm_bc (cond c 0 n) bT bN cs := by
  cases c with
  | true => exact fun k hk => absurd hk (Nat.not_lt_zero _)
  | false => exact h
theorem law_see {N kd sn bb : Nat} {v w : Int32} {sT sR sH : Nat → Nat} {en : Nat} {eW eN : Nat → Nat} {bn : Nat} {bT bN : Nat → Nat} (h : zs_all N kd sn sT sR sH en eW eN bn bT bN) (hb : bb < 2) : zs_all N kd (cond (decide (v = -1)) 0 (cond (zc_see N sn v w) (sn + 1) sn)) (cond (zc_see N sn v w) (zm_up sT sn (zq v)) sT) (cond (zc_see N sn v w) (zm_up sR sn (zq w)) sR) (cond (zc_see N sn v w) (zm_up sH sn bb) sH) en eW eN bn bT bN := by
  obtain ⟨h1, h2, h3, h4⟩ := h
  refine ⟨h1, ?_, h3, h4⟩
  cases hd : decide (v = -1) with
  | true => exact ⟨Nat.zero_le _, fun k hk => absurd hk (Nat.not_lt_zero _)⟩
  | false =>
    cases hc : zc_see N sn v w with
    | false => exact h2
    | true =>
      unfold zc_see at hc
      rw [Bool.and_eq_true, Bool.and_eq_true] at hc
      exact zs_se_up h2 (of_decide_eq_true hc.2) (zi_x hc.1.1).1 (zi_x hc.1.2).1 hb
theorem law_event {N kd sn : Nat} {v w : Int32} {sT sR sH : Nat → Nat} {en : Nat} {eW eN : Nat → Nat} {bn : Nat} {bT bN : Nat → Nat} (h : zs_all N kd sn sT sR sH en eW eN bn bT bN) : zs_all N kd sn sT sR sH (cond (decide (v = -1)) 0 (cond ((zc_ev N v w) && decide (en < 8)) (en + 1) en)) (cond ((zc_ev N v w) && decide (en < 8)) (zm_up eW en (zq v)) eW) (cond ((zc_ev N v w) && decide (en < 8)) (zm_up eN en (zq w)) eN) bn bT bN := by
  obtain ⟨h1, h2, h3, h4⟩ := h
  refine ⟨h1, h2, ?_, h4⟩
  cases hd : decide (v = -1) with
  | true => exact ⟨Nat.zero_le _, fun k hk => absurd hk (Nat.not_lt_zero _)⟩
  | false =>
    cases hc : ((zc_ev N v w) && decide (en < 8)) with
    | false => exact h3
    | true =>
      rw [Bool.and_eq_true] at hc
      have h5 := hc.1
      unfold zc_ev at h5
      rw [Bool.and_eq_true, Bool.and_eq_true] at h5
      exact zs_ev_up h3 (of_decide_eq_true hc.2) (zc_k_ok (zi_x h5.1).1 (zi_x h5.2.1).1 h5.2.2)
theorem law_book {N kd sn : Nat} {v w : Int32} {sT sR sH : Nat → Nat} {en : Nat} {eW eN : Nat → Nat} {bn : Nat} {bT bN : Nat → Nat} (h : zs_all N kd sn sT sR sH en eW eN bn bT bN) : zs_all N kd sn sT sR sH en eW eN (cond (decide (v = -1)) 0 (cond (zc_book N bn v w) (bn + 1) bn)) (cond (zc_book N bn v w) (zm_up bT bn (zq v)) bT) (cond (zc_book N bn v w) (zm_up bN bn (zq w)) bN) := by
  obtain ⟨h1, h2, h3, h4⟩ := h
  refine ⟨h1, h2, h3, ?_⟩
  cases hd : decide (v = -1) with
  | true => exact ⟨Nat.zero_le _, fun k hk => absurd hk (Nat.not_lt_zero _)⟩
  | false =>
    cases hc : zc_book N bn v w with
    | false => exact h4
    | true =>
      unfold zc_book at hc
      rw [Bool.and_eq_true, Bool.and_eq_true] at hc
      exact zs_bo_up h4 (of_decide_eq_true hc.2) (zi_x hc.1.1).1 (Nat.le_of_lt_succ (zi_x hc.1.2).1)
theorem law_tape {so : Nat → Int32} {tn : Nat → Nat} {v w y : Int32} (h : zt_ok so tn) : zt_ok (zt_so so v w y) (zt_tn tn v w y) := by
  intro k hk
  unfold zt_so zt_tn
  cases h1 : zt_c1 v w with
  | true =>
    unfold zt_c1 at h1
    rw [Bool.and_eq_true] at h1
    by_cases hq : k = zq v
    · rw [hq, cond_true, cond_true, zu_e, zu_e]
      exact ⟨Nat.zero_le _, Or.inl ⟨of_decide_eq_true h1.2, rfl⟩⟩
    · rw [cond_true, cond_true, zu_n hq, zu_n hq]
      exact h k hk
  | false =>
    cases h2 : zt_c2 v w y with
    | true =>
      unfold zt_c2 at h2
      rw [Bool.and_eq_true, Bool.and_eq_true] at h2
      by_cases hq : k = zq v
      · rw [hq, cond_false, cond_false, cond_true, cond_true, zu_e, zu_e]
        exact ⟨Nat.le_of_lt_succ (zi_x h2.2.2).1, Or.inr ⟨zq w, (zi_x h2.2.1).1, rfl⟩⟩
      · rw [cond_false, cond_false, cond_true, cond_true, zu_n hq, zu_n hq]
        exact h k hk
    | false => exact h k hk
/-- the loop's test -/
theorem law_le {L i : Nat} (hL : L ≤ 3072) (hi : i ≤ L + 6) (h : ¬ nI L - nI 6 < nI i) : i + 6 ≤ L := by
  rcases Nat.lt_or_ge L 6 with hlt | hge
  · exfalso
    apply h
    have h1 := pk_sneg (a := L) (b := 6) (by decide) hlt
    rw [Int32.lt_iff_toInt_lt] at h1 ⊢
    rw [nI_toInt (by omega)]
    have h0 : (0 : Int32).toInt = 0 := by decide
    omega
  · rw [pk_sub hge] at h
    rcases Nat.lt_or_ge (L - 6) i with h1 | h1
    · exact absurd ((nI_ltI (by omega) (by omega)).mpr h1) h
    · omega
/-- where a walk from a pc of the law's loop leads, for whatever the two sides hold -/
def law_K (p : Program) (l : Launch) (e : Env) (s : State) (m : MethodId) (below : List Frame) (meth : Method) (c : Code) (D : va_G) (E : Nat → ClassId) (b : Nat) (x0 g0 h0 h1 h2 h3 h4 h5 h6 g1 g2 g3 g4 g5 s5 g6 s6 g7 s7 xk kh0 kh1 kh2 kh3 kh4 kh5 kh6 k1 k2 k3 k4 k5 ks5 k6 ks6 k7 ks7 xt rh0 rh1 rh2 rh3 rh4 rh5 rh6 r1 r2 r3 r4 r5 rs5 r6 rs6 r7 rs7 xx x1 x2 y1 x3 xp t0 u0 t1 u1 t2 u2 t3 u3 t4 u4 t5 u5 m0 w0 w1 w2 w3 w4 w5 w6 w7 w8 w9 : Nat) (tf : Nat → Option Nat) (pc i : Nat) : Prop := ∀ (ik : Int32) (kd : Nat) (N : Nat) (hm : Nat → Int32) (aw : Nat → Int32) (rv : Nat → Int32) (sd : Nat → Int32) (gm : Nat → Int32) (ca : Nat → Int32) (xs : Nat → Int32) (ys : Nat → Int32) (bz : Nat → Int32) (rt : Nat → Int32) (sn : Nat) (c5 : Nat → Int32) (en : Nat) (c6 : Nat → Int32) (bn : Nat) (c7 : Nat → Int32) (ksk : Nat) (kN : Nat) (khm : Nat → Int32) (kaw : Nat → Int32) (krv : Nat → Int32) (ksd : Nat → Int32) (kgm : Nat → Int32) (kca : Nat → Int32) (kxs : Nat → Int32) (kys : Nat → Int32) (kbz : Nat → Int32) (krt : Nat → Int32) (kz5 : Nat) (kc5 : Nat → Int32) (kz6 : Nat) (kc6 : Nat → Int32) (kz7 : Nat) (kc7 : Nat → Int32) (rsk : Nat) (rN : Nat) (rhm : Nat → Int32) (raw : Nat → Int32) (rrv : Nat → Int32) (rsd : Nat → Int32) (rgm : Nat → Int32) (rca : Nat → Int32) (rxs : Nat → Int32) (rys : Nat → Int32) (rbz : Nat → Int32) (rrt : Nat → Int32) (rz5 : Nat) (rc5 : Nat → Int32) (rz6 : Nat) (rc6 : Nat → Int32) (rz7 : Nat) (rc7 : Nat → Int32) (tx : Nat) (pl : Nat) (sg : Nat → Int32) (cn : Nat) (cc : Nat → Int32) (nm : Nat → Int32) (so : Nat → Int32) (tn : Nat → Nat) (ic : Nat → Nat → Int64) (he : Int32) (fa : Int32) (cl : Nat) (wv : Nat → Int32) (kv : Nat → Int32) (mv : Nat → Int32) (tg : Nat → Int32) (wd : Nat → Int32) (nu : Nat → Int32) (sv : Nat → Int32) (zs : Nat → Int32) (iv : Nat → Int64) (mj : Nat → Int64) (G : Nat → Nat → Nat) (P : Nat → Nat → Nat) (X : Nat → Nat) (Y : Nat → Nat) (B : Nat → Nat → Nat) (R : Nat → Nat) (sT : Nat → Nat) (sR : Nat → Nat) (sH : Nat → Nat) (eW : Nat → Nat) (eN : Nat → Nat) (bT : Nat → Nat) (bN : Nat → Nat) (kG : Nat → Nat → Nat) (kP : Nat → Nat → Nat) (kX : Nat → Nat) (kY : Nat → Nat) (kB : Nat → Nat → Nat) (kR : Nat → Nat) (ksT : Nat → Nat) (ksR : Nat → Nat) (ksH : Nat → Nat) (keW : Nat → Nat) (keN : Nat → Nat) (kbT : Nat → Nat) (kbN : Nat → Nat) (T : Nat → Nat) (it : Nat → Nat → Int64), (zm_pl N G P hm aw rv sd gm) → (zm_gr X Y xs ys) → (zm_bz B bz) → (zm_rt R rt) → (zm_sc sn sT sR sH c5) → (zm_ec en eW eN c6) → (zm_bc bn bT bN c7) → (zs_all N kd sn sT sR sH en eW eN bn bT bN) → (zv_all N G P X Y B R kd sn sT sR sH en eW eN bn bT bN wv) → (ik = nI 0 ∨ (ik = nI 1 ∧ (zm_pl kN kG kP khm kaw krv ksd kgm ∧ zm_gr kX kY kxs kys ∧ zm_bz kB kbz ∧ zm_rt kR krt ∧ zm_sc kz5 ksT ksR ksH kc5 ∧ zm_ec kz6 keW keN kc6 ∧ zm_bc kz7 kbT kbN kc7) ∧ zs_all kN ksk kz5 ksT ksR ksH kz6 keW keN kz7 kbT kbN ∧ zv_all kN kG kP kX kY kB kR ksk kz5 ksT ksR ksH kz6 keW keN kz7 kbT kbN kv)) → (zx_T tx T sg) → (zx_T tx T tg) → (zt_ok so tn) → (∀ k j, k < 6 → j < 60 → ic k j = it k j) → (∀ k, k < 6 → sv k = so k ∧ zs k = nI (tn k)) → (∀ k j, k < 6 → j < 60 → iv (60 * k + j) = it k j) → ∀ (H : Heap) (locs : List Loc) (ls : Array Slot), va_P D vwCl [(x0, .inr (5, [.ref g0, .ref xk, .ref xt, .ref xx, .ref xp, .int ik])), (g0, .inr (2, [.ref h0, .ref g1, .ref g2, .ref g3, .ref g4, .int (nI kd), .ref g5, .ref g6, .ref g7])), (h0, .inr (0, [.int (nI N), .ref h1, .ref h2, .ref h3, .ref h4, .ref h5, .ref h6])), (h1, .inl (E 0, 15, .inl hm)), (h2, .inl (E 0, 15, .inl aw)), (h3, .inl (E 0, 30, .inl rv)), (h4, .inl (E 0, 30, .inl sd)), (h5, .inl (E 0, 30, .inl gm)), (h6, .inl (E 0, 36, .inl ca)), (g1, .inl (E 0, 6, .inl xs)), (g2, .inl (E 0, 6, .inl ys)), (g3, .inl (E 1, 30, .inl bz)), (g4, .inl (E 0, 4, .inl rt)), (g5, .inr (1, [.int (nI 6), .ref s5, .int (nI sn)])), (s5, .inl (E 0, 48, .inl c5)), (g6, .inr (1, [.int (nI 8), .ref s6, .int (nI en)])), (s6, .inl (E 0, 48, .inl c6)), (g7, .inr (1, [.int (nI 8), .ref s7, .int (nI bn)])), (s7, .inl (E 0, 48, .inl c7)), (xk, .inr (2, [.ref kh0, .ref k1, .ref k2, .ref k3, .ref k4, .int (nI ksk), .ref k5, .ref k6, .ref k7])), (kh0, .inr (0, [.int (nI kN), .ref kh1, .ref kh2, .ref kh3, .ref kh4, .ref kh5, .ref kh6])), (kh1, .inl (E 0, 15, .inl khm)), (kh2, .inl (E 0, 15, .inl kaw)), (kh3, .inl (E 0, 30, .inl krv)), (kh4, .inl (E 0, 30, .inl ksd)), (kh5, .inl (E 0, 30, .inl kgm)), (kh6, .inl (E 0, 36, .inl kca)), (k1, .inl (E 0, 6, .inl kxs)), (k2, .inl (E 0, 6, .inl kys)), (k3, .inl (E 1, 30, .inl kbz)), (k4, .inl (E 0, 4, .inl krt)), (k5, .inr (1, [.int (nI 6), .ref ks5, .int (nI kz5)])), (ks5, .inl (E 0, 48, .inl kc5)), (k6, .inr (1, [.int (nI 8), .ref ks6, .int (nI kz6)])), (ks6, .inl (E 0, 48, .inl kc6)), (k7, .inr (1, [.int (nI 8), .ref ks7, .int (nI kz7)])), (ks7, .inl (E 0, 48, .inl kc7)), (xt, .inr (2, [.ref rh0, .ref r1, .ref r2, .ref r3, .ref r4, .int (nI rsk), .ref r5, .ref r6, .ref r7])), (rh0, .inr (0, [.int (nI rN), .ref rh1, .ref rh2, .ref rh3, .ref rh4, .ref rh5, .ref rh6])), (rh1, .inl (E 0, 15, .inl rhm)), (rh2, .inl (E 0, 15, .inl raw)), (rh3, .inl (E 0, 30, .inl rrv)), (rh4, .inl (E 0, 30, .inl rsd)), (rh5, .inl (E 0, 30, .inl rgm)), (rh6, .inl (E 0, 36, .inl rca)), (r1, .inl (E 0, 6, .inl rxs)), (r2, .inl (E 0, 6, .inl rys)), (r3, .inl (E 1, 30, .inl rbz)), (r4, .inl (E 0, 4, .inl rrt)), (r5, .inr (1, [.int (nI 6), .ref rs5, .int (nI rz5)])), (rs5, .inl (E 0, 48, .inl rc5)), (r6, .inr (1, [.int (nI 8), .ref rs6, .int (nI rz6)])), (rs6, .inl (E 0, 48, .inl rc6)), (r7, .inr (1, [.int (nI 8), .ref rs7, .int (nI rz7)])), (rs7, .inl (E 0, 48, .inl rc7)), (xx, .inr (4, [.ref x1, .ref x2, .ref x3, .int (nI tx), .int (nI pl)])), (x1, .inl (E 2, 100, .inl sg)), (x2, .inr (1, [.int (nI 12), .ref y1, .int (nI cn)])), (y1, .inl (E 0, 48, .inl cc)), (x3, .inl (E 0, 3, .inl nm)), (xp, .inl (E 4, 6, .inr (.inr (.inr (.inr tf))))), (t0, .inr (3, [.ref u0, .int (so 0), .int (nI (tn 0))])), (u0, .inl (E 3, 60, .inr (.inl (ic 0)))), (t1, .inr (3, [.ref u1, .int (so 1), .int (nI (tn 1))])), (u1, .inl (E 3, 60, .inr (.inl (ic 1)))), (t2, .inr (3, [.ref u2, .int (so 2), .int (nI (tn 2))])), (u2, .inl (E 3, 60, .inr (.inl (ic 2)))), (t3, .inr (3, [.ref u3, .int (so 3), .int (nI (tn 3))])), (u3, .inl (E 3, 60, .inr (.inl (ic 3)))), (t4, .inr (3, [.ref u4, .int (so 4), .int (nI (tn 4))])), (u4, .inl (E 3, 60, .inr (.inl (ic 4)))), (t5, .inr (3, [.ref u5, .int (so 5), .int (nI (tn 5))])), (u5, .inl (E 3, 60, .inr (.inl (ic 5)))), (m0, .inr (6, [.ref w0, .ref w1, .ref w2, .int ik, .ref w3, .int (nI tx), .int he, .int fa, .ref w4, .ref w5, .int (nI cl), .ref w6, .ref w7, .ref w8, .ref w9])), (w0, .inl (E 0, 137, .inl wv)), (w1, .inl (E 0, 137, .inl kv)), (w2, .inl (E 0, 137, .inl mv)), (w3, .inl (E 0, 100, .inl tg)), (w4, .inl (E 0, 12, .inl wd)), (w5, .inl (E 0, 36, .inl nu)), (w6, .inl (E 0, 6, .inl sv)), (w7, .inl (E 0, 6, .inl zs)), (w8, .inl (E 3, 360, .inr (.inl iv))), (w9, .inl (E 3, 60, .inr (.inl mj)))] H → va_D (fun q : Nat => s.heap.size ≤ q) [(x0, .inr (5, [.ref g0, .ref xk, .ref xt, .ref xx, .ref xp, .int ik])), (g0, .inr (2, [.ref h0, .ref g1, .ref g2, .ref g3, .ref g4, .int (nI kd), .ref g5, .ref g6, .ref g7])), (h0, .inr (0, [.int (nI N), .ref h1, .ref h2, .ref h3, .ref h4, .ref h5, .ref h6])), (h1, .inl (E 0, 15, .inl hm)), (h2, .inl (E 0, 15, .inl aw)), (h3, .inl (E 0, 30, .inl rv)), (h4, .inl (E 0, 30, .inl sd)), (h5, .inl (E 0, 30, .inl gm)), (h6, .inl (E 0, 36, .inl ca)), (g1, .inl (E 0, 6, .inl xs)), (g2, .inl (E 0, 6, .inl ys)), (g3, .inl (E 1, 30, .inl bz)), (g4, .inl (E 0, 4, .inl rt)), (g5, .inr (1, [.int (nI 6), .ref s5, .int (nI sn)])), (s5, .inl (E 0, 48, .inl c5)), (g6, .inr (1, [.int (nI 8), .ref s6, .int (nI en)])), (s6, .inl (E 0, 48, .inl c6)), (g7, .inr (1, [.int (nI 8), .ref s7, .int (nI bn)])), (s7, .inl (E 0, 48, .inl c7)), (xk, .inr (2, [.ref kh0, .ref k1, .ref k2, .ref k3, .ref k4, .int (nI ksk), .ref k5, .ref k6, .ref k7])), (kh0, .inr (0, [.int (nI kN), .ref kh1, .ref kh2, .ref kh3, .ref kh4, .ref kh5, .ref kh6])), (kh1, .inl (E 0, 15, .inl khm)), (kh2, .inl (E 0, 15, .inl kaw)), (kh3, .inl (E 0, 30, .inl krv)), (kh4, .inl (E 0, 30, .inl ksd)), (kh5, .inl (E 0, 30, .inl kgm)), (kh6, .inl (E 0, 36, .inl kca)), (k1, .inl (E 0, 6, .inl kxs)), (k2, .inl (E 0, 6, .inl kys)), (k3, .inl (E 1, 30, .inl kbz)), (k4, .inl (E 0, 4, .inl krt)), (k5, .inr (1, [.int (nI 6), .ref ks5, .int (nI kz5)])), (ks5, .inl (E 0, 48, .inl kc5)), (k6, .inr (1, [.int (nI 8), .ref ks6, .int (nI kz6)])), (ks6, .inl (E 0, 48, .inl kc6)), (k7, .inr (1, [.int (nI 8), .ref ks7, .int (nI kz7)])), (ks7, .inl (E 0, 48, .inl kc7)), (xt, .inr (2, [.ref rh0, .ref r1, .ref r2, .ref r3, .ref r4, .int (nI rsk), .ref r5, .ref r6, .ref r7])), (rh0, .inr (0, [.int (nI rN), .ref rh1, .ref rh2, .ref rh3, .ref rh4, .ref rh5, .ref rh6])), (rh1, .inl (E 0, 15, .inl rhm)), (rh2, .inl (E 0, 15, .inl raw)), (rh3, .inl (E 0, 30, .inl rrv)), (rh4, .inl (E 0, 30, .inl rsd)), (rh5, .inl (E 0, 30, .inl rgm)), (rh6, .inl (E 0, 36, .inl rca)), (r1, .inl (E 0, 6, .inl rxs)), (r2, .inl (E 0, 6, .inl rys)), (r3, .inl (E 1, 30, .inl rbz)), (r4, .inl (E 0, 4, .inl rrt)), (r5, .inr (1, [.int (nI 6), .ref rs5, .int (nI rz5)])), (rs5, .inl (E 0, 48, .inl rc5)), (r6, .inr (1, [.int (nI 8), .ref rs6, .int (nI rz6)])), (rs6, .inl (E 0, 48, .inl rc6)), (r7, .inr (1, [.int (nI 8), .ref rs7, .int (nI rz7)])), (rs7, .inl (E 0, 48, .inl rc7)), (xx, .inr (4, [.ref x1, .ref x2, .ref x3, .int (nI tx), .int (nI pl)])), (x1, .inl (E 2, 100, .inl sg)), (x2, .inr (1, [.int (nI 12), .ref y1, .int (nI cn)])), (y1, .inl (E 0, 48, .inl cc)), (x3, .inl (E 0, 3, .inl nm)), (xp, .inl (E 4, 6, .inr (.inr (.inr (.inr tf))))), (t0, .inr (3, [.ref u0, .int (so 0), .int (nI (tn 0))])), (u0, .inl (E 3, 60, .inr (.inl (ic 0)))), (t1, .inr (3, [.ref u1, .int (so 1), .int (nI (tn 1))])), (u1, .inl (E 3, 60, .inr (.inl (ic 1)))), (t2, .inr (3, [.ref u2, .int (so 2), .int (nI (tn 2))])), (u2, .inl (E 3, 60, .inr (.inl (ic 2)))), (t3, .inr (3, [.ref u3, .int (so 3), .int (nI (tn 3))])), (u3, .inl (E 3, 60, .inr (.inl (ic 3)))), (t4, .inr (3, [.ref u4, .int (so 4), .int (nI (tn 4))])), (u4, .inl (E 3, 60, .inr (.inl (ic 4)))), (t5, .inr (3, [.ref u5, .int (so 5), .int (nI (tn 5))])), (u5, .inl (E 3, 60, .inr (.inl (ic 5)))), (m0, .inr (6, [.ref w0, .ref w1, .ref w2, .int ik, .ref w3, .int (nI tx), .int he, .int fa, .ref w4, .ref w5, .int (nI cl), .ref w6, .ref w7, .ref w8, .ref w9])), (w0, .inl (E 0, 137, .inl wv)), (w1, .inl (E 0, 137, .inl kv)), (w2, .inl (E 0, 137, .inl mv)), (w3, .inl (E 0, 100, .inl tg)), (w4, .inl (E 0, 12, .inl wd)), (w5, .inl (E 0, 36, .inl nu)), (w6, .inl (E 0, 6, .inl sv)), (w7, .inl (E 0, 6, .inl zs)), (w8, .inl (E 3, 360, .inr (.inl iv))), (w9, .inl (E 3, 60, .inr (.inl mj)))] → va_S (fun q : Nat => s.heap.size ≤ q) s.heap H locs → lv_has ls 4 [(0, .ref b), (1, .ref x0), (2, .ref m0), (3, .int (nI i))] → W p l e room_1 s m #[Value.ref b] below meth c H locs 84 2668 (lw_Z below #[Value.ref b] s) (F0 m pc ls [])

