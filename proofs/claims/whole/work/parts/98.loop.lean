set_option maxHeartbeats 4000000 in
set_option maxRecDepth 100000 in
theorem law_next {p : Program} {l : Launch} {e : Env} {s : State} {m : MethodId} {below : List Frame} {meth : Method} {c : Code} {D : va_G} {E : Nat → ClassId} {b L : Nat} {zx : Nat → Int32} (x0 g0 h0 h1 h2 h3 h4 h5 h6 g1 g2 g3 g4 g5 s5 g6 s6 g7 s7 xk kh0 kh1 kh2 kh3 kh4 kh5 kh6 k1 k2 k3 k4 k5 ks5 k6 ks6 k7 ks7 xt rh0 rh1 rh2 rh3 rh4 rh5 rh6 r1 r2 r3 r4 r5 rs5 r6 rs6 r7 rs7 xx x1 x2 y1 x3 xp t0 u0 t1 u1 t2 u2 t3 u3 t4 u4 t5 u5 m0 w0 w1 w2 w3 w4 w5 w6 w7 w8 w9 : Nat) (tf : Nat → Option Nat) (C0 : lw_At p s m meth c b L zx) (i : Nat) (KN : law_K p l e s m below meth c D E b x0 g0 h0 h1 h2 h3 h4 h5 h6 g1 g2 g3 g4 g5 s5 g6 s6 g7 s7 xk kh0 kh1 kh2 kh3 kh4 kh5 kh6 k1 k2 k3 k4 k5 ks5 k6 ks6 k7 ks7 xt rh0 rh1 rh2 rh3 rh4 rh5 rh6 r1 r2 r3 r4 r5 rs5 r6 rs6 r7 rs7 xx x1 x2 y1 x3 xp t0 u0 t1 u1 t2 u2 t3 u3 t4 u4 t5 u5 m0 w0 w1 w2 w3 w4 w5 w6 w7 w8 w9 tf 18 (i + 6)) : law_K p l e s m below meth c D E b x0 g0 h0 h1 h2 h3 h4 h5 h6 g1 g2 g3 g4 g5 s5 g6 s6 g7 s7 xk kh0 kh1 kh2 kh3 kh4 kh5 kh6 k1 k2 k3 k4 k5 ks5 k6 ks6 k7 ks7 xt rh0 rh1 rh2 rh3 rh4 rh5 rh6 r1 r2 r3 r4 r5 rs5 r6 rs6 r7 rs7 xx x1 x2 y1 x3 xp t0 u0 t1 u1 t2 u2 t3 u3 t4 u4 t5 u5 m0 w0 w1 w2 w3 w4 w5 w6 w7 w8 w9 tf 1492 i := by
  intro ik kd N hm aw rv sd gm ca xs ys bz rt sn c5 en c6 bn c7 ksk kN khm kaw krv ksd kgm kca kxs kys kbz krt kz5 kc5 kz6 kc6 kz7 kc7 rsk rN rhm raw rrv rsd rgm rca rxs rys rbz rrt rz5 rc5 rz6 rc6 rz7 rc7 tx pl sg cn cc nm so tn ic he fa cl wv kv mv tg wd nu sv zs iv mj G P X Y B R sT sR sH eW eN bT bN kG kP kX kY kB kR ksT ksR ksH keW keN kbT kbN T it hpl hgr hbz hrt hsc hec hbc hzs hva hik htx htg hto hic hst hit H locs ls hP hD hS hl
  obtain ⟨hx, hb, hr, hml, hown, hts0, hX, hbl, hlocks, hgv⟩ := id C0
  have hb : c.code = cL_law := hb
  have hown : s.vm.findClass RL = some m.cls := hown
  have hbA : ¬ (fun q : Nat => s.heap.size ≤ q) b := Nat.not_le.mpr hbl
  refine lv_iinc (v := nI (i + 6)) (lv' := [(3, .int (nI (i + 6))), (0, .ref b), (1, .ref x0), (2, .ref m0)]) hx hb dL_law_1492 hl (k := 3) rfl (nI_add _ _) (by decide) rfl (fun ls hl => ?_)
  refine lv_goto (tgt := 18) hx hb dL_law_1495 (by decide) ?_
  exact KN ik kd N hm aw rv sd gm ca xs ys bz rt sn c5 en c6 bn c7 ksk kN khm kaw krv ksd kgm kca kxs kys kbz krt kz5 kc5 kz6 kc6 kz7 kc7 rsk rN rhm raw rrv rsd rgm rca rxs rys rbz rrt rz5 rc5 rz6 rc6 rz7 rc7 tx pl sg cn cc nm so tn ic he fa cl wv kv mv tg wd nu sv zs iv mj G P X Y B R sT sR sH eW eN bT bN kG kP kX kY kB kR ksT ksR ksH keW keN kbT kbN T it hpl hgr hbz hrt hsc hec hbc hzs hva hik htx htg hto hic hst hit H locs ls hP hD hS (lv_sub hl [1, 2, 3, 0] rfl)

set_option maxHeartbeats 4000000 in
set_option maxRecDepth 100000 in
theorem law_loop {p : Program} {l : Launch} {e : Env} {s : State} {m : MethodId} {below : List Frame} {meth : Method} {c : Code} {D : va_G} {E : Nat → ClassId} {b L : Nat} {zx : Nat → Int32} {adK adV ad : Nat → Nat} {wa sa : Nat} (hE : zc_E adK adV ad wa sa (fun q : Nat => s.heap.size ≤ q) s s.heap) (hR : zc_R adK s) (x0 g0 h0 h1 h2 h3 h4 h5 h6 g1 g2 g3 g4 g5 s5 g6 s6 g7 s7 xk kh0 kh1 kh2 kh3 kh4 kh5 kh6 k1 k2 k3 k4 k5 ks5 k6 ks6 k7 ks7 xt rh0 rh1 rh2 rh3 rh4 rh5 rh6 r1 r2 r3 r4 r5 rs5 r6 rs6 r7 rs7 xx x1 x2 y1 x3 xp t0 u0 t1 u1 t2 u2 t3 u3 t4 u4 t5 u5 m0 w0 w1 w2 w3 w4 w5 w6 w7 w8 w9 : Nat) (tf : Nat → Option Nat) (C0 : lw_At p s m meth c b L zx) (hL : L ≤ 3072) (hK : zr_G D E s) (htf0 : tf 0 = some t0) (htf1 : tf 1 = some t1) (htf2 : tf 2 = some t2) (htf3 : tf 3 = some t3) (htf4 : tf 4 = some t4) (htf5 : tf 5 = some t5) : ∀ (n i : Nat), L + 6 < i + n → i ≤ L + 6 → law_K p l e s m below meth c D E b x0 g0 h0 h1 h2 h3 h4 h5 h6 g1 g2 g3 g4 g5 s5 g6 s6 g7 s7 xk kh0 kh1 kh2 kh3 kh4 kh5 kh6 k1 k2 k3 k4 k5 ks5 k6 ks6 k7 ks7 xt rh0 rh1 rh2 rh3 rh4 rh5 rh6 r1 r2 r3 r4 r5 rs5 r6 rs6 r7 rs7 xx x1 x2 y1 x3 xp t0 u0 t1 u1 t2 u2 t3 u3 t4 u4 t5 u5 m0 w0 w1 w2 w3 w4 w5 w6 w7 w8 w9 tf 18 i := by
  intro n
  induction n with
  | zero => intro i hq1 hq2; exfalso; omega
  | succ n ih =>
    intro i hq1 hq2 ik kd N hm aw rv sd gm ca xs ys bz rt sn c5 en c6 bn c7 ksk kN khm kaw krv ksd kgm kca kxs kys kbz krt kz5 kc5 kz6 kc6 kz7 kc7 rsk rN rhm raw rrv rsd rgm rca rxs rys rbz rrt rz5 rc5 rz6 rc6 rz7 rc7 tx pl sg cn cc nm so tn ic he fa cl wv kv mv tg wd nu sv zs iv mj G P X Y B R sT sR sH eW eN bT bN kG kP kX kY kB kR ksT ksR ksH keW keN kbT kbN T it hpl hgr hbz hrt hsc hec hbc hzs hva hik htx htg hto hic hst hit H locs ls hP hD hS hl
    obtain ⟨hx, hb, hr, hml, hown, hts0, hX, hbl, hlocks, hgv⟩ := id C0
    have hb : c.code = cL_law := hb
    have hown : s.vm.findClass RL = some m.cls := hown
    have hbA : ¬ (fun q : Nat => s.heap.size ≤ q) b := Nat.not_le.mpr hbl
    refine lv_iload_n hx hb dL_law_18 rfl (lv_at hl 3 rfl) ?_
    refine lv_aload_n hx hb dL_law_19 rfl (lv_at hl 0 rfl) ?_
    refine va_slen hx hb hX hbl hbA hS dL_law_20 ?_
    refine zr_ti (y := nI L) rfl ?_
    refine lv_bipush (v := nI 6) hx hb dL_law_21 (by rfl) ?_
    refine lv_isub hx hb dL_law_23 ?_
    refine lv_icmp_gt (tgt := 1498) hx hb dL_law_24 (by decide) (fun cz => ?_) (fun cz => ?_)
    · refine lv_iconst (v := 1) hx hb dL_law_1498 (by decide) ?_
      refine va_forget (fun q h => hS.2.2 q h) ?_
      refine W.widen (k := 600000) (n := 7302250) (Nat.le_of_ble_eq_true rfl) (Nat.le_of_ble_eq_true rfl) ?_
      refine W.base ?_
      exact lw_ret (Drawn.sameBut.refl s.drawn lw_cs) hx hb hr hlocks dL_law_1499
    · have hi : i + 6 ≤ L := law_le hL hq2 cz
      have KN := law_next (L := L) (zx := zx) x0 g0 h0 h1 h2 h3 h4 h5 h6 g1 g2 g3 g4 g5 s5 g6 s6 g7 s7 xk kh0 kh1 kh2 kh3 kh4 kh5 kh6 k1 k2 k3 k4 k5 ks5 k6 ks6 k7 ks7 xt rh0 rh1 rh2 rh3 rh4 rh5 rh6 r1 r2 r3 r4 r5 rs5 r6 rs6 r7 rs7 xx x1 x2 y1 x3 xp t0 u0 t1 u1 t2 u2 t3 u3 t4 u4 t5 u5 m0 w0 w1 w2 w3 w4 w5 w6 w7 w8 w9 tf C0 i (ih (i + 6) (by omega) (by omega))
      refine lv_aload_n hx hb dL_law_27 rfl (lv_at hl 0 rfl) ?_
      refine lv_iload_n hx hb dL_law_28 rfl (lv_at hl 3 rfl) ?_
      refine va_sld hx hb hX hbl hbA hS (vp_in_nI (by omega) (by omega)) dL_law_29 ?_
      refine zr_ti (y := zx (i)) (congrArg zx (nI_clamp (by omega))) ?_
      refine lv_bipush (v := nI 63) hx hb dL_law_30 (by rfl) ?_
      refine lv_iand hx hb dL_law_32 ?_
      rcases zn_sw ((zx (i)) &&& (nI 63)) 40 with hsw | hsw
      · obtain ⟨kz, hkz, hxz⟩ := hsw
        have hsw : kz = 0 ∨ kz = 1 ∨ kz = 2 ∨ kz = 3 ∨ kz = 4 ∨ kz = 5 ∨ kz = 6 ∨ kz = 7 ∨ kz = 8 ∨ kz = 9 ∨ kz = 10 ∨ kz = 11 ∨ kz = 12 ∨ kz = 13 ∨ kz = 14 ∨ kz = 15 ∨ kz = 16 ∨ kz = 17 ∨ kz = 18 ∨ kz = 19 ∨ kz = 20 ∨ kz = 21 ∨ kz = 22 ∨ kz = 23 ∨ kz = 24 ∨ kz = 25 ∨ kz = 26 ∨ kz = 27 ∨ kz = 28 ∨ kz = 29 ∨ kz = 30 ∨ kz = 31 ∨ kz = 32 ∨ kz = 33 ∨ kz = 34 ∨ kz = 35 ∨ kz = 36 ∨ kz = 37 ∨ kz = 38 ∨ kz = 39 := by omega
        rcases hsw with hsw | hsw | hsw | hsw | hsw | hsw | hsw | hsw | hsw | hsw | hsw | hsw | hsw | hsw | hsw | hsw | hsw | hsw | hsw | hsw | hsw | hsw | hsw | hsw | hsw | hsw | hsw | hsw | hsw | hsw | hsw | hsw | hsw | hsw | hsw | hsw | hsw | hsw | hsw | hsw
        · skip
          rw [hsw] at hxz; clear hsw hkz
          refine zr_ti (y := nI 0) (hxz) ?_
          refine lv_tableIn (x := nI 0) (off := 175) (tgt := 208) hx hb dL_law_33 (by decide +kernel) (by decide +kernel) (by decide +kernel) (by decide) ?_
          exact law_case_0 x0 g0 h0 h1 h2 h3 h4 h5 h6 g1 g2 g3 g4 g5 s5 g6 s6 g7 s7 xk kh0 kh1 kh2 kh3 kh4 kh5 kh6 k1 k2 k3 k4 k5 ks5 k6 ks6 k7 ks7 xt rh0 rh1 rh2 rh3 rh4 rh5 rh6 r1 r2 r3 r4 r5 rs5 r6 rs6 r7 rs7 xx x1 x2 y1 x3 xp t0 u0 t1 u1 t2 u2 t3 u3 t4 u4 t5 u5 m0 w0 w1 w2 w3 w4 w5 w6 w7 w8 w9 tf C0 hL hK htf0 htf1 htf2 htf3 htf4 htf5 i hi KN ik kd N hm aw rv sd gm ca xs ys bz rt sn c5 en c6 bn c7 ksk kN khm kaw krv ksd kgm kca kxs kys kbz krt kz5 kc5 kz6 kc6 kz7 kc7 rsk rN rhm raw rrv rsd rgm rca rxs rys rbz rrt rz5 rc5 rz6 rc6 rz7 rc7 tx pl sg cn cc nm so tn ic he fa cl wv kv mv tg wd nu sv zs iv mj G P X Y B R sT sR sH eW eN bT bN kG kP kX kY kB kR ksT ksR ksH keW keN kbT kbN T it hpl hgr hbz hrt hsc hec hbc hzs hva hik htx htg hto hic hst hit H locs ls hP hD hS hl
        · skip
          rw [hsw] at hxz; clear hsw hkz
          refine zr_ti (y := nI 1) (hxz) ?_
          refine lv_tableIn (x := nI 1) (off := 198) (tgt := 231) hx hb dL_law_33 (by decide +kernel) (by decide +kernel) (by decide +kernel) (by decide) ?_
          exact law_case_1 x0 g0 h0 h1 h2 h3 h4 h5 h6 g1 g2 g3 g4 g5 s5 g6 s6 g7 s7 xk kh0 kh1 kh2 kh3 kh4 kh5 kh6 k1 k2 k3 k4 k5 ks5 k6 ks6 k7 ks7 xt rh0 rh1 rh2 rh3 rh4 rh5 rh6 r1 r2 r3 r4 r5 rs5 r6 rs6 r7 rs7 xx x1 x2 y1 x3 xp t0 u0 t1 u1 t2 u2 t3 u3 t4 u4 t5 u5 m0 w0 w1 w2 w3 w4 w5 w6 w7 w8 w9 tf C0 hL hK htf0 htf1 htf2 htf3 htf4 htf5 i hi KN ik kd N hm aw rv sd gm ca xs ys bz rt sn c5 en c6 bn c7 ksk kN khm kaw krv ksd kgm kca kxs kys kbz krt kz5 kc5 kz6 kc6 kz7 kc7 rsk rN rhm raw rrv rsd rgm rca rxs rys rbz rrt rz5 rc5 rz6 rc6 rz7 rc7 tx pl sg cn cc nm so tn ic he fa cl wv kv mv tg wd nu sv zs iv mj G P X Y B R sT sR sH eW eN bT bN kG kP kX kY kB kR ksT ksR ksH keW keN kbT kbN T it hpl hgr hbz hrt hsc hec hbc hzs hva hik htx htg hto hic hst hit H locs ls hP hD hS hl
        · skip
          rw [hsw] at hxz; clear hsw hkz
          refine zr_ti (y := nI 2) (hxz) ?_
          refine lv_tableIn (x := nI 2) (off := 241) (tgt := 274) hx hb dL_law_33 (by decide +kernel) (by decide +kernel) (by decide +kernel) (by decide) ?_
          exact law_case_2 x0 g0 h0 h1 h2 h3 h4 h5 h6 g1 g2 g3 g4 g5 s5 g6 s6 g7 s7 xk kh0 kh1 kh2 kh3 kh4 kh5 kh6 k1 k2 k3 k4 k5 ks5 k6 ks6 k7 ks7 xt rh0 rh1 rh2 rh3 rh4 rh5 rh6 r1 r2 r3 r4 r5 rs5 r6 rs6 r7 rs7 xx x1 x2 y1 x3 xp t0 u0 t1 u1 t2 u2 t3 u3 t4 u4 t5 u5 m0 w0 w1 w2 w3 w4 w5 w6 w7 w8 w9 tf C0 hL hK htf0 htf1 htf2 htf3 htf4 htf5 i hi KN ik kd N hm aw rv sd gm ca xs ys bz rt sn c5 en c6 bn c7 ksk kN khm kaw krv ksd kgm kca kxs kys kbz krt kz5 kc5 kz6 kc6 kz7 kc7 rsk rN rhm raw rrv rsd rgm rca rxs rys rbz rrt rz5 rc5 rz6 rc6 rz7 rc7 tx pl sg cn cc nm so tn ic he fa cl wv kv mv tg wd nu sv zs iv mj G P X Y B R sT sR sH eW eN bT bN kG kP kX kY kB kR ksT ksR ksH keW keN kbT kbN T it hpl hgr hbz hrt hsc hec hbc hzs hva hik htx htg hto hic hst hit H locs ls hP hD hS hl
        · skip
          rw [hsw] at hxz; clear hsw hkz
          refine zr_ti (y := nI 3) (hxz) ?_
          refine lv_tableIn (x := nI 3) (off := 274) (tgt := 307) hx hb dL_law_33 (by decide +kernel) (by decide +kernel) (by decide +kernel) (by decide) ?_
          exact law_case_3 x0 g0 h0 h1 h2 h3 h4 h5 h6 g1 g2 g3 g4 g5 s5 g6 s6 g7 s7 xk kh0 kh1 kh2 kh3 kh4 kh5 kh6 k1 k2 k3 k4 k5 ks5 k6 ks6 k7 ks7 xt rh0 rh1 rh2 rh3 rh4 rh5 rh6 r1 r2 r3 r4 r5 rs5 r6 rs6 r7 rs7 xx x1 x2 y1 x3 xp t0 u0 t1 u1 t2 u2 t3 u3 t4 u4 t5 u5 m0 w0 w1 w2 w3 w4 w5 w6 w7 w8 w9 tf C0 hL hK htf0 htf1 htf2 htf3 htf4 htf5 i hi KN ik kd N hm aw rv sd gm ca xs ys bz rt sn c5 en c6 bn c7 ksk kN khm kaw krv ksd kgm kca kxs kys kbz krt kz5 kc5 kz6 kc6 kz7 kc7 rsk rN rhm raw rrv rsd rgm rca rxs rys rbz rrt rz5 rc5 rz6 rc6 rz7 rc7 tx pl sg cn cc nm so tn ic he fa cl wv kv mv tg wd nu sv zs iv mj G P X Y B R sT sR sH eW eN bT bN kG kP kX kY kB kR ksT ksR ksH keW keN kbT kbN T it hpl hgr hbz hrt hsc hec hbc hzs hva hik htx htg hto hic hst hit H locs ls hP hD hS hl
        · skip
          rw [hsw] at hxz; clear hsw hkz
          refine zr_ti (y := nI 4) (hxz) ?_
          refine lv_tableIn (x := nI 4) (off := 307) (tgt := 340) hx hb dL_law_33 (by decide +kernel) (by decide +kernel) (by decide +kernel) (by decide) ?_
          exact law_case_4 x0 g0 h0 h1 h2 h3 h4 h5 h6 g1 g2 g3 g4 g5 s5 g6 s6 g7 s7 xk kh0 kh1 kh2 kh3 kh4 kh5 kh6 k1 k2 k3 k4 k5 ks5 k6 ks6 k7 ks7 xt rh0 rh1 rh2 rh3 rh4 rh5 rh6 r1 r2 r3 r4 r5 rs5 r6 rs6 r7 rs7 xx x1 x2 y1 x3 xp t0 u0 t1 u1 t2 u2 t3 u3 t4 u4 t5 u5 m0 w0 w1 w2 w3 w4 w5 w6 w7 w8 w9 tf C0 hL hK htf0 htf1 htf2 htf3 htf4 htf5 i hi KN ik kd N hm aw rv sd gm ca xs ys bz rt sn c5 en c6 bn c7 ksk kN khm kaw krv ksd kgm kca kxs kys kbz krt kz5 kc5 kz6 kc6 kz7 kc7 rsk rN rhm raw rrv rsd rgm rca rxs rys rbz rrt rz5 rc5 rz6 rc6 rz7 rc7 tx pl sg cn cc nm so tn ic he fa cl wv kv mv tg wd nu sv zs iv mj G P X Y B R sT sR sH eW eN bT bN kG kP kX kY kB kR ksT ksR ksH keW keN kbT kbN T it hpl hgr hbz hrt hsc hec hbc hzs hva hik htx htg hto hic hst hit H locs ls hP hD hS hl
        · skip
          rw [hsw] at hxz; clear hsw hkz
          refine zr_ti (y := nI 5) (hxz) ?_
          refine lv_tableIn (x := nI 5) (off := 340) (tgt := 373) hx hb dL_law_33 (by decide +kernel) (by decide +kernel) (by decide +kernel) (by decide) ?_
          exact law_case_5 x0 g0 h0 h1 h2 h3 h4 h5 h6 g1 g2 g3 g4 g5 s5 g6 s6 g7 s7 xk kh0 kh1 kh2 kh3 kh4 kh5 kh6 k1 k2 k3 k4 k5 ks5 k6 ks6 k7 ks7 xt rh0 rh1 rh2 rh3 rh4 rh5 rh6 r1 r2 r3 r4 r5 rs5 r6 rs6 r7 rs7 xx x1 x2 y1 x3 xp t0 u0 t1 u1 t2 u2 t3 u3 t4 u4 t5 u5 m0 w0 w1 w2 w3 w4 w5 w6 w7 w8 w9 tf C0 hL hK htf0 htf1 htf2 htf3 htf4 htf5 i hi KN ik kd N hm aw rv sd gm ca xs ys bz rt sn c5 en c6 bn c7 ksk kN khm kaw krv ksd kgm kca kxs kys kbz krt kz5 kc5 kz6 kc6 kz7 kc7 rsk rN rhm raw rrv rsd rgm rca rxs rys rbz rrt rz5 rc5 rz6 rc6 rz7 rc7 tx pl sg cn cc nm so tn ic he fa cl wv kv mv tg wd nu sv zs iv mj G P X Y B R sT sR sH eW eN bT bN kG kP kX kY kB kR ksT ksR ksH keW keN kbT kbN T it hpl hgr hbz hrt hsc hec hbc hzs hva hik htx htg hto hic hst hit H locs ls hP hD hS hl
        · skip
          rw [hsw] at hxz; clear hsw hkz
          refine zr_ti (y := nI 6) (hxz) ?_
          refine lv_tableIn (x := nI 6) (off := 373) (tgt := 406) hx hb dL_law_33 (by decide +kernel) (by decide +kernel) (by decide +kernel) (by decide) ?_
          exact law_case_6 x0 g0 h0 h1 h2 h3 h4 h5 h6 g1 g2 g3 g4 g5 s5 g6 s6 g7 s7 xk kh0 kh1 kh2 kh3 kh4 kh5 kh6 k1 k2 k3 k4 k5 ks5 k6 ks6 k7 ks7 xt rh0 rh1 rh2 rh3 rh4 rh5 rh6 r1 r2 r3 r4 r5 rs5 r6 rs6 r7 rs7 xx x1 x2 y1 x3 xp t0 u0 t1 u1 t2 u2 t3 u3 t4 u4 t5 u5 m0 w0 w1 w2 w3 w4 w5 w6 w7 w8 w9 tf C0 hL hK htf0 htf1 htf2 htf3 htf4 htf5 i hi KN ik kd N hm aw rv sd gm ca xs ys bz rt sn c5 en c6 bn c7 ksk kN khm kaw krv ksd kgm kca kxs kys kbz krt kz5 kc5 kz6 kc6 kz7 kc7 rsk rN rhm raw rrv rsd rgm rca rxs rys rbz rrt rz5 rc5 rz6 rc6 rz7 rc7 tx pl sg cn cc nm so tn ic he fa cl wv kv mv tg wd nu sv zs iv mj G P X Y B R sT sR sH eW eN bT bN kG kP kX kY kB kR ksT ksR ksH keW keN kbT kbN T it hpl hgr hbz hrt hsc hec hbc hzs hva hik htx htg hto hic hst hit H locs ls hP hD hS hl
        · skip
          rw [hsw] at hxz; clear hsw hkz
          refine zr_ti (y := nI 7) (hxz) ?_
          refine lv_tableIn (x := nI 7) (off := 406) (tgt := 439) hx hb dL_law_33 (by decide +kernel) (by decide +kernel) (by decide +kernel) (by decide) ?_
          exact law_case_7 x0 g0 h0 h1 h2 h3 h4 h5 h6 g1 g2 g3 g4 g5 s5 g6 s6 g7 s7 xk kh0 kh1 kh2 kh3 kh4 kh5 kh6 k1 k2 k3 k4 k5 ks5 k6 ks6 k7 ks7 xt rh0 rh1 rh2 rh3 rh4 rh5 rh6 r1 r2 r3 r4 r5 rs5 r6 rs6 r7 rs7 xx x1 x2 y1 x3 xp t0 u0 t1 u1 t2 u2 t3 u3 t4 u4 t5 u5 m0 w0 w1 w2 w3 w4 w5 w6 w7 w8 w9 tf C0 hL hK htf0 htf1 htf2 htf3 htf4 htf5 i hi KN ik kd N hm aw rv sd gm ca xs ys bz rt sn c5 en c6 bn c7 ksk kN khm kaw krv ksd kgm kca kxs kys kbz krt kz5 kc5 kz6 kc6 kz7 kc7 rsk rN rhm raw rrv rsd rgm rca rxs rys rbz rrt rz5 rc5 rz6 rc6 rz7 rc7 tx pl sg cn cc nm so tn ic he fa cl wv kv mv tg wd nu sv zs iv mj G P X Y B R sT sR sH eW eN bT bN kG kP kX kY kB kR ksT ksR ksH keW keN kbT kbN T it hpl hgr hbz hrt hsc hec hbc hzs hva hik htx htg hto hic hst hit H locs ls hP hD hS hl
        · skip
          rw [hsw] at hxz; clear hsw hkz
          refine zr_ti (y := nI 8) (hxz) ?_
          refine lv_tableIn (x := nI 8) (off := 429) (tgt := 462) hx hb dL_law_33 (by decide +kernel) (by decide +kernel) (by decide +kernel) (by decide) ?_
          exact law_case_8 x0 g0 h0 h1 h2 h3 h4 h5 h6 g1 g2 g3 g4 g5 s5 g6 s6 g7 s7 xk kh0 kh1 kh2 kh3 kh4 kh5 kh6 k1 k2 k3 k4 k5 ks5 k6 ks6 k7 ks7 xt rh0 rh1 rh2 rh3 rh4 rh5 rh6 r1 r2 r3 r4 r5 rs5 r6 rs6 r7 rs7 xx x1 x2 y1 x3 xp t0 u0 t1 u1 t2 u2 t3 u3 t4 u4 t5 u5 m0 w0 w1 w2 w3 w4 w5 w6 w7 w8 w9 tf C0 hL hK htf0 htf1 htf2 htf3 htf4 htf5 i hi KN ik kd N hm aw rv sd gm ca xs ys bz rt sn c5 en c6 bn c7 ksk kN khm kaw krv ksd kgm kca kxs kys kbz krt kz5 kc5 kz6 kc6 kz7 kc7 rsk rN rhm raw rrv rsd rgm rca rxs rys rbz rrt rz5 rc5 rz6 rc6 rz7 rc7 tx pl sg cn cc nm so tn ic he fa cl wv kv mv tg wd nu sv zs iv mj G P X Y B R sT sR sH eW eN bT bN kG kP kX kY kB kR ksT ksR ksH keW keN kbT kbN T it hpl hgr hbz hrt hsc hec hbc hzs hva hik htx htg hto hic hst hit H locs ls hP hD hS hl
        · skip
          rw [hsw] at hxz; clear hsw hkz
          refine zr_ti (y := nI 9) (hxz) ?_
          refine lv_tableIn (x := nI 9) (off := 452) (tgt := 485) hx hb dL_law_33 (by decide +kernel) (by decide +kernel) (by decide +kernel) (by decide) ?_
          exact law_case_9 hE hR x0 g0 h0 h1 h2 h3 h4 h5 h6 g1 g2 g3 g4 g5 s5 g6 s6 g7 s7 xk kh0 kh1 kh2 kh3 kh4 kh5 kh6 k1 k2 k3 k4 k5 ks5 k6 ks6 k7 ks7 xt rh0 rh1 rh2 rh3 rh4 rh5 rh6 r1 r2 r3 r4 r5 rs5 r6 rs6 r7 rs7 xx x1 x2 y1 x3 xp t0 u0 t1 u1 t2 u2 t3 u3 t4 u4 t5 u5 m0 w0 w1 w2 w3 w4 w5 w6 w7 w8 w9 tf C0 hL hK htf0 htf1 htf2 htf3 htf4 htf5 i hi KN ik kd N hm aw rv sd gm ca xs ys bz rt sn c5 en c6 bn c7 ksk kN khm kaw krv ksd kgm kca kxs kys kbz krt kz5 kc5 kz6 kc6 kz7 kc7 rsk rN rhm raw rrv rsd rgm rca rxs rys rbz rrt rz5 rc5 rz6 rc6 rz7 rc7 tx pl sg cn cc nm so tn ic he fa cl wv kv mv tg wd nu sv zs iv mj G P X Y B R sT sR sH eW eN bT bN kG kP kX kY kB kR ksT ksR ksH keW keN kbT kbN T it hpl hgr hbz hrt hsc hec hbc hzs hva hik htx htg hto hic hst hit H locs ls hP hD hS hl
        · skip
          rw [hsw] at hxz; clear hsw hkz
          refine zr_ti (y := nI 10) (hxz) ?_
          refine lv_tableIn (x := nI 10) (off := 465) (tgt := 498) hx hb dL_law_33 (by decide +kernel) (by decide +kernel) (by decide +kernel) (by decide) ?_
          exact law_case_10 x0 g0 h0 h1 h2 h3 h4 h5 h6 g1 g2 g3 g4 g5 s5 g6 s6 g7 s7 xk kh0 kh1 kh2 kh3 kh4 kh5 kh6 k1 k2 k3 k4 k5 ks5 k6 ks6 k7 ks7 xt rh0 rh1 rh2 rh3 rh4 rh5 rh6 r1 r2 r3 r4 r5 rs5 r6 rs6 r7 rs7 xx x1 x2 y1 x3 xp t0 u0 t1 u1 t2 u2 t3 u3 t4 u4 t5 u5 m0 w0 w1 w2 w3 w4 w5 w6 w7 w8 w9 tf C0 hL hK htf0 htf1 htf2 htf3 htf4 htf5 i hi KN ik kd N hm aw rv sd gm ca xs ys bz rt sn c5 en c6 bn c7 ksk kN khm kaw krv ksd kgm kca kxs kys kbz krt kz5 kc5 kz6 kc6 kz7 kc7 rsk rN rhm raw rrv rsd rgm rca rxs rys rbz rrt rz5 rc5 rz6 rc6 rz7 rc7 tx pl sg cn cc nm so tn ic he fa cl wv kv mv tg wd nu sv zs iv mj G P X Y B R sT sR sH eW eN bT bN kG kP kX kY kB kR ksT ksR ksH keW keN kbT kbN T it hpl hgr hbz hrt hsc hec hbc hzs hva hik htx htg hto hic hst hit H locs ls hP hD hS hl
        · skip
          rw [hsw] at hxz; clear hsw hkz
          refine zr_ti (y := nI 11) (hxz) ?_
          refine lv_tableIn (x := nI 11) (off := 498) (tgt := 531) hx hb dL_law_33 (by decide +kernel) (by decide +kernel) (by decide +kernel) (by decide) ?_
          exact law_case_11 x0 g0 h0 h1 h2 h3 h4 h5 h6 g1 g2 g3 g4 g5 s5 g6 s6 g7 s7 xk kh0 kh1 kh2 kh3 kh4 kh5 kh6 k1 k2 k3 k4 k5 ks5 k6 ks6 k7 ks7 xt rh0 rh1 rh2 rh3 rh4 rh5 rh6 r1 r2 r3 r4 r5 rs5 r6 rs6 r7 rs7 xx x1 x2 y1 x3 xp t0 u0 t1 u1 t2 u2 t3 u3 t4 u4 t5 u5 m0 w0 w1 w2 w3 w4 w5 w6 w7 w8 w9 tf C0 hL hK htf0 htf1 htf2 htf3 htf4 htf5 i hi KN ik kd N hm aw rv sd gm ca xs ys bz rt sn c5 en c6 bn c7 ksk kN khm kaw krv ksd kgm kca kxs kys kbz krt kz5 kc5 kz6 kc6 kz7 kc7 rsk rN rhm raw rrv rsd rgm rca rxs rys rbz rrt rz5 rc5 rz6 rc6 rz7 rc7 tx pl sg cn cc nm so tn ic he fa cl wv kv mv tg wd nu sv zs iv mj G P X Y B R sT sR sH eW eN bT bN kG kP kX kY kB kR ksT ksR ksH keW keN kbT kbN T it hpl hgr hbz hrt hsc hec hbc hzs hva hik htx htg hto hic hst hit H locs ls hP hD hS hl
        · skip
          rw [hsw] at hxz; clear hsw hkz
          refine zr_ti (y := nI 12) (hxz) ?_
          refine lv_tableIn (x := nI 12) (off := 541) (tgt := 574) hx hb dL_law_33 (by decide +kernel) (by decide +kernel) (by decide +kernel) (by decide) ?_
          exact law_case_12 x0 g0 h0 h1 h2 h3 h4 h5 h6 g1 g2 g3 g4 g5 s5 g6 s6 g7 s7 xk kh0 kh1 kh2 kh3 kh4 kh5 kh6 k1 k2 k3 k4 k5 ks5 k6 ks6 k7 ks7 xt rh0 rh1 rh2 rh3 rh4 rh5 rh6 r1 r2 r3 r4 r5 rs5 r6 rs6 r7 rs7 xx x1 x2 y1 x3 xp t0 u0 t1 u1 t2 u2 t3 u3 t4 u4 t5 u5 m0 w0 w1 w2 w3 w4 w5 w6 w7 w8 w9 tf C0 hL hK htf0 htf1 htf2 htf3 htf4 htf5 i hi KN ik kd N hm aw rv sd gm ca xs ys bz rt sn c5 en c6 bn c7 ksk kN khm kaw krv ksd kgm kca kxs kys kbz krt kz5 kc5 kz6 kc6 kz7 kc7 rsk rN rhm raw rrv rsd rgm rca rxs rys rbz rrt rz5 rc5 rz6 rc6 rz7 rc7 tx pl sg cn cc nm so tn ic he fa cl wv kv mv tg wd nu sv zs iv mj G P X Y B R sT sR sH eW eN bT bN kG kP kX kY kB kR ksT ksR ksH keW keN kbT kbN T it hpl hgr hbz hrt hsc hec hbc hzs hva hik htx htg hto hic hst hit H locs ls hP hD hS hl
        · skip
          rw [hsw] at hxz; clear hsw hkz
          refine zr_ti (y := nI 13) (hxz) ?_
          refine lv_tableIn (x := nI 13) (off := 584) (tgt := 617) hx hb dL_law_33 (by decide +kernel) (by decide +kernel) (by decide +kernel) (by decide) ?_
          exact law_case_13 x0 g0 h0 h1 h2 h3 h4 h5 h6 g1 g2 g3 g4 g5 s5 g6 s6 g7 s7 xk kh0 kh1 kh2 kh3 kh4 kh5 kh6 k1 k2 k3 k4 k5 ks5 k6 ks6 k7 ks7 xt rh0 rh1 rh2 rh3 rh4 rh5 rh6 r1 r2 r3 r4 r5 rs5 r6 rs6 r7 rs7 xx x1 x2 y1 x3 xp t0 u0 t1 u1 t2 u2 t3 u3 t4 u4 t5 u5 m0 w0 w1 w2 w3 w4 w5 w6 w7 w8 w9 tf C0 hL hK htf0 htf1 htf2 htf3 htf4 htf5 i hi KN ik kd N hm aw rv sd gm ca xs ys bz rt sn c5 en c6 bn c7 ksk kN khm kaw krv ksd kgm kca kxs kys kbz krt kz5 kc5 kz6 kc6 kz7 kc7 rsk rN rhm raw rrv rsd rgm rca rxs rys rbz rrt rz5 rc5 rz6 rc6 rz7 rc7 tx pl sg cn cc nm so tn ic he fa cl wv kv mv tg wd nu sv zs iv mj G P X Y B R sT sR sH eW eN bT bN kG kP kX kY kB kR ksT ksR ksH keW keN kbT kbN T it hpl hgr hbz hrt hsc hec hbc hzs hva hik htx htg hto hic hst hit H locs ls hP hD hS hl
        · skip
          rw [hsw] at hxz; clear hsw hkz
          refine zr_ti (y := nI 14) (hxz) ?_
          refine lv_tableIn (x := nI 14) (off := 627) (tgt := 660) hx hb dL_law_33 (by decide +kernel) (by decide +kernel) (by decide +kernel) (by decide) ?_
          exact law_case_14 x0 g0 h0 h1 h2 h3 h4 h5 h6 g1 g2 g3 g4 g5 s5 g6 s6 g7 s7 xk kh0 kh1 kh2 kh3 kh4 kh5 kh6 k1 k2 k3 k4 k5 ks5 k6 ks6 k7 ks7 xt rh0 rh1 rh2 rh3 rh4 rh5 rh6 r1 r2 r3 r4 r5 rs5 r6 rs6 r7 rs7 xx x1 x2 y1 x3 xp t0 u0 t1 u1 t2 u2 t3 u3 t4 u4 t5 u5 m0 w0 w1 w2 w3 w4 w5 w6 w7 w8 w9 tf C0 hL hK htf0 htf1 htf2 htf3 htf4 htf5 i hi KN ik kd N hm aw rv sd gm ca xs ys bz rt sn c5 en c6 bn c7 ksk kN khm kaw krv ksd kgm kca kxs kys kbz krt kz5 kc5 kz6 kc6 kz7 kc7 rsk rN rhm raw rrv rsd rgm rca rxs rys rbz rrt rz5 rc5 rz6 rc6 rz7 rc7 tx pl sg cn cc nm so tn ic he fa cl wv kv mv tg wd nu sv zs iv mj G P X Y B R sT sR sH eW eN bT bN kG kP kX kY kB kR ksT ksR ksH keW keN kbT kbN T it hpl hgr hbz hrt hsc hec hbc hzs hva hik htx htg hto hic hst hit H locs ls hP hD hS hl
        · skip
          rw [hsw] at hxz; clear hsw hkz
          refine zr_ti (y := nI 15) (hxz) ?_
          refine lv_tableIn (x := nI 15) (off := 660) (tgt := 693) hx hb dL_law_33 (by decide +kernel) (by decide +kernel) (by decide +kernel) (by decide) ?_
          exact law_case_15 x0 g0 h0 h1 h2 h3 h4 h5 h6 g1 g2 g3 g4 g5 s5 g6 s6 g7 s7 xk kh0 kh1 kh2 kh3 kh4 kh5 kh6 k1 k2 k3 k4 k5 ks5 k6 ks6 k7 ks7 xt rh0 rh1 rh2 rh3 rh4 rh5 rh6 r1 r2 r3 r4 r5 rs5 r6 rs6 r7 rs7 xx x1 x2 y1 x3 xp t0 u0 t1 u1 t2 u2 t3 u3 t4 u4 t5 u5 m0 w0 w1 w2 w3 w4 w5 w6 w7 w8 w9 tf C0 hL hK htf0 htf1 htf2 htf3 htf4 htf5 i hi KN ik kd N hm aw rv sd gm ca xs ys bz rt sn c5 en c6 bn c7 ksk kN khm kaw krv ksd kgm kca kxs kys kbz krt kz5 kc5 kz6 kc6 kz7 kc7 rsk rN rhm raw rrv rsd rgm rca rxs rys rbz rrt rz5 rc5 rz6 rc6 rz7 rc7 tx pl sg cn cc nm so tn ic he fa cl wv kv mv tg wd nu sv zs iv mj G P X Y B R sT sR sH eW eN bT bN kG kP kX kY kB kR ksT ksR ksH keW keN kbT kbN T it hpl hgr hbz hrt hsc hec hbc hzs hva hik htx htg hto hic hst hit H locs ls hP hD hS hl
        · skip
          rw [hsw] at hxz; clear hsw hkz
          refine zr_ti (y := nI 16) (hxz) ?_
          refine lv_tableIn (x := nI 16) (off := 693) (tgt := 726) hx hb dL_law_33 (by decide +kernel) (by decide +kernel) (by decide +kernel) (by decide) ?_
          exact law_case_16 x0 g0 h0 h1 h2 h3 h4 h5 h6 g1 g2 g3 g4 g5 s5 g6 s6 g7 s7 xk kh0 kh1 kh2 kh3 kh4 kh5 kh6 k1 k2 k3 k4 k5 ks5 k6 ks6 k7 ks7 xt rh0 rh1 rh2 rh3 rh4 rh5 rh6 r1 r2 r3 r4 r5 rs5 r6 rs6 r7 rs7 xx x1 x2 y1 x3 xp t0 u0 t1 u1 t2 u2 t3 u3 t4 u4 t5 u5 m0 w0 w1 w2 w3 w4 w5 w6 w7 w8 w9 tf C0 hL hK htf0 htf1 htf2 htf3 htf4 htf5 i hi KN ik kd N hm aw rv sd gm ca xs ys bz rt sn c5 en c6 bn c7 ksk kN khm kaw krv ksd kgm kca kxs kys kbz krt kz5 kc5 kz6 kc6 kz7 kc7 rsk rN rhm raw rrv rsd rgm rca rxs rys rbz rrt rz5 rc5 rz6 rc6 rz7 rc7 tx pl sg cn cc nm so tn ic he fa cl wv kv mv tg wd nu sv zs iv mj G P X Y B R sT sR sH eW eN bT bN kG kP kX kY kB kR ksT ksR ksH keW keN kbT kbN T it hpl hgr hbz hrt hsc hec hbc hzs hva hik htx htg hto hic hst hit H locs ls hP hD hS hl
        · skip
          rw [hsw] at hxz; clear hsw hkz
          refine zr_ti (y := nI 17) (hxz) ?_
          refine lv_tableIn (x := nI 17) (off := 726) (tgt := 759) hx hb dL_law_33 (by decide +kernel) (by decide +kernel) (by decide +kernel) (by decide) ?_
          exact law_case_17 x0 g0 h0 h1 h2 h3 h4 h5 h6 g1 g2 g3 g4 g5 s5 g6 s6 g7 s7 xk kh0 kh1 kh2 kh3 kh4 kh5 kh6 k1 k2 k3 k4 k5 ks5 k6 ks6 k7 ks7 xt rh0 rh1 rh2 rh3 rh4 rh5 rh6 r1 r2 r3 r4 r5 rs5 r6 rs6 r7 rs7 xx x1 x2 y1 x3 xp t0 u0 t1 u1 t2 u2 t3 u3 t4 u4 t5 u5 m0 w0 w1 w2 w3 w4 w5 w6 w7 w8 w9 tf C0 hL hK htf0 htf1 htf2 htf3 htf4 htf5 i hi KN ik kd N hm aw rv sd gm ca xs ys bz rt sn c5 en c6 bn c7 ksk kN khm kaw krv ksd kgm kca kxs kys kbz krt kz5 kc5 kz6 kc6 kz7 kc7 rsk rN rhm raw rrv rsd rgm rca rxs rys rbz rrt rz5 rc5 rz6 rc6 rz7 rc7 tx pl sg cn cc nm so tn ic he fa cl wv kv mv tg wd nu sv zs iv mj G P X Y B R sT sR sH eW eN bT bN kG kP kX kY kB kR ksT ksR ksH keW keN kbT kbN T it hpl hgr hbz hrt hsc hec hbc hzs hva hik htx htg hto hic hst hit H locs ls hP hD hS hl
        · skip
          rw [hsw] at hxz; clear hsw hkz
          refine zr_ti (y := nI 18) (hxz) ?_
          refine lv_tableIn (x := nI 18) (off := 769) (tgt := 802) hx hb dL_law_33 (by decide +kernel) (by decide +kernel) (by decide +kernel) (by decide) ?_
          exact law_case_18 x0 g0 h0 h1 h2 h3 h4 h5 h6 g1 g2 g3 g4 g5 s5 g6 s6 g7 s7 xk kh0 kh1 kh2 kh3 kh4 kh5 kh6 k1 k2 k3 k4 k5 ks5 k6 ks6 k7 ks7 xt rh0 rh1 rh2 rh3 rh4 rh5 rh6 r1 r2 r3 r4 r5 rs5 r6 rs6 r7 rs7 xx x1 x2 y1 x3 xp t0 u0 t1 u1 t2 u2 t3 u3 t4 u4 t5 u5 m0 w0 w1 w2 w3 w4 w5 w6 w7 w8 w9 tf C0 hL hK htf0 htf1 htf2 htf3 htf4 htf5 i hi KN ik kd N hm aw rv sd gm ca xs ys bz rt sn c5 en c6 bn c7 ksk kN khm kaw krv ksd kgm kca kxs kys kbz krt kz5 kc5 kz6 kc6 kz7 kc7 rsk rN rhm raw rrv rsd rgm rca rxs rys rbz rrt rz5 rc5 rz6 rc6 rz7 rc7 tx pl sg cn cc nm so tn ic he fa cl wv kv mv tg wd nu sv zs iv mj G P X Y B R sT sR sH eW eN bT bN kG kP kX kY kB kR ksT ksR ksH keW keN kbT kbN T it hpl hgr hbz hrt hsc hec hbc hzs hva hik htx htg hto hic hst hit H locs ls hP hD hS hl
        · skip
          rw [hsw] at hxz; clear hsw hkz
          refine zr_ti (y := nI 19) (hxz) ?_
          refine lv_tableIn (x := nI 19) (off := 792) (tgt := 825) hx hb dL_law_33 (by decide +kernel) (by decide +kernel) (by decide +kernel) (by decide) ?_
          exact law_case_19 x0 g0 h0 h1 h2 h3 h4 h5 h6 g1 g2 g3 g4 g5 s5 g6 s6 g7 s7 xk kh0 kh1 kh2 kh3 kh4 kh5 kh6 k1 k2 k3 k4 k5 ks5 k6 ks6 k7 ks7 xt rh0 rh1 rh2 rh3 rh4 rh5 rh6 r1 r2 r3 r4 r5 rs5 r6 rs6 r7 rs7 xx x1 x2 y1 x3 xp t0 u0 t1 u1 t2 u2 t3 u3 t4 u4 t5 u5 m0 w0 w1 w2 w3 w4 w5 w6 w7 w8 w9 tf C0 hL hK htf0 htf1 htf2 htf3 htf4 htf5 i hi KN ik kd N hm aw rv sd gm ca xs ys bz rt sn c5 en c6 bn c7 ksk kN khm kaw krv ksd kgm kca kxs kys kbz krt kz5 kc5 kz6 kc6 kz7 kc7 rsk rN rhm raw rrv rsd rgm rca rxs rys rbz rrt rz5 rc5 rz6 rc6 rz7 rc7 tx pl sg cn cc nm so tn ic he fa cl wv kv mv tg wd nu sv zs iv mj G P X Y B R sT sR sH eW eN bT bN kG kP kX kY kB kR ksT ksR ksH keW keN kbT kbN T it hpl hgr hbz hrt hsc hec hbc hzs hva hik htx htg hto hic hst hit H locs ls hP hD hS hl
        · skip
          rw [hsw] at hxz; clear hsw hkz
          refine zr_ti (y := nI 20) (hxz) ?_
          refine lv_tableIn (x := nI 20) (off := 815) (tgt := 848) hx hb dL_law_33 (by decide +kernel) (by decide +kernel) (by decide +kernel) (by decide) ?_
          exact law_case_20 x0 g0 h0 h1 h2 h3 h4 h5 h6 g1 g2 g3 g4 g5 s5 g6 s6 g7 s7 xk kh0 kh1 kh2 kh3 kh4 kh5 kh6 k1 k2 k3 k4 k5 ks5 k6 ks6 k7 ks7 xt rh0 rh1 rh2 rh3 rh4 rh5 rh6 r1 r2 r3 r4 r5 rs5 r6 rs6 r7 rs7 xx x1 x2 y1 x3 xp t0 u0 t1 u1 t2 u2 t3 u3 t4 u4 t5 u5 m0 w0 w1 w2 w3 w4 w5 w6 w7 w8 w9 tf C0 hL hK htf0 htf1 htf2 htf3 htf4 htf5 i hi KN ik kd N hm aw rv sd gm ca xs ys bz rt sn c5 en c6 bn c7 ksk kN khm kaw krv ksd kgm kca kxs kys kbz krt kz5 kc5 kz6 kc6 kz7 kc7 rsk rN rhm raw rrv rsd rgm rca rxs rys rbz rrt rz5 rc5 rz6 rc6 rz7 rc7 tx pl sg cn cc nm so tn ic he fa cl wv kv mv tg wd nu sv zs iv mj G P X Y B R sT sR sH eW eN bT bN kG kP kX kY kB kR ksT ksR ksH keW keN kbT kbN T it hpl hgr hbz hrt hsc hec hbc hzs hva hik htx htg hto hic hst hit H locs ls hP hD hS hl
        · skip
          rw [hsw] at hxz; clear hsw hkz
          refine zr_ti (y := nI 21) (hxz) ?_
          refine lv_tableIn (x := nI 21) (off := 849) (tgt := 882) hx hb dL_law_33 (by decide +kernel) (by decide +kernel) (by decide +kernel) (by decide) ?_
          exact law_case_21 x0 g0 h0 h1 h2 h3 h4 h5 h6 g1 g2 g3 g4 g5 s5 g6 s6 g7 s7 xk kh0 kh1 kh2 kh3 kh4 kh5 kh6 k1 k2 k3 k4 k5 ks5 k6 ks6 k7 ks7 xt rh0 rh1 rh2 rh3 rh4 rh5 rh6 r1 r2 r3 r4 r5 rs5 r6 rs6 r7 rs7 xx x1 x2 y1 x3 xp t0 u0 t1 u1 t2 u2 t3 u3 t4 u4 t5 u5 m0 w0 w1 w2 w3 w4 w5 w6 w7 w8 w9 tf C0 hL hK htf0 htf1 htf2 htf3 htf4 htf5 i hi KN ik kd N hm aw rv sd gm ca xs ys bz rt sn c5 en c6 bn c7 ksk kN khm kaw krv ksd kgm kca kxs kys kbz krt kz5 kc5 kz6 kc6 kz7 kc7 rsk rN rhm raw rrv rsd rgm rca rxs rys rbz rrt rz5 rc5 rz6 rc6 rz7 rc7 tx pl sg cn cc nm so tn ic he fa cl wv kv mv tg wd nu sv zs iv mj G P X Y B R sT sR sH eW eN bT bN kG kP kX kY kB kR ksT ksR ksH keW keN kbT kbN T it hpl hgr hbz hrt hsc hec hbc hzs hva hik htx htg hto hic hst hit H locs ls hP hD hS hl
        · skip
          rw [hsw] at hxz; clear hsw hkz
          refine zr_ti (y := nI 22) (hxz) ?_
          refine lv_tableIn (x := nI 22) (off := 863) (tgt := 896) hx hb dL_law_33 (by decide +kernel) (by decide +kernel) (by decide +kernel) (by decide) ?_
          exact law_case_22 x0 g0 h0 h1 h2 h3 h4 h5 h6 g1 g2 g3 g4 g5 s5 g6 s6 g7 s7 xk kh0 kh1 kh2 kh3 kh4 kh5 kh6 k1 k2 k3 k4 k5 ks5 k6 ks6 k7 ks7 xt rh0 rh1 rh2 rh3 rh4 rh5 rh6 r1 r2 r3 r4 r5 rs5 r6 rs6 r7 rs7 xx x1 x2 y1 x3 xp t0 u0 t1 u1 t2 u2 t3 u3 t4 u4 t5 u5 m0 w0 w1 w2 w3 w4 w5 w6 w7 w8 w9 tf C0 hL hK htf0 htf1 htf2 htf3 htf4 htf5 i hi KN ik kd N hm aw rv sd gm ca xs ys bz rt sn c5 en c6 bn c7 ksk kN khm kaw krv ksd kgm kca kxs kys kbz krt kz5 kc5 kz6 kc6 kz7 kc7 rsk rN rhm raw rrv rsd rgm rca rxs rys rbz rrt rz5 rc5 rz6 rc6 rz7 rc7 tx pl sg cn cc nm so tn ic he fa cl wv kv mv tg wd nu sv zs iv mj G P X Y B R sT sR sH eW eN bT bN kG kP kX kY kB kR ksT ksR ksH keW keN kbT kbN T it hpl hgr hbz hrt hsc hec hbc hzs hva hik htx htg hto hic hst hit H locs ls hP hD hS hl
        · skip
          rw [hsw] at hxz; clear hsw hkz
          refine zr_ti (y := nI 23) (hxz) ?_
          refine lv_tableIn (x := nI 23) (off := 897) (tgt := 930) hx hb dL_law_33 (by decide +kernel) (by decide +kernel) (by decide +kernel) (by decide) ?_
          exact law_case_23 x0 g0 h0 h1 h2 h3 h4 h5 h6 g1 g2 g3 g4 g5 s5 g6 s6 g7 s7 xk kh0 kh1 kh2 kh3 kh4 kh5 kh6 k1 k2 k3 k4 k5 ks5 k6 ks6 k7 ks7 xt rh0 rh1 rh2 rh3 rh4 rh5 rh6 r1 r2 r3 r4 r5 rs5 r6 rs6 r7 rs7 xx x1 x2 y1 x3 xp t0 u0 t1 u1 t2 u2 t3 u3 t4 u4 t5 u5 m0 w0 w1 w2 w3 w4 w5 w6 w7 w8 w9 tf C0 hL hK htf0 htf1 htf2 htf3 htf4 htf5 i hi KN ik kd N hm aw rv sd gm ca xs ys bz rt sn c5 en c6 bn c7 ksk kN khm kaw krv ksd kgm kca kxs kys kbz krt kz5 kc5 kz6 kc6 kz7 kc7 rsk rN rhm raw rrv rsd rgm rca rxs rys rbz rrt rz5 rc5 rz6 rc6 rz7 rc7 tx pl sg cn cc nm so tn ic he fa cl wv kv mv tg wd nu sv zs iv mj G P X Y B R sT sR sH eW eN bT bN kG kP kX kY kB kR ksT ksR ksH keW keN kbT kbN T it hpl hgr hbz hrt hsc hec hbc hzs hva hik htx htg hto hic hst hit H locs ls hP hD hS hl
        · skip
          rw [hsw] at hxz; clear hsw hkz
          refine zr_ti (y := nI 24) (hxz) ?_
          refine lv_tableIn (x := nI 24) (off := 921) (tgt := 954) hx hb dL_law_33 (by decide +kernel) (by decide +kernel) (by decide +kernel) (by decide) ?_
          exact law_case_24 x0 g0 h0 h1 h2 h3 h4 h5 h6 g1 g2 g3 g4 g5 s5 g6 s6 g7 s7 xk kh0 kh1 kh2 kh3 kh4 kh5 kh6 k1 k2 k3 k4 k5 ks5 k6 ks6 k7 ks7 xt rh0 rh1 rh2 rh3 rh4 rh5 rh6 r1 r2 r3 r4 r5 rs5 r6 rs6 r7 rs7 xx x1 x2 y1 x3 xp t0 u0 t1 u1 t2 u2 t3 u3 t4 u4 t5 u5 m0 w0 w1 w2 w3 w4 w5 w6 w7 w8 w9 tf C0 hL hK htf0 htf1 htf2 htf3 htf4 htf5 i hi KN ik kd N hm aw rv sd gm ca xs ys bz rt sn c5 en c6 bn c7 ksk kN khm kaw krv ksd kgm kca kxs kys kbz krt kz5 kc5 kz6 kc6 kz7 kc7 rsk rN rhm raw rrv rsd rgm rca rxs rys rbz rrt rz5 rc5 rz6 rc6 rz7 rc7 tx pl sg cn cc nm so tn ic he fa cl wv kv mv tg wd nu sv zs iv mj G P X Y B R sT sR sH eW eN bT bN kG kP kX kY kB kR ksT ksR ksH keW keN kbT kbN T it hpl hgr hbz hrt hsc hec hbc hzs hva hik htx htg hto hic hst hit H locs ls hP hD hS hl
        · skip
          rw [hsw] at hxz; clear hsw hkz
          refine zr_ti (y := nI 25) (hxz) ?_
          refine lv_tableIn (x := nI 25) (off := 980) (tgt := 1013) hx hb dL_law_33 (by decide +kernel) (by decide +kernel) (by decide +kernel) (by decide) ?_
          exact law_case_25 x0 g0 h0 h1 h2 h3 h4 h5 h6 g1 g2 g3 g4 g5 s5 g6 s6 g7 s7 xk kh0 kh1 kh2 kh3 kh4 kh5 kh6 k1 k2 k3 k4 k5 ks5 k6 ks6 k7 ks7 xt rh0 rh1 rh2 rh3 rh4 rh5 rh6 r1 r2 r3 r4 r5 rs5 r6 rs6 r7 rs7 xx x1 x2 y1 x3 xp t0 u0 t1 u1 t2 u2 t3 u3 t4 u4 t5 u5 m0 w0 w1 w2 w3 w4 w5 w6 w7 w8 w9 tf C0 hL hK htf0 htf1 htf2 htf3 htf4 htf5 i hi KN ik kd N hm aw rv sd gm ca xs ys bz rt sn c5 en c6 bn c7 ksk kN khm kaw krv ksd kgm kca kxs kys kbz krt kz5 kc5 kz6 kc6 kz7 kc7 rsk rN rhm raw rrv rsd rgm rca rxs rys rbz rrt rz5 rc5 rz6 rc6 rz7 rc7 tx pl sg cn cc nm so tn ic he fa cl wv kv mv tg wd nu sv zs iv mj G P X Y B R sT sR sH eW eN bT bN kG kP kX kY kB kR ksT ksR ksH keW keN kbT kbN T it hpl hgr hbz hrt hsc hec hbc hzs hva hik htx htg hto hic hst hit H locs ls hP hD hS hl
        · skip
          rw [hsw] at hxz; clear hsw hkz
          refine zr_ti (y := nI 26) (hxz) ?_
          refine lv_tableIn (x := nI 26) (off := 993) (tgt := 1026) hx hb dL_law_33 (by decide +kernel) (by decide +kernel) (by decide +kernel) (by decide) ?_
          exact law_case_26 x0 g0 h0 h1 h2 h3 h4 h5 h6 g1 g2 g3 g4 g5 s5 g6 s6 g7 s7 xk kh0 kh1 kh2 kh3 kh4 kh5 kh6 k1 k2 k3 k4 k5 ks5 k6 ks6 k7 ks7 xt rh0 rh1 rh2 rh3 rh4 rh5 rh6 r1 r2 r3 r4 r5 rs5 r6 rs6 r7 rs7 xx x1 x2 y1 x3 xp t0 u0 t1 u1 t2 u2 t3 u3 t4 u4 t5 u5 m0 w0 w1 w2 w3 w4 w5 w6 w7 w8 w9 tf C0 hL hK htf0 htf1 htf2 htf3 htf4 htf5 i hi KN ik kd N hm aw rv sd gm ca xs ys bz rt sn c5 en c6 bn c7 ksk kN khm kaw krv ksd kgm kca kxs kys kbz krt kz5 kc5 kz6 kc6 kz7 kc7 rsk rN rhm raw rrv rsd rgm rca rxs rys rbz rrt rz5 rc5 rz6 rc6 rz7 rc7 tx pl sg cn cc nm so tn ic he fa cl wv kv mv tg wd nu sv zs iv mj G P X Y B R sT sR sH eW eN bT bN kG kP kX kY kB kR ksT ksR ksH keW keN kbT kbN T it hpl hgr hbz hrt hsc hec hbc hzs hva hik htx htg hto hic hst hit H locs ls hP hD hS hl
        · skip
          rw [hsw] at hxz; clear hsw hkz
          refine zr_ti (y := nI 27) (hxz) ?_
          refine lv_tableIn (x := nI 27) (off := 1027) (tgt := 1060) hx hb dL_law_33 (by decide +kernel) (by decide +kernel) (by decide +kernel) (by decide) ?_
          exact law_case_27 x0 g0 h0 h1 h2 h3 h4 h5 h6 g1 g2 g3 g4 g5 s5 g6 s6 g7 s7 xk kh0 kh1 kh2 kh3 kh4 kh5 kh6 k1 k2 k3 k4 k5 ks5 k6 ks6 k7 ks7 xt rh0 rh1 rh2 rh3 rh4 rh5 rh6 r1 r2 r3 r4 r5 rs5 r6 rs6 r7 rs7 xx x1 x2 y1 x3 xp t0 u0 t1 u1 t2 u2 t3 u3 t4 u4 t5 u5 m0 w0 w1 w2 w3 w4 w5 w6 w7 w8 w9 tf C0 hL hK htf0 htf1 htf2 htf3 htf4 htf5 i hi KN ik kd N hm aw rv sd gm ca xs ys bz rt sn c5 en c6 bn c7 ksk kN khm kaw krv ksd kgm kca kxs kys kbz krt kz5 kc5 kz6 kc6 kz7 kc7 rsk rN rhm raw rrv rsd rgm rca rxs rys rbz rrt rz5 rc5 rz6 rc6 rz7 rc7 tx pl sg cn cc nm so tn ic he fa cl wv kv mv tg wd nu sv zs iv mj G P X Y B R sT sR sH eW eN bT bN kG kP kX kY kB kR ksT ksR ksH keW keN kbT kbN T it hpl hgr hbz hrt hsc hec hbc hzs hva hik htx htg hto hic hst hit H locs ls hP hD hS hl
        · skip
          rw [hsw] at hxz; clear hsw hkz
          refine zr_ti (y := nI 28) (hxz) ?_
          refine lv_tableIn (x := nI 28) (off := 1051) (tgt := 1084) hx hb dL_law_33 (by decide +kernel) (by decide +kernel) (by decide +kernel) (by decide) ?_
          exact law_case_28 x0 g0 h0 h1 h2 h3 h4 h5 h6 g1 g2 g3 g4 g5 s5 g6 s6 g7 s7 xk kh0 kh1 kh2 kh3 kh4 kh5 kh6 k1 k2 k3 k4 k5 ks5 k6 ks6 k7 ks7 xt rh0 rh1 rh2 rh3 rh4 rh5 rh6 r1 r2 r3 r4 r5 rs5 r6 rs6 r7 rs7 xx x1 x2 y1 x3 xp t0 u0 t1 u1 t2 u2 t3 u3 t4 u4 t5 u5 m0 w0 w1 w2 w3 w4 w5 w6 w7 w8 w9 tf C0 hL hK htf0 htf1 htf2 htf3 htf4 htf5 i hi KN ik kd N hm aw rv sd gm ca xs ys bz rt sn c5 en c6 bn c7 ksk kN khm kaw krv ksd kgm kca kxs kys kbz krt kz5 kc5 kz6 kc6 kz7 kc7 rsk rN rhm raw rrv rsd rgm rca rxs rys rbz rrt rz5 rc5 rz6 rc6 rz7 rc7 tx pl sg cn cc nm so tn ic he fa cl wv kv mv tg wd nu sv zs iv mj G P X Y B R sT sR sH eW eN bT bN kG kP kX kY kB kR ksT ksR ksH keW keN kbT kbN T it hpl hgr hbz hrt hsc hec hbc hzs hva hik htx htg hto hic hst hit H locs ls hP hD hS hl
        · skip
          rw [hsw] at hxz; clear hsw hkz
          refine zr_ti (y := nI 29) (hxz) ?_
          refine lv_tableIn (x := nI 29) (off := 1084) (tgt := 1117) hx hb dL_law_33 (by decide +kernel) (by decide +kernel) (by decide +kernel) (by decide) ?_
          exact law_case_29 x0 g0 h0 h1 h2 h3 h4 h5 h6 g1 g2 g3 g4 g5 s5 g6 s6 g7 s7 xk kh0 kh1 kh2 kh3 kh4 kh5 kh6 k1 k2 k3 k4 k5 ks5 k6 ks6 k7 ks7 xt rh0 rh1 rh2 rh3 rh4 rh5 rh6 r1 r2 r3 r4 r5 rs5 r6 rs6 r7 rs7 xx x1 x2 y1 x3 xp t0 u0 t1 u1 t2 u2 t3 u3 t4 u4 t5 u5 m0 w0 w1 w2 w3 w4 w5 w6 w7 w8 w9 tf C0 hL hK htf0 htf1 htf2 htf3 htf4 htf5 i hi KN ik kd N hm aw rv sd gm ca xs ys bz rt sn c5 en c6 bn c7 ksk kN khm kaw krv ksd kgm kca kxs kys kbz krt kz5 kc5 kz6 kc6 kz7 kc7 rsk rN rhm raw rrv rsd rgm rca rxs rys rbz rrt rz5 rc5 rz6 rc6 rz7 rc7 tx pl sg cn cc nm so tn ic he fa cl wv kv mv tg wd nu sv zs iv mj G P X Y B R sT sR sH eW eN bT bN kG kP kX kY kB kR ksT ksR ksH keW keN kbT kbN T it hpl hgr hbz hrt hsc hec hbc hzs hva hik htx htg hto hic hst hit H locs ls hP hD hS hl
        · skip
          rw [hsw] at hxz; clear hsw hkz
          refine zr_ti (y := nI 30) (hxz) ?_
          refine lv_tableIn (x := nI 30) (off := 1108) (tgt := 1141) hx hb dL_law_33 (by decide +kernel) (by decide +kernel) (by decide +kernel) (by decide) ?_
          exact law_case_30 x0 g0 h0 h1 h2 h3 h4 h5 h6 g1 g2 g3 g4 g5 s5 g6 s6 g7 s7 xk kh0 kh1 kh2 kh3 kh4 kh5 kh6 k1 k2 k3 k4 k5 ks5 k6 ks6 k7 ks7 xt rh0 rh1 rh2 rh3 rh4 rh5 rh6 r1 r2 r3 r4 r5 rs5 r6 rs6 r7 rs7 xx x1 x2 y1 x3 xp t0 u0 t1 u1 t2 u2 t3 u3 t4 u4 t5 u5 m0 w0 w1 w2 w3 w4 w5 w6 w7 w8 w9 tf C0 hL hK htf0 htf1 htf2 htf3 htf4 htf5 i hi KN ik kd N hm aw rv sd gm ca xs ys bz rt sn c5 en c6 bn c7 ksk kN khm kaw krv ksd kgm kca kxs kys kbz krt kz5 kc5 kz6 kc6 kz7 kc7 rsk rN rhm raw rrv rsd rgm rca rxs rys rbz rrt rz5 rc5 rz6 rc6 rz7 rc7 tx pl sg cn cc nm so tn ic he fa cl wv kv mv tg wd nu sv zs iv mj G P X Y B R sT sR sH eW eN bT bN kG kP kX kY kB kR ksT ksR ksH keW keN kbT kbN T it hpl hgr hbz hrt hsc hec hbc hzs hva hik htx htg hto hic hst hit H locs ls hP hD hS hl
        · skip
          rw [hsw] at hxz; clear hsw hkz
          refine zr_ti (y := nI 31) (hxz) ?_
          refine lv_tableIn (x := nI 31) (off := 1141) (tgt := 1174) hx hb dL_law_33 (by decide +kernel) (by decide +kernel) (by decide +kernel) (by decide) ?_
          exact law_case_31 x0 g0 h0 h1 h2 h3 h4 h5 h6 g1 g2 g3 g4 g5 s5 g6 s6 g7 s7 xk kh0 kh1 kh2 kh3 kh4 kh5 kh6 k1 k2 k3 k4 k5 ks5 k6 ks6 k7 ks7 xt rh0 rh1 rh2 rh3 rh4 rh5 rh6 r1 r2 r3 r4 r5 rs5 r6 rs6 r7 rs7 xx x1 x2 y1 x3 xp t0 u0 t1 u1 t2 u2 t3 u3 t4 u4 t5 u5 m0 w0 w1 w2 w3 w4 w5 w6 w7 w8 w9 tf C0 hL hK htf0 htf1 htf2 htf3 htf4 htf5 i hi KN ik kd N hm aw rv sd gm ca xs ys bz rt sn c5 en c6 bn c7 ksk kN khm kaw krv ksd kgm kca kxs kys kbz krt kz5 kc5 kz6 kc6 kz7 kc7 rsk rN rhm raw rrv rsd rgm rca rxs rys rbz rrt rz5 rc5 rz6 rc6 rz7 rc7 tx pl sg cn cc nm so tn ic he fa cl wv kv mv tg wd nu sv zs iv mj G P X Y B R sT sR sH eW eN bT bN kG kP kX kY kB kR ksT ksR ksH keW keN kbT kbN T it hpl hgr hbz hrt hsc hec hbc hzs hva hik htx htg hto hic hst hit H locs ls hP hD hS hl
        · skip
          rw [hsw] at hxz; clear hsw hkz
          refine zr_ti (y := nI 32) (hxz) ?_
          refine lv_tableIn (x := nI 32) (off := 1154) (tgt := 1187) hx hb dL_law_33 (by decide +kernel) (by decide +kernel) (by decide +kernel) (by decide) ?_
          exact law_case_32 x0 g0 h0 h1 h2 h3 h4 h5 h6 g1 g2 g3 g4 g5 s5 g6 s6 g7 s7 xk kh0 kh1 kh2 kh3 kh4 kh5 kh6 k1 k2 k3 k4 k5 ks5 k6 ks6 k7 ks7 xt rh0 rh1 rh2 rh3 rh4 rh5 rh6 r1 r2 r3 r4 r5 rs5 r6 rs6 r7 rs7 xx x1 x2 y1 x3 xp t0 u0 t1 u1 t2 u2 t3 u3 t4 u4 t5 u5 m0 w0 w1 w2 w3 w4 w5 w6 w7 w8 w9 tf C0 hL hK htf0 htf1 htf2 htf3 htf4 htf5 i hi KN ik kd N hm aw rv sd gm ca xs ys bz rt sn c5 en c6 bn c7 ksk kN khm kaw krv ksd kgm kca kxs kys kbz krt kz5 kc5 kz6 kc6 kz7 kc7 rsk rN rhm raw rrv rsd rgm rca rxs rys rbz rrt rz5 rc5 rz6 rc6 rz7 rc7 tx pl sg cn cc nm so tn ic he fa cl wv kv mv tg wd nu sv zs iv mj G P X Y B R sT sR sH eW eN bT bN kG kP kX kY kB kR ksT ksR ksH keW keN kbT kbN T it hpl hgr hbz hrt hsc hec hbc hzs hva hik htx htg hto hic hst hit H locs ls hP hD hS hl
        · skip
          rw [hsw] at hxz; clear hsw hkz
          refine zr_ti (y := nI 33) (hxz) ?_
          refine lv_tableIn (x := nI 33) (off := 1197) (tgt := 1230) hx hb dL_law_33 (by decide +kernel) (by decide +kernel) (by decide +kernel) (by decide) ?_
          exact law_case_33 x0 g0 h0 h1 h2 h3 h4 h5 h6 g1 g2 g3 g4 g5 s5 g6 s6 g7 s7 xk kh0 kh1 kh2 kh3 kh4 kh5 kh6 k1 k2 k3 k4 k5 ks5 k6 ks6 k7 ks7 xt rh0 rh1 rh2 rh3 rh4 rh5 rh6 r1 r2 r3 r4 r5 rs5 r6 rs6 r7 rs7 xx x1 x2 y1 x3 xp t0 u0 t1 u1 t2 u2 t3 u3 t4 u4 t5 u5 m0 w0 w1 w2 w3 w4 w5 w6 w7 w8 w9 tf C0 hL hK htf0 htf1 htf2 htf3 htf4 htf5 i hi KN ik kd N hm aw rv sd gm ca xs ys bz rt sn c5 en c6 bn c7 ksk kN khm kaw krv ksd kgm kca kxs kys kbz krt kz5 kc5 kz6 kc6 kz7 kc7 rsk rN rhm raw rrv rsd rgm rca rxs rys rbz rrt rz5 rc5 rz6 rc6 rz7 rc7 tx pl sg cn cc nm so tn ic he fa cl wv kv mv tg wd nu sv zs iv mj G P X Y B R sT sR sH eW eN bT bN kG kP kX kY kB kR ksT ksR ksH keW keN kbT kbN T it hpl hgr hbz hrt hsc hec hbc hzs hva hik htx htg hto hic hst hit H locs ls hP hD hS hl
        · skip
          rw [hsw] at hxz; clear hsw hkz
          refine zr_ti (y := nI 34) (hxz) ?_
          refine lv_tableIn (x := nI 34) (off := 1210) (tgt := 1243) hx hb dL_law_33 (by decide +kernel) (by decide +kernel) (by decide +kernel) (by decide) ?_
          exact law_case_34 x0 g0 h0 h1 h2 h3 h4 h5 h6 g1 g2 g3 g4 g5 s5 g6 s6 g7 s7 xk kh0 kh1 kh2 kh3 kh4 kh5 kh6 k1 k2 k3 k4 k5 ks5 k6 ks6 k7 ks7 xt rh0 rh1 rh2 rh3 rh4 rh5 rh6 r1 r2 r3 r4 r5 rs5 r6 rs6 r7 rs7 xx x1 x2 y1 x3 xp t0 u0 t1 u1 t2 u2 t3 u3 t4 u4 t5 u5 m0 w0 w1 w2 w3 w4 w5 w6 w7 w8 w9 tf C0 hL hK htf0 htf1 htf2 htf3 htf4 htf5 i hi KN ik kd N hm aw rv sd gm ca xs ys bz rt sn c5 en c6 bn c7 ksk kN khm kaw krv ksd kgm kca kxs kys kbz krt kz5 kc5 kz6 kc6 kz7 kc7 rsk rN rhm raw rrv rsd rgm rca rxs rys rbz rrt rz5 rc5 rz6 rc6 rz7 rc7 tx pl sg cn cc nm so tn ic he fa cl wv kv mv tg wd nu sv zs iv mj G P X Y B R sT sR sH eW eN bT bN kG kP kX kY kB kR ksT ksR ksH keW keN kbT kbN T it hpl hgr hbz hrt hsc hec hbc hzs hva hik htx htg hto hic hst hit H locs ls hP hD hS hl
        · skip
          rw [hsw] at hxz; clear hsw hkz
          refine zr_ti (y := nI 35) (hxz) ?_
          refine lv_tableIn (x := nI 35) (off := 1223) (tgt := 1256) hx hb dL_law_33 (by decide +kernel) (by decide +kernel) (by decide +kernel) (by decide) ?_
          exact law_case_35 x0 g0 h0 h1 h2 h3 h4 h5 h6 g1 g2 g3 g4 g5 s5 g6 s6 g7 s7 xk kh0 kh1 kh2 kh3 kh4 kh5 kh6 k1 k2 k3 k4 k5 ks5 k6 ks6 k7 ks7 xt rh0 rh1 rh2 rh3 rh4 rh5 rh6 r1 r2 r3 r4 r5 rs5 r6 rs6 r7 rs7 xx x1 x2 y1 x3 xp t0 u0 t1 u1 t2 u2 t3 u3 t4 u4 t5 u5 m0 w0 w1 w2 w3 w4 w5 w6 w7 w8 w9 tf C0 hL hK htf0 htf1 htf2 htf3 htf4 htf5 i hi KN ik kd N hm aw rv sd gm ca xs ys bz rt sn c5 en c6 bn c7 ksk kN khm kaw krv ksd kgm kca kxs kys kbz krt kz5 kc5 kz6 kc6 kz7 kc7 rsk rN rhm raw rrv rsd rgm rca rxs rys rbz rrt rz5 rc5 rz6 rc6 rz7 rc7 tx pl sg cn cc nm so tn ic he fa cl wv kv mv tg wd nu sv zs iv mj G P X Y B R sT sR sH eW eN bT bN kG kP kX kY kB kR ksT ksR ksH keW keN kbT kbN T it hpl hgr hbz hrt hsc hec hbc hzs hva hik htx htg hto hic hst hit H locs ls hP hD hS hl
        · skip
          rw [hsw] at hxz; clear hsw hkz
          refine zr_ti (y := nI 36) (hxz) ?_
          refine lv_tableIn (x := nI 36) (off := 1246) (tgt := 1279) hx hb dL_law_33 (by decide +kernel) (by decide +kernel) (by decide +kernel) (by decide) ?_
          exact law_case_36 x0 g0 h0 h1 h2 h3 h4 h5 h6 g1 g2 g3 g4 g5 s5 g6 s6 g7 s7 xk kh0 kh1 kh2 kh3 kh4 kh5 kh6 k1 k2 k3 k4 k5 ks5 k6 ks6 k7 ks7 xt rh0 rh1 rh2 rh3 rh4 rh5 rh6 r1 r2 r3 r4 r5 rs5 r6 rs6 r7 rs7 xx x1 x2 y1 x3 xp t0 u0 t1 u1 t2 u2 t3 u3 t4 u4 t5 u5 m0 w0 w1 w2 w3 w4 w5 w6 w7 w8 w9 tf C0 hL hK htf0 htf1 htf2 htf3 htf4 htf5 i hi KN ik kd N hm aw rv sd gm ca xs ys bz rt sn c5 en c6 bn c7 ksk kN khm kaw krv ksd kgm kca kxs kys kbz krt kz5 kc5 kz6 kc6 kz7 kc7 rsk rN rhm raw rrv rsd rgm rca rxs rys rbz rrt rz5 rc5 rz6 rc6 rz7 rc7 tx pl sg cn cc nm so tn ic he fa cl wv kv mv tg wd nu sv zs iv mj G P X Y B R sT sR sH eW eN bT bN kG kP kX kY kB kR ksT ksR ksH keW keN kbT kbN T it hpl hgr hbz hrt hsc hec hbc hzs hva hik htx htg hto hic hst hit H locs ls hP hD hS hl
        · skip
          rw [hsw] at hxz; clear hsw hkz
          refine zr_ti (y := nI 37) (hxz) ?_
          refine lv_tableIn (x := nI 37) (off := 1289) (tgt := 1322) hx hb dL_law_33 (by decide +kernel) (by decide +kernel) (by decide +kernel) (by decide) ?_
          exact law_case_37 x0 g0 h0 h1 h2 h3 h4 h5 h6 g1 g2 g3 g4 g5 s5 g6 s6 g7 s7 xk kh0 kh1 kh2 kh3 kh4 kh5 kh6 k1 k2 k3 k4 k5 ks5 k6 ks6 k7 ks7 xt rh0 rh1 rh2 rh3 rh4 rh5 rh6 r1 r2 r3 r4 r5 rs5 r6 rs6 r7 rs7 xx x1 x2 y1 x3 xp t0 u0 t1 u1 t2 u2 t3 u3 t4 u4 t5 u5 m0 w0 w1 w2 w3 w4 w5 w6 w7 w8 w9 tf C0 hL hK htf0 htf1 htf2 htf3 htf4 htf5 i hi KN ik kd N hm aw rv sd gm ca xs ys bz rt sn c5 en c6 bn c7 ksk kN khm kaw krv ksd kgm kca kxs kys kbz krt kz5 kc5 kz6 kc6 kz7 kc7 rsk rN rhm raw rrv rsd rgm rca rxs rys rbz rrt rz5 rc5 rz6 rc6 rz7 rc7 tx pl sg cn cc nm so tn ic he fa cl wv kv mv tg wd nu sv zs iv mj G P X Y B R sT sR sH eW eN bT bN kG kP kX kY kB kR ksT ksR ksH keW keN kbT kbN T it hpl hgr hbz hrt hsc hec hbc hzs hva hik htx htg hto hic hst hit H locs ls hP hD hS hl
        · skip
          rw [hsw] at hxz; clear hsw hkz
          refine zr_ti (y := nI 38) (hxz) ?_
          refine lv_tableIn (x := nI 38) (off := 1362) (tgt := 1395) hx hb dL_law_33 (by decide +kernel) (by decide +kernel) (by decide +kernel) (by decide) ?_
          exact law_case_38 x0 g0 h0 h1 h2 h3 h4 h5 h6 g1 g2 g3 g4 g5 s5 g6 s6 g7 s7 xk kh0 kh1 kh2 kh3 kh4 kh5 kh6 k1 k2 k3 k4 k5 ks5 k6 ks6 k7 ks7 xt rh0 rh1 rh2 rh3 rh4 rh5 rh6 r1 r2 r3 r4 r5 rs5 r6 rs6 r7 rs7 xx x1 x2 y1 x3 xp t0 u0 t1 u1 t2 u2 t3 u3 t4 u4 t5 u5 m0 w0 w1 w2 w3 w4 w5 w6 w7 w8 w9 tf C0 hL hK htf0 htf1 htf2 htf3 htf4 htf5 i hi KN ik kd N hm aw rv sd gm ca xs ys bz rt sn c5 en c6 bn c7 ksk kN khm kaw krv ksd kgm kca kxs kys kbz krt kz5 kc5 kz6 kc6 kz7 kc7 rsk rN rhm raw rrv rsd rgm rca rxs rys rbz rrt rz5 rc5 rz6 rc6 rz7 rc7 tx pl sg cn cc nm so tn ic he fa cl wv kv mv tg wd nu sv zs iv mj G P X Y B R sT sR sH eW eN bT bN kG kP kX kY kB kR ksT ksR ksH keW keN kbT kbN T it hpl hgr hbz hrt hsc hec hbc hzs hva hik htx htg hto hic hst hit H locs ls hP hD hS hl
        · skip
          rw [hsw] at hxz; clear hsw hkz
          refine zr_ti (y := nI 39) (hxz) ?_
          refine lv_tableIn (x := nI 39) (off := 1396) (tgt := 1429) hx hb dL_law_33 (by decide +kernel) (by decide +kernel) (by decide +kernel) (by decide) ?_
          exact law_case_39 x0 g0 h0 h1 h2 h3 h4 h5 h6 g1 g2 g3 g4 g5 s5 g6 s6 g7 s7 xk kh0 kh1 kh2 kh3 kh4 kh5 kh6 k1 k2 k3 k4 k5 ks5 k6 ks6 k7 ks7 xt rh0 rh1 rh2 rh3 rh4 rh5 rh6 r1 r2 r3 r4 r5 rs5 r6 rs6 r7 rs7 xx x1 x2 y1 x3 xp t0 u0 t1 u1 t2 u2 t3 u3 t4 u4 t5 u5 m0 w0 w1 w2 w3 w4 w5 w6 w7 w8 w9 tf C0 hL hK htf0 htf1 htf2 htf3 htf4 htf5 i hi KN ik kd N hm aw rv sd gm ca xs ys bz rt sn c5 en c6 bn c7 ksk kN khm kaw krv ksd kgm kca kxs kys kbz krt kz5 kc5 kz6 kc6 kz7 kc7 rsk rN rhm raw rrv rsd rgm rca rxs rys rbz rrt rz5 rc5 rz6 rc6 rz7 rc7 tx pl sg cn cc nm so tn ic he fa cl wv kv mv tg wd nu sv zs iv mj G P X Y B R sT sR sH eW eN bT bN kG kP kX kY kB kR ksT ksR ksH keW keN kbT kbN T it hpl hgr hbz hrt hsc hec hbc hzs hva hik htx htg hto hic hst hit H locs ls hP hD hS hl
      · skip
        refine lv_tableOut (tgt := 1492) hx hb dL_law_33 (by simpa using hsw) (by decide) ?_
        exact KN ik kd N hm aw rv sd gm ca xs ys bz rt sn c5 en c6 bn c7 ksk kN khm kaw krv ksd kgm kca kxs kys kbz krt kz5 kc5 kz6 kc6 kz7 kc7 rsk rN rhm raw rrv rsd rgm rca rxs rys rbz rrt rz5 rc5 rz6 rc6 rz7 rc7 tx pl sg cn cc nm so tn ic he fa cl wv kv mv tg wd nu sv zs iv mj G P X Y B R sT sR sH eW eN bT bN kG kP kX kY kB kR ksT ksR ksH keW keN kbT kbN T it hpl hgr hbz hrt hsc hec hbc hzs hva hik htx htg hto hic hst hit H locs ls hP hD hS hl

