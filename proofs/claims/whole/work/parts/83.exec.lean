/-! clauses done: the state as one value -/
abbrev zT : Type := Nat × (Nat → Nat → Nat) × (Nat → Nat → Nat) × (Nat → Nat) × (Nat → Nat) × (Nat → Nat → Nat) × (Nat → Nat) × Nat × Nat × Nat × Nat
/-- what clause w a b c answers and leaves -/
def zd_do (w a b c : Nat) (z : zT) : Int32 × zT := match z with
  | (N, G, P, X, Y, B, R, kd, sn, en, bn) => match w with
    | 0 => (cond (z46 (nI a)) (nI N) (-2), (cond (z46 (nI a)) (zq (nI a)) N, cond (z46 (nI a)) (zm_ciG (zq (nI a))) G, cond (z46 (nI a)) (zm_ciP (zq (nI a))) P, X, Y, cond (z46 (nI a)) (fun _ _ => 0) B, R, kd, cond (z46 (nI a)) 0 sn, cond (z46 (nI a)) 0 en, cond (z46 (nI a)) 0 bn))
    | 1 => (cond (zi (N - 1) (nI a) && zi (N - 1) (nI b)) (nI (zm_brs N (zm_sw P (zq (nI a)) (zq (nI b))))) (-1), (N, cond (zi (N - 1) (nI a) && zi (N - 1) (nI b)) (zm_sw G (zq (nI a)) (zq (nI b))) G, cond (zi (N - 1) (nI a) && zi (N - 1) (nI b)) (zm_sw P (zq (nI a)) (zq (nI b))) P, X, Y, B, R, kd, sn, en, bn))
    | 2 => (cond (zi (N - 1) (nI a) && zi (N / 2) (nI b)) (nI (zm_tuG G (zq (nI a)) (zq (nI b)) (zq (nI a)) (2 * zq (nI b)))) (-1), (N, cond (zi (N - 1) (nI a) && zi (N / 2) (nI b)) (zm_tuG G (zq (nI a)) (zq (nI b))) G, cond (zi (N - 1) (nI a) && zi (N / 2) (nI b)) (zm_tuP P (zq (nI a)) (zq (nI b))) P, X, Y, B, R, kd, sn, en, bn))
    | 3 => (cond (zi N (nI a) && zi N (nI b)) (cond (decide (zq (nI a) = zq (nI b))) (nI (N - 1)) (zm_meet N (zm_exG G (zq (nI a)) (zq (nI b))) (zm_exP P (zq (nI a)) (zq (nI b))) (zq (nI a)) (zq (nI b)))) (-1), (N, cond (zi N (nI a) && zi N (nI b)) (zm_exG G (zq (nI a)) (zq (nI b))) G, cond (zi N (nI a) && zi N (nI b)) (zm_exP P (zq (nI a)) (zq (nI b))) P, X, Y, B, R, kd, sn, en, bn))
    | 4 => (cond (zi N (nI a) && zi (N - 1) (nI b)) (nI (1 - B (zq (nI a)) (zq (nI b)))) (-1), (N, G, P, X, Y, cond (zi N (nI a) && zi (N - 1) (nI b)) (zm_fl B (zq (nI a)) (zq (nI b))) B, R, kd, sn, en, bn))
    | 5 => (cond (zi 4 (nI a)) (cond (zi 100 (nI b)) (nI (R (zq (nI a)))) (-2)) (-1), (N, G, P, X, Y, B, cond (zi 4 (nI a) && zi 100 (nI b)) (zm_up R (zq (nI a)) (zq (nI b))) R, kd, sn, en, bn))
    | 6 => (cond (zi 3 (nI a)) (nI kd) (-2), (N, G, P, X, Y, B, R, cond (zi 3 (nI a)) (zq (nI a)) kd, sn, en, bn))
    | _ => (cond (zi N (nI a)) (cond (zi 100 (nI b) && zi 100 (nI c)) (nI (100 * X (zq (nI a)) + Y (zq (nI a)))) (-2)) (-1), (N, G, P, cond (zi N (nI a) && (zi 100 (nI b) && zi 100 (nI c))) (zm_up X (zq (nI a)) (zq (nI b))) X, cond (zi N (nI a) && (zi 100 (nI b) && zi 100 (nI c))) (zm_up Y (zq (nI a)) (zq (nI c))) Y, B, R, kd, sn, en, bn))
/-- the first k of a text's clauses: how many were done, the state then -/
def zd_it (T : Nat → Nat) (L : Nat) (z : zT) : Nat → Nat × zT
  | 0 => (0, z)
  | k + 1 => ((zd_it T L z k).1 + (if (zd_do (zx_cw T L (zx_ps T L k)) (zx_cN T L (zx_ps T L k) 0) (zx_cN T L (zx_ps T L k) 1) (zx_cN T L (zx_ps T L k) 2) (zd_it T L z k).2).1 < 0 then 0 else 1), (zd_do (zx_cw T L (zx_ps T L k)) (zx_cN T L (zx_ps T L k) 0) (zx_cN T L (zx_ps T L k) 1) (zx_cN T L (zx_ps T L k) 2) (zd_it T L z k).2).2)
theorem zd_it_s {T : Nat → Nat} {L k d w a b c : Nat} {z z1 : zT} (h : zd_it T L z k = (d, z1)) (hw : zx_cw T L (zx_ps T L k) = w) (ha : zx_cN T L (zx_ps T L k) 0 = a) (hb : zx_cN T L (zx_ps T L k) 1 = b) (hc : zx_cN T L (zx_ps T L k) 2 = c) : zd_it T L z (k + 1) = (d + (if (zd_do w a b c z1).1 < 0 then 0 else 1), (zd_do w a b c z1).2) := by
  rw [zd_it, h, hw, ha, hb, hc]
/-- the whole reading -/
def zo_read (T : Nat → Nat) (L : Nat) (z : zT) : Int32 := match zx_pf T L 12 0 0 with | some f => -10 - nI f | none => nI (zd_it T L z (zx_pc T L 12 0 0)).1
def zd_rd (T : Nat → Nat) (L : Nat) (z : zT) : zT := match zx_pf T L 12 0 0 with | some _ => z | none => (zd_it T L z (zx_pc T L 12 0 0)).2
theorem zm_sc_0 {n : Nat} {c : Bool} {sT sR sH : Nat → Nat} {cs : Nat → Int32} (h : zm_sc n sT sR sH cs) : zm_sc (cond c 0 n) sT sR sH cs := by
  cases c
  · exact h
  · exact fun k hk => absurd hk (Nat.not_lt_zero _)
theorem zm_ec_0 {n : Nat} {c : Bool} {eW eN : Nat → Nat} {cs : Nat → Int32} (h : zm_ec n eW eN cs) : zm_ec (cond c 0 n) eW eN cs := by
  cases c
  · exact h
  · exact fun k hk => absurd hk (Nat.not_lt_zero _)
theorem zm_bc_0 {n : Nat} {c : Bool} {bT bN : Nat → Nat} {cs : Nat → Int32} (h : zm_bc n bT bN cs) : zm_bc (cond c 0 n) bT bN cs := by
  cases c
  · exact h
  · exact fun k hk => absurd hk (Nat.not_lt_zero _)
theorem zs_all_te {N kd sn : Nat} {c : Bool} {M : Nat} {sT sR sH : Nat → Nat} {en : Nat} {eW eN : Nat → Nat} {bn : Nat} {bT bN : Nat → Nat} (h : zs_all N kd sn sT sR sH en eW eN bn bT bN) : zs_all (cond c M N) kd (cond c 0 sn) sT sR sH (cond c 0 en) eW eN (cond c 0 bn) bT bN := by
  cases c
  · exact h
  · exact ⟨h.1, ⟨Nat.zero_le _, fun k hk => absurd hk (Nat.not_lt_zero _)⟩, ⟨Nat.zero_le _, fun k hk => absurd hk (Nat.not_lt_zero _)⟩, ⟨Nat.zero_le _, fun k hk => absurd hk (Nat.not_lt_zero _)⟩⟩
theorem zs_all_ki {N kd sn : Nat} {v : Int32} {sT sR sH : Nat → Nat} {en : Nat} {eW eN : Nat → Nat} {bn : Nat} {bT bN : Nat → Nat} (h : zs_all N kd sn sT sR sH en eW eN bn bT bN) : zs_all N (cond (zi 3 v) (zq v) kd) sn sT sR sH en eW eN bn bT bN := by
  cases e : zi 3 v
  · exact h
  · exact ⟨(zi_x e).1, h.2⟩
