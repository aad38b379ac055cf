/-! answers of the face: functions of what class and reference are both tied to -/
theorem zk_t {α : Type} {c : Bool} {a b : α} (e : c = true) : cond c a b = a := by rw [e]; rfl
theorem zk_f {α : Type} {c : Bool} {a b : α} (e : c = false) : cond c a b = b := by rw [e]; rfl
def z46 (v : Int32) : Bool := decide (v = nI 4) || decide (v = nI 6)
theorem z46_f {v : Int32} (h4 : ¬ v = nI 4) (h6 : ¬ v = nI 6) : z46 v = false := by unfold z46; rw [decide_eq_false h4, decide_eq_false h6]; rfl
theorem z46_4 : z46 (nI 4) = true := by unfold z46; rw [decide_eq_true rfl]; rfl
theorem z46_6 : z46 (nI 6) = true := by unfold z46; rw [decide_eq_true (p := nI 6 = nI 6) rfl, Bool.or_true]
/-- which case: n is none -/
def zw (n : Nat) (v : Int32) : Nat := if zi n v = true then zq v else n
theorem zw_t {n k : Nat} (h : k < n) (h2 : n < 2 ^ 31 := by omega) : zw n (nI k) = k := by unfold zw; rw [if_pos (zi_t h (by omega)), zq_t (by omega)]
theorem zw_f {n : Nat} {v : Int32} (h : zi n v = false) : zw n v = n := by unfold zw; rw [h]; rfl
theorem zi_o {n : Nat} {v : Int32} (hn : n < 2 ^ 31) (h : v.toInt < 0 ∨ (n : Int) - 1 < v.toInt) : zi n v = false := by
  refine zi_f (fun t ht e => ?_)
  subst e
  have h1 := nI_toInt (n := t) (by omega)
  omega
theorem zw_o {n : Nat} {v : Int32} (hn : n < 2 ^ 31) (h : v.toInt < 0 ∨ (n : Int) - 1 < v.toInt) : zw n v = n := zw_f (zi_o hn h)
def zo_of (G P B : Nat → Nat → Nat) (t r : Nat) : Nat → Int32 | 0 => nI (zm_rv G P t r) | 1 => nI (zm_sd P t r) | 2 => nI (zm_gm P t r) | 3 => nI (B t r) | _ => -1
def zo_season (N : Nat) (G P : Nat → Nat → Nat) (kd t r : Nat) : Nat → Int32 | 0 => nI (zm_rv G P t (zm_half N kd r)) | 1 => nI (zm_ss N P kd t r) | _ => -1
def zo_about (N : Nat) (G P : Nat → Nat → Nat) (X Y : Nat → Nat) (kd t : Nat) : Nat → Int32 | 0 => zm_pat P t (N - 1) | 1 => nI (zm_br N P t) | 2 => zm_oth N P t | 3 => nI (zm_miles N G P X Y t) | 4 => nI (X t) | 5 => nI (Y t) | 6 => nI (zm_sb N P kd t) | _ => -1
def zo_told (N : Nat) (G P B : Nat → Nat → Nat) (X Y : Nat → Nat) (kd : Nat) : Nat → Int32 | 0 => nI N | 1 => nI (zm_brs N P) | 2 => nI (zm_vio N G B) | 3 => nI (zm_car N G P) | 4 => nI (zm_amiles N G P X Y) | 5 => nI (zf_most (fun t => zf_wear (zm_way G P X Y t) (N - 1)) (N - 1)) | 6 => nI (zm_allb B) | 7 => nI kd | 8 => nI (zm_sbs N P kd) | 9 => nI (zm_brs N P) - nI (N - 2) | _ => -1
def zo_part (x : UInt64) : Nat → Int64 | 0 => (((lN x.toNat).toUInt64 >>> ((nI 32).toInt64.toUInt64 &&& Int64.toUInt64 63)).toInt64) | _ => lN x.toNat &&& 4294967295
/-- a bar is told, or told no more -/
def zm_fl (B : Nat → Nat → Nat) (t r : Nat) : Nat → Nat → Nat := fun a b => if a = t ∧ b = r then 1 - B t r else B a b
/-- what an update leaves -/
theorem zn_un {i j : Nat} {v : Int32} {g : Nat → Int32} (h : j ≠ i) : upd g i v j = g j := by unfold upd; rw [if_neg h]
theorem zn_ue {g : Nat → Int32} {i : Nat} {v : Int32} : upd g i v i = v := by unfold upd; rw [if_pos rfl]
/-! steps one behind the other -/
def zm_steps (d : Nat) (R : Nat → Nat) (B : Nat → Nat → Nat) (X Y : Nat → Nat) (N : Nat) : Nat → (Nat → Nat → Nat) → (Nat → Nat → Nat) → Nat × (Nat → Nat → Nat) × (Nat → Nat → Nat)
  | 0, G, P => (0, G, P)
  | k + 1, G, P => match zm_step d R B X Y N G P with
    | none => (0, G, P)
    | some ab => ((zm_steps d R B X Y N k (zm_opG d G ab.1 ab.2) (zm_opP d P ab.1 ab.2)).1 + 1, (zm_steps d R B X Y N k (zm_opG d G ab.1 ab.2) (zm_opP d P ab.1 ab.2)).2)
theorem zm_steps_n {d : Nat} {R : Nat → Nat} {B : Nat → Nat → Nat} {X Y : Nat → Nat} {N k : Nat} {G P : Nat → Nat → Nat} (h : zm_step d R B X Y N G P = none) : zm_steps d R B X Y N k G P = (0, G, P) := by
  cases k with
  | zero => rfl
  | succ k => rw [zm_steps, h]
theorem zm_steps_s {d : Nat} {R : Nat → Nat} {B : Nat → Nat → Nat} {X Y : Nat → Nat} {N k : Nat} {G P : Nat → Nat → Nat} {ab : Nat × Nat} (h : zm_step d R B X Y N G P = some ab) : zm_steps d R B X Y N (k + 1) G P = ((zm_steps d R B X Y N k (zm_opG d G ab.1 ab.2) (zm_opP d P ab.1 ab.2)).1 + 1, (zm_steps d R B X Y N k (zm_opG d G ab.1 ab.2) (zm_opP d P ab.1 ab.2)).2) := by rw [zm_steps, h]
/-- the deed of a manner -/
def zm_deed : Nat → Nat | 0 => 1 | 1 => 0 | _ => 2
/-! books looked at -/
def zm_look (N : Nat) (P : Nat → Nat → Nat) (bT bN : Nat → Nat) : Nat → Nat → Int32 | 0, _ => -5 | k + 1, i => if zm_br N P (bT i) = bN i then zm_look N P bT bN k (i + 1) else nI i
/-! the state as the reference holds it -/
def zv_all (N : Nat) (G P : Nat → Nat → Nat) (X Y : Nat → Nat) (B : Nat → Nat → Nat) (R : Nat → Nat) (kd sn : Nat) (sT sR sH : Nat → Nat) (en : Nat) (eW eN : Nat → Nat) (bn : Nat) (bT bN : Nat → Nat) (w : Nat → Int32) : Prop :=
  zv_g N G P w ∧ zv_xy X Y w ∧ zv_b B w ∧ zv_r R w ∧ w 1 = nI kd ∧ zv_sc sn sT sR sH w ∧ zv_ec en eW eN w ∧ zv_bc bn bT bN w ∧ sn ≤ 6 ∧ en ≤ 8 ∧ bn ≤ 8
def zs_all (N kd sn : Nat) (sT sR sH : Nat → Nat) (en : Nat) (eW eN : Nat → Nat) (bn : Nat) (bT bN : Nat → Nat) : Prop := kd < 3 ∧ zs_se N sn sT sR sH ∧ zs_ev N en eW eN ∧ zs_bo N bn bT bN
theorem zv_g_a {N : Nat} {G P : Nat → Nat → Nat} {w w' : Nat → Int32} (h : zv_g N G P w) (e : ∀ x, x = 0 ∨ (57 ≤ x ∧ x < 87) → w' x = w x) : zv_g N G P w' :=
  ⟨h.1, (e 0 (Or.inl rfl)).trans h.2.1, fun r k hr hk => by
    have hN := h.1.1
    rw [e _ (by omega)]; exact h.2.2 r k hr hk⟩
theorem zv_xy_a {X Y : Nat → Nat} {w w' : Nat → Int32} (h : zv_xy X Y w) (e : ∀ x, 9 ≤ x ∧ x < 21 → w' x = w x) : zv_xy X Y w' := fun t ht => by
  obtain ⟨a, b, c, d⟩ := h t ht
  exact ⟨a, b, (e _ (by omega)).trans c, (e _ (by omega)).trans d⟩
theorem zv_b_a {B : Nat → Nat → Nat} {w w' : Nat → Int32} (h : zv_b B w) (e : ∀ x, 21 ≤ x ∧ x < 57 → w' x = w x) : zv_b B w' :=
  ⟨fun t r ht hr => ⟨(h.1 t r ht hr).1, (e _ (by omega)).trans (h.1 t r ht hr).2⟩, h.2⟩
theorem zv_r_a {R : Nat → Nat} {w w' : Nat → Int32} (h : zv_r R w) (e : ∀ x, 5 ≤ x ∧ x < 9 → w' x = w x) : zv_r R w' := fun k hk => ⟨(h k hk).1, (e _ (by omega)).trans (h k hk).2⟩
theorem zv_sc_a {n : Nat} {sT sR sH : Nat → Nat} {w w' : Nat → Int32} (h : zv_sc n sT sR sH w) (hn : n ≤ 6) (e : ∀ x, x = 2 ∨ (87 ≤ x ∧ x < 105) → w' x = w x) : zv_sc n sT sR sH w' :=
  ⟨(e _ (by omega)).trans h.1, fun k hk => by
    obtain ⟨a, b, c⟩ := h.2 k hk
    exact ⟨(e _ (by omega)).trans a, (e _ (by omega)).trans b, (e _ (by omega)).trans c⟩⟩
theorem zv_ec_a {n : Nat} {eW eN : Nat → Nat} {w w' : Nat → Int32} (h : zv_ec n eW eN w) (hn : n ≤ 8) (e : ∀ x, x = 3 ∨ (105 ≤ x ∧ x < 121) → w' x = w x) : zv_ec n eW eN w' :=
  ⟨(e _ (by omega)).trans h.1, fun k hk => by
    obtain ⟨a, b⟩ := h.2 k hk
    exact ⟨(e _ (by omega)).trans a, (e _ (by omega)).trans b⟩⟩
theorem zv_bc_a {n : Nat} {bT bN : Nat → Nat} {w w' : Nat → Int32} (h : zv_bc n bT bN w) (hn : n ≤ 8) (e : ∀ x, x = 4 ∨ (121 ≤ x ∧ x < 137) → w' x = w x) : zv_bc n bT bN w' :=
  ⟨(e _ (by omega)).trans h.1, fun k hk => by
    obtain ⟨a, b⟩ := h.2 k hk
    exact ⟨(e _ (by omega)).trans a, (e _ (by omega)).trans b⟩⟩
section ZVA
variable {N : Nat} {G P : Nat → Nat → Nat} {X Y : Nat → Nat} {B : Nat → Nat → Nat} {R : Nat → Nat} {kd sn : Nat} {sT sR sH : Nat → Nat} {en : Nat} {eW eN : Nat → Nat} {bn : Nat} {bT bN : Nat → Nat} {w w' : Nat → Int32}
theorem zv_all_cp (h : zv_all N G P X Y B R kd sn sT sR sH en eW eN bn bT bN w) (e : ∀ x, x < 137 → w' x = w x) : zv_all N G P X Y B R kd sn sT sR sH en eW eN bn bT bN w' := by
  obtain ⟨h1, h2, h3, h4, h5, h6, h7, h8, h9, h10, h11⟩ := h
  exact ⟨zv_g_a h1 (fun x hx => e x (by omega)), zv_xy_a h2 (fun x hx => e x (by omega)), zv_b_a h3 (fun x hx => e x (by omega)), zv_r_a h4 (fun x hx => e x (by omega)), (e 1 (by omega)).trans h5, zv_sc_a h6 h9 (fun x hx => e x (by omega)), zv_ec_a h7 h10 (fun x hx => e x (by omega)), zv_bc_a h8 h11 (fun x hx => e x (by omega)), h9, h10, h11⟩
theorem zv_all_off {G' P' : Nat → Nat → Nat} (h : zv_all N G P X Y B R kd sn sT sR sH en eW eN bn bT bN w) (hg : zv_g N G' P' w') (e : zv_off w w') : zv_all N G' P' X Y B R kd sn sT sR sH en eW eN bn bT bN w' := by
  obtain ⟨h1, h2, h3, h4, h5, h6, h7, h8, h9, h10, h11⟩ := h
  exact ⟨hg, zv_xy_a h2 (fun x hx => e x (by omega)), zv_b_a h3 (fun x hx => e x (by omega)), zv_r_a h4 (fun x hx => e x (by omega)), (e 1 (by omega)).trans h5, zv_sc_a h6 h9 (fun x hx => e x (by omega)), zv_ec_a h7 h10 (fun x hx => e x (by omega)), zv_bc_a h8 h11 (fun x hx => e x (by omega)), h9, h10, h11⟩
theorem zv_all_te {M : Nat} (h : zv_all N G P X Y B R kd sn sT sR sH en eW eN bn bT bN w) (c : zv_cl M w w') : zv_all M (zm_ciG M) (zm_ciP M) X Y (fun _ _ => 0) R kd 0 sT sR sH 0 eW eN 0 bT bN w' := by
  obtain ⟨h1, h2, h3, h4, h5, h6, h7, h8, h9, h10, h11⟩ := h
  obtain ⟨c1, c2, c3, c4, c5, e⟩ := c
  refine ⟨c1, zv_xy_a h2 (fun x hx => e x (by omega)), ⟨fun t r ht hr => ⟨Nat.zero_lt_two, ?_⟩, fun _ _ => rfl⟩, zv_r_a h4 (fun x hx => e x (by omega)), (e 1 (by omega)).trans h5, ⟨c2, fun k hk => absurd hk (Nat.not_lt_zero _)⟩, ⟨c3, fun k hk => absurd hk (Nat.not_lt_zero _)⟩, ⟨c4, fun k hk => absurd hk (Nat.not_lt_zero _)⟩, by omega, by omega, by omega⟩
  rw [Nat.add_assoc]; exact c5 (6 * t + r) (by omega)
theorem zv_all_gr {t x y : Nat} (h : zv_all N G P X Y B R kd sn sT sR sH en eW eN bn bT bN w) (ht : t < 6) (hx : x ≤ 99) (hy : y ≤ 99) : zv_all N G P (zm_up X t x) (zm_up Y t y) B R kd sn sT sR sH en eW eN bn bT bN (upd (upd w (9 + 2 * t) (nI x)) (9 + 2 * t + 1) (nI y)) := by
  obtain ⟨h1, h2, h3, h4, h5, h6, h7, h8, h9, h10, h11⟩ := h
  have e : ∀ j, j ≠ 9 + 2 * t → j ≠ 9 + 2 * t + 1 → (upd (upd w (9 + 2 * t) (nI x)) (9 + 2 * t + 1) (nI y)) j = w j := fun j q1 q2 => by unfold upd; rw [if_neg q2, if_neg q1]
  refine ⟨zv_g_a h1 (fun j hj => e j (by omega) (by omega)), fun k hk => ?_, zv_b_a h3 (fun j hj => e j (by omega) (by omega)), zv_r_a h4 (fun j hj => e j (by omega) (by omega)), (e 1 (by omega) (by omega)).trans h5, zv_sc_a h6 h9 (fun j hj => e j (by omega) (by omega)), zv_ec_a h7 h10 (fun j hj => e j (by omega) (by omega)), zv_bc_a h8 h11 (fun j hj => e j (by omega) (by omega)), h9, h10, h11⟩
  obtain ⟨a1, a2, a3, a4⟩ := h2 k hk
  refine ⟨?_, ?_, ?_, ?_⟩ <;> (simp only [upd, zm_up, ↓reduceIte]; (repeat' split); all_goals first | rfl | assumption | (exfalso; omega))
theorem zv_all_bar {t r x : Nat} (h : zv_all N G P X Y B R kd sn sT sR sH en eW eN bn bT bN w) (ht : t < 6) (hr : r < 5) (hx : x = 1 - B t r) : zv_all N G P X Y (zm_fl B t r) R kd sn sT sR sH en eW eN bn bT bN (upd w (21 + 6 * t + r) (nI x)) := by
  obtain ⟨h1, h2, h3, h4, h5, h6, h7, h8, h9, h10, h11⟩ := h
  have e : ∀ j, j ≠ 21 + 6 * t + r → (upd w (21 + 6 * t + r) (nI x)) j = w j := fun j q1 => by unfold upd; rw [if_neg q1]
  refine ⟨zv_g_a h1 (fun j hj => e j (by omega)), zv_xy_a h2 (fun j hj => e j (by omega)), ⟨fun a b ha hb => ?_, fun a ha => ?_⟩, zv_r_a h4 (fun j hj => e j (by omega)), (e 1 (by omega)).trans h5, zv_sc_a h6 h9 (fun j hj => e j (by omega)), zv_ec_a h7 h10 (fun j hj => e j (by omega)), zv_bc_a h8 h11 (fun j hj => e j (by omega)), h9, h10, h11⟩
  · obtain ⟨b1, b2⟩ := h3.1 a b ha hb
    unfold zm_fl
    by_cases q : a = t ∧ b = r
    · rw [if_pos q, q.1, q.2, ← hx]; exact ⟨by omega, by unfold upd; rw [if_pos rfl]⟩
    · rw [if_neg q]; exact ⟨b1, (e _ (by omega)).trans b2⟩
  · unfold zm_fl; rw [if_neg (by omega)]; exact h3.2 a ha
theorem zv_all_ra {k x : Nat} (h : zv_all N G P X Y B R kd sn sT sR sH en eW eN bn bT bN w) (hk : k < 4) (hx : x ≤ 99) : zv_all N G P X Y B (zm_up R k x) kd sn sT sR sH en eW eN bn bT bN (upd w (5 + k) (nI x)) := by
  obtain ⟨h1, h2, h3, h4, h5, h6, h7, h8, h9, h10, h11⟩ := h
  have e : ∀ j, j ≠ 5 + k → (upd w (5 + k) (nI x)) j = w j := fun j q1 => by unfold upd; rw [if_neg q1]
  refine ⟨zv_g_a h1 (fun j hj => e j (by omega)), zv_xy_a h2 (fun j hj => e j (by omega)), zv_b_a h3 (fun j hj => e j (by omega)), fun a ha => ?_, (e 1 (by omega)).trans h5, zv_sc_a h6 h9 (fun j hj => e j (by omega)), zv_ec_a h7 h10 (fun j hj => e j (by omega)), zv_bc_a h8 h11 (fun j hj => e j (by omega)), h9, h10, h11⟩
  obtain ⟨a1, a2⟩ := h4 a ha
  refine ⟨?_, ?_⟩ <;> (simp only [upd, zm_up, ↓reduceIte]; (repeat' split); all_goals first | rfl | assumption | (exfalso; omega))
theorem zv_all_ki {x : Nat} (h : zv_all N G P X Y B R kd sn sT sR sH en eW eN bn bT bN w) : zv_all N G P X Y B R x sn sT sR sH en eW eN bn bT bN (upd w 1 (nI x)) := by
  obtain ⟨h1, h2, h3, h4, h5, h6, h7, h8, h9, h10, h11⟩ := h
  have e : ∀ j, j ≠ 1 → (upd w 1 (nI x)) j = w j := fun j q1 => by unfold upd; rw [if_neg q1]
  exact ⟨zv_g_a h1 (fun j hj => e j (by omega)), zv_xy_a h2 (fun j hj => e j (by omega)), zv_b_a h3 (fun j hj => e j (by omega)), zv_r_a h4 (fun j hj => e j (by omega)), zn_ue, zv_sc_a h6 h9 (fun j hj => e j (by omega)), zv_ec_a h7 h10 (fun j hj => e j (by omega)), zv_bc_a h8 h11 (fun j hj => e j (by omega)), h9, h10, h11⟩
theorem zv_all_s0 (h : zv_all N G P X Y B R kd sn sT sR sH en eW eN bn bT bN w) : zv_all N G P X Y B R kd 0 sT sR sH en eW eN bn bT bN (upd w 2 (nI 0)) := by
  obtain ⟨h1, h2, h3, h4, h5, h6, h7, h8, h9, h10, h11⟩ := h
  have e : ∀ j, j ≠ 2 → (upd w 2 (nI 0)) j = w j := fun j q1 => by unfold upd; rw [if_neg q1]
  exact ⟨zv_g_a h1 (fun j hj => e j (by omega)), zv_xy_a h2 (fun j hj => e j (by omega)), zv_b_a h3 (fun j hj => e j (by omega)), zv_r_a h4 (fun j hj => e j (by omega)), (e 1 (by omega)).trans h5, ⟨zn_ue, fun k hk => absurd hk (Nat.not_lt_zero _)⟩, zv_ec_a h7 h10 (fun j hj => e j (by omega)), zv_bc_a h8 h11 (fun j hj => e j (by omega)), by omega, h10, h11⟩
theorem zv_all_e0 (h : zv_all N G P X Y B R kd sn sT sR sH en eW eN bn bT bN w) : zv_all N G P X Y B R kd sn sT sR sH 0 eW eN bn bT bN (upd w 3 (nI 0)) := by
  obtain ⟨h1, h2, h3, h4, h5, h6, h7, h8, h9, h10, h11⟩ := h
  have e : ∀ j, j ≠ 3 → (upd w 3 (nI 0)) j = w j := fun j q1 => by unfold upd; rw [if_neg q1]
  exact ⟨zv_g_a h1 (fun j hj => e j (by omega)), zv_xy_a h2 (fun j hj => e j (by omega)), zv_b_a h3 (fun j hj => e j (by omega)), zv_r_a h4 (fun j hj => e j (by omega)), (e 1 (by omega)).trans h5, zv_sc_a h6 h9 (fun j hj => e j (by omega)), ⟨zn_ue, fun k hk => absurd hk (Nat.not_lt_zero _)⟩, zv_bc_a h8 h11 (fun j hj => e j (by omega)), h9, by omega, h11⟩
theorem zv_all_b0 (h : zv_all N G P X Y B R kd sn sT sR sH en eW eN bn bT bN w) : zv_all N G P X Y B R kd sn sT sR sH en eW eN 0 bT bN (upd w 4 (nI 0)) := by
  obtain ⟨h1, h2, h3, h4, h5, h6, h7, h8, h9, h10, h11⟩ := h
  have e : ∀ j, j ≠ 4 → (upd w 4 (nI 0)) j = w j := fun j q1 => by unfold upd; rw [if_neg q1]
  exact ⟨zv_g_a h1 (fun j hj => e j (by omega)), zv_xy_a h2 (fun j hj => e j (by omega)), zv_b_a h3 (fun j hj => e j (by omega)), zv_r_a h4 (fun j hj => e j (by omega)), (e 1 (by omega)).trans h5, zv_sc_a h6 h9 (fun j hj => e j (by omega)), zv_ec_a h7 h10 (fun j hj => e j (by omega)), ⟨zn_ue, fun k hk => absurd hk (Nat.not_lt_zero _)⟩, h9, h10, by omega⟩
theorem zv_all_s1 {a b c : Nat} (h : zv_all N G P X Y B R kd sn sT sR sH en eW eN bn bT bN w) (hn : sn < 6) : zv_all N G P X Y B R kd (sn + 1) (zm_up sT sn a) (zm_up sR sn b) (zm_up sH sn c) en eW eN bn bT bN (upd (upd (upd (upd w (87 + 3 * sn) (nI a)) (87 + 3 * sn + 1) (nI b)) (87 + 3 * sn + 2) (nI c)) 2 (nI (sn + 1))) := by
  obtain ⟨h1, h2, h3, h4, h5, h6, h7, h8, h9, h10, h11⟩ := h
  have e : ∀ j, j ≠ 2 → (j < 87 + 3 * sn ∨ 87 + 3 * sn + 2 < j) → (upd (upd (upd (upd w (87 + 3 * sn) (nI a)) (87 + 3 * sn + 1) (nI b)) (87 + 3 * sn + 2) (nI c)) 2 (nI (sn + 1))) j = w j := fun j q1 q2 => by unfold upd; rw [if_neg q1, if_neg (by omega), if_neg (by omega), if_neg (by omega)]
  refine ⟨zv_g_a h1 (fun j hj => e j (by omega) (by omega)), zv_xy_a h2 (fun j hj => e j (by omega) (by omega)), zv_b_a h3 (fun j hj => e j (by omega) (by omega)), zv_r_a h4 (fun j hj => e j (by omega) (by omega)), (e 1 (by omega) (by omega)).trans h5, ⟨zn_ue, fun k hk => ?_⟩, zv_ec_a h7 h10 (fun j hj => e j (by omega) (by omega)), zv_bc_a h8 h11 (fun j hj => e j (by omega) (by omega)), by omega, h10, h11⟩
  rcases Nat.lt_or_ge k sn with q | q
  · obtain ⟨a1, a2, a3⟩ := h6.2 k q
    unfold zm_up
    rw [if_neg (by omega), if_neg (by omega), if_neg (by omega), e _ (by omega) (by omega), e _ (by omega) (by omega), e _ (by omega) (by omega)]; exact ⟨a1, a2, a3⟩
  · obtain rfl : k = sn := by omega
    refine ⟨?_, ?_, ?_⟩ <;> (simp only [upd, zm_up, ↓reduceIte]; (repeat' split); all_goals first | rfl | assumption | (exfalso; omega))
theorem zv_all_e1 {a b : Nat} (h : zv_all N G P X Y B R kd sn sT sR sH en eW eN bn bT bN w) (hn : en < 8) : zv_all N G P X Y B R kd sn sT sR sH (en + 1) (zm_up eW en a) (zm_up eN en b) bn bT bN (upd (upd (upd w (105 + 2 * en) (nI a)) (105 + 2 * en + 1) (nI b)) 3 (nI (en + 1))) := by
  obtain ⟨h1, h2, h3, h4, h5, h6, h7, h8, h9, h10, h11⟩ := h
  have e : ∀ j, j ≠ 3 → (j < 105 + 2 * en ∨ 105 + 2 * en + 1 < j) → (upd (upd (upd w (105 + 2 * en) (nI a)) (105 + 2 * en + 1) (nI b)) 3 (nI (en + 1))) j = w j := fun j q1 q2 => by unfold upd; rw [if_neg q1, if_neg (by omega), if_neg (by omega)]
  refine ⟨zv_g_a h1 (fun j hj => e j (by omega) (by omega)), zv_xy_a h2 (fun j hj => e j (by omega) (by omega)), zv_b_a h3 (fun j hj => e j (by omega) (by omega)), zv_r_a h4 (fun j hj => e j (by omega) (by omega)), (e 1 (by omega) (by omega)).trans h5, zv_sc_a h6 h9 (fun j hj => e j (by omega) (by omega)), ⟨zn_ue, fun k hk => ?_⟩, zv_bc_a h8 h11 (fun j hj => e j (by omega) (by omega)), h9, by omega, h11⟩
  rcases Nat.lt_or_ge k en with q | q
  · obtain ⟨a1, a2⟩ := h7.2 k q
    unfold zm_up
    rw [if_neg (by omega), if_neg (by omega), e _ (by omega) (by omega), e _ (by omega) (by omega)]; exact ⟨a1, a2⟩
  · obtain rfl : k = en := by omega
    refine ⟨?_, ?_⟩ <;> (simp only [upd, zm_up, ↓reduceIte]; (repeat' split); all_goals first | rfl | assumption | (exfalso; omega))
theorem zv_all_b1 {a b : Nat} (h : zv_all N G P X Y B R kd sn sT sR sH en eW eN bn bT bN w) (hn : bn < 8) : zv_all N G P X Y B R kd sn sT sR sH en eW eN (bn + 1) (zm_up bT bn a) (zm_up bN bn b) (upd (upd (upd w (121 + 2 * bn) (nI a)) (121 + 2 * bn + 1) (nI b)) 4 (nI (bn + 1))) := by
  obtain ⟨h1, h2, h3, h4, h5, h6, h7, h8, h9, h10, h11⟩ := h
  have e : ∀ j, j ≠ 4 → (j < 121 + 2 * bn ∨ 121 + 2 * bn + 1 < j) → (upd (upd (upd w (121 + 2 * bn) (nI a)) (121 + 2 * bn + 1) (nI b)) 4 (nI (bn + 1))) j = w j := fun j q1 q2 => by unfold upd; rw [if_neg q1, if_neg (by omega), if_neg (by omega)]
  refine ⟨zv_g_a h1 (fun j hj => e j (by omega) (by omega)), zv_xy_a h2 (fun j hj => e j (by omega) (by omega)), zv_b_a h3 (fun j hj => e j (by omega) (by omega)), zv_r_a h4 (fun j hj => e j (by omega) (by omega)), (e 1 (by omega) (by omega)).trans h5, zv_sc_a h6 h9 (fun j hj => e j (by omega) (by omega)), zv_ec_a h7 h10 (fun j hj => e j (by omega) (by omega)), ⟨zn_ue, fun k hk => ?_⟩, h9, h10, by omega⟩
  rcases Nat.lt_or_ge k bn with q | q
  · obtain ⟨a1, a2⟩ := h8.2 k q
    unfold zm_up
    rw [if_neg (by omega), if_neg (by omega), e _ (by omega) (by omega), e _ (by omega) (by omega)]; exact ⟨a1, a2⟩
  · obtain rfl : k = bn := by omega
    refine ⟨?_, ?_⟩ <;> (simp only [upd, zm_up, ↓reduceIte]; (repeat' split); all_goals first | rfl | assumption | (exfalso; omega))
end ZVA
/-! the state as the class holds it -/
theorem zm_gr_up {X Y : Nat → Nat} {xs ys : Nat → Int32} {t x y : Nat} (h : zm_gr X Y xs ys) (hx : x ≤ 99) (hy : y ≤ 99) : zm_gr (zm_up X t x) (zm_up Y t y) (upd xs t (nI x)) (upd ys t (nI y)) := fun k hk => by
  obtain ⟨a1, a2, a3, a4⟩ := h k hk
  refine ⟨?_, ?_, ?_, ?_⟩ <;> (simp only [upd, zm_up, ↓reduceIte]; (repeat' split); all_goals first | rfl | assumption | (exfalso; omega))
theorem zm_bz_fl {B : Nat → Nat → Nat} {bz : Nat → Int32} {t r x : Nat} (h : zm_bz B bz) (ht : t < 6) (hr : r < 5) (hx : x = 1 - B t r) : zm_bz (zm_fl B t r) (upd bz (r * 6 + t) (nI x)) := fun b a hb ha => by
  obtain ⟨b1, b2⟩ := h b a hb ha
  unfold zm_fl
  by_cases q : a = t ∧ b = r
  · rw [if_pos q, q.1, q.2, ← hx]; exact ⟨by omega, by unfold upd; rw [if_pos rfl]⟩
  · rw [if_neg q]; exact ⟨b1, by unfold upd; rw [if_neg (by omega)]; exact b2⟩
theorem zm_bz_0 {bz : Nat → Int32} (h : ∀ j, j < 30 → bz j = nI 0) : zm_bz (fun _ _ => 0) bz := fun r t hr ht => ⟨Nat.zero_lt_two, h _ (by omega)⟩
theorem zm_sc_up {n a b c : Nat} {d : Int32} {sT sR sH : Nat → Nat} {cs : Nat → Int32} (h : zm_sc n sT sR sH cs) : zm_sc (n + 1) (zm_up sT n a) (zm_up sR n b) (zm_up sH n c) (upd (upd (upd (upd cs (n * 4) (nI a)) (n * 4 + 1) (nI b)) (n * 4 + 2) (nI c)) (n * 4 + 3) d) := fun k hk => by
  rcases Nat.lt_or_ge k n with q | q
  · obtain ⟨a1, a2, a3⟩ := h k q
    refine ⟨?_, ?_, ?_⟩ <;> (simp only [upd, zm_up, ↓reduceIte]; (repeat' split); all_goals first | rfl | assumption | (exfalso; omega))
  · obtain rfl : k = n := by omega
    refine ⟨?_, ?_, ?_⟩ <;> (simp only [upd, zm_up, ↓reduceIte]; (repeat' split); all_goals first | rfl | assumption | (exfalso; omega))
theorem zm_ec_up {n a b : Nat} {d : Int32} {eW eN : Nat → Nat} {cs : Nat → Int32} (h : zm_ec n eW eN cs) : zm_ec (n + 1) (zm_up eW n a) (zm_up eN n b) (upd (upd (upd (upd cs (n * 4) (nI a)) (n * 4 + 1) (nI (b / 10))) (n * 4 + 2) (nI (b % 10))) (n * 4 + 3) d) := fun k hk => by
  rcases Nat.lt_or_ge k n with q | q
  · obtain ⟨a1, a2, a3⟩ := h k q
    refine ⟨?_, ?_, ?_⟩ <;> (simp only [upd, zm_up, ↓reduceIte]; (repeat' split); all_goals first | rfl | assumption | (exfalso; omega))
  · obtain rfl : k = n := by omega
    refine ⟨?_, ?_, ?_⟩ <;> (simp only [upd, zm_up, ↓reduceIte]; (repeat' split); all_goals first | rfl | assumption | (exfalso; omega))
theorem zm_bc_up {n a b : Nat} {c d : Int32} {bT bN : Nat → Nat} {cs : Nat → Int32} (h : zm_bc n bT bN cs) : zm_bc (n + 1) (zm_up bT n a) (zm_up bN n b) (upd (upd (upd (upd cs (n * 4) (nI a)) (n * 4 + 1) (nI b)) (n * 4 + 2) c) (n * 4 + 3) d) := fun k hk => by
  rcases Nat.lt_or_ge k n with q | q
  · obtain ⟨a1, a2⟩ := h k q
    refine ⟨?_, ?_⟩ <;> (simp only [upd, zm_up, ↓reduceIte]; (repeat' split); all_goals first | rfl | assumption | (exfalso; omega))
  · obtain rfl : k = n := by omega
    refine ⟨?_, ?_⟩ <;> (simp only [upd, zm_up, ↓reduceIte]; (repeat' split); all_goals first | rfl | assumption | (exfalso; omega))
theorem zs_se_up {N n a b c : Nat} {sT sR sH : Nat → Nat} (h : zs_se N n sT sR sH) (hn : n < 6) (ha : a < N) (hb : b < 10) (hc : c < 2) : zs_se N (n + 1) (zm_up sT n a) (zm_up sR n b) (zm_up sH n c) := ⟨by omega, fun k hk => by
  rcases Nat.lt_or_ge k n with q | q
  · obtain ⟨a1, a2, a3⟩ := h.2 k q
    refine ⟨?_, ?_, ?_⟩ <;> (simp only [zm_up, ↓reduceIte]; (repeat' split); all_goals first | assumption | (exfalso; omega))
  · obtain rfl : k = n := by omega
    refine ⟨?_, ?_, ?_⟩ <;> (simp only [zm_up, ↓reduceIte]; (repeat' split); all_goals first | assumption | (exfalso; omega))⟩
theorem zs_ev_up {N n a b : Nat} {eW eN : Nat → Nat} (h : zs_ev N n eW eN) (hn : n < 8) (ha : zm_evok N a b) : zs_ev N (n + 1) (zm_up eW n a) (zm_up eN n b) := ⟨by omega, fun k hk => by
  rcases Nat.lt_or_ge k n with q | q
  · have a1 := h.2 k q
    simp only [zm_up]; rw [if_neg (by omega), if_neg (by omega)]; exact a1
  · obtain rfl : k = n := by omega
    simp only [zm_up, ↓reduceIte]; exact ha⟩
theorem zs_bo_up {N n a b : Nat} {bT bN : Nat → Nat} (h : zs_bo N n bT bN) (hn : n < 8) (ha : a < N) (hb : b ≤ 4) : zs_bo N (n + 1) (zm_up bT n a) (zm_up bN n b) := ⟨by omega, fun k hk => by
  rcases Nat.lt_or_ge k n with q | q
  · obtain ⟨a1, a2⟩ := h.2 k q
    refine ⟨?_, ?_⟩ <;> (simp only [zm_up, ↓reduceIte]; (repeat' split); all_goals first | assumption | (exfalso; omega))
  · obtain rfl : k = n := by omega
    refine ⟨?_, ?_⟩ <;> (simp only [zm_up, ↓reduceIte]; (repeat' split); all_goals first | assumption | (exfalso; omega))⟩
theorem zn_lk2 {a b d k : Int} (h : k < 0 ∨ 1 < k) : Op.lookupswitch.offset [(0, a), (1, b)] d k = d := by
  rw [Op.lookupswitch.offset_cons, if_neg (by omega), Op.lookupswitch.offset_cons, if_neg (by omega)]; rfl
theorem zi_p {n : Nat} {v w : Int32} (h : (∀ t : Nat, t < n → v ≠ nI t) ∨ (∀ t : Nat, t < n → w ≠ nI t) ∨ v = w) : (zi n v && zi n w && !decide (zq v = zq w)) = false := by
  rcases h with h | h | h
  · rw [zi_f h]; rfl
  · rw [zi_f h, Bool.and_false]; rfl
  · rw [h, decide_eq_true rfl, Bool.not_true, Bool.and_false]
theorem zi_2f {v : Int32} (h : v ≠ nI 0 ∧ v ≠ nI 1) : zi 2 v = false := zi_f (fun t ht => by
  have : t = 0 ∨ t = 1 := by omega
  rcases this with rfl | rfl
  · exact h.1
  · exact h.2)
theorem zf_lt31 {lo hi : Nat} {v : UInt32} (h : zf_F lo hi v) : v.toNat < 2 ^ 31 := by
  rcases h with h | ⟨E, ⟨T, h1, h2, h3, h4⟩, -, -⟩
  · rw [h]; decide
  · have ht : FP.Core.b32.tails = 8388608 := by decide +kernel
    have he : FP.Core.b32.exps = 256 := by decide +kernel
    rw [ht] at h1 h2; rw [he] at h4
    omega
