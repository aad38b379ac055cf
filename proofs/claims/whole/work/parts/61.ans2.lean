/-! rows told by hand, what happens behind events, the image: answers of the face -/
theorem zi_m1 {n : Nat} {v : Int32} (hn : n < 2 ^ 31) (h : v = -1) : zi n v = false := zi_f (fun t ht e => by
  have := nI_toInt (n := t) (by omega)
  rw [← e, h] at this
  have h1 : (-1 : Int32).toInt = -1 := by decide
  omega)
theorem zi_ng {n : Nat} {v : Int32} (hn : n < 2 ^ 31) (h : v < 0) : zi n v = false := zi_f (zn_lo h hn)
theorem zm_rg_i {n a : Nat} (ha : a < 2 ^ 31) (hn : n < 2 ^ 31) (h : zm_rg n (nI a)) : a < n := by
  obtain ⟨t, h1, h2⟩ := h
  have := (nI_eq ha (by omega)).mp h2
  omega
theorem zm_rg_o {n a : Nat} (h : a < n) : zm_rg n (nI a) := ⟨a, h, rfl⟩
def zc_see (N sn : Nat) (v w : Int32) : Bool := zi N v && zi 10 w && decide (sn < 6)
def zo_see (N sn : Nat) (v w : Int32) : Int32 := cond (decide (v = -1)) (nI 0) (cond (zi N v) (cond (zi 10 w) (cond (decide (sn < 6)) (nI (sn + 1)) (-4)) (-2)) (-1))
def zc_k (N : Nat) : Nat → Nat → Bool | 0, x => decide (x / 10 < N - 1) && decide (x % 10 < N - 1) | 1, x => decide (x / 10 < N - 1) && decide (x % 10 < N / 2) | 2, x => decide (x / 10 < N) && decide (x % 10 < N) | _, x => decide (x / 10 < 4)
def zc_ev (N : Nat) (v w : Int32) : Bool := zi 4 v && (zi 100 w && zc_k N (zq v) (zq w))
def zo_event (N en : Nat) (v w : Int32) : Int32 := cond (decide (v = -1)) (nI 0) (cond (zc_ev N v w) (cond (decide (en < 8)) (nI (en + 1)) (-4)) (-1))
theorem zc_k_ok {N a x : Nat} (ha : a < 4) (hx : x < 100) (h : zc_k N a x = true) : zm_evok N a x := by
  refine ⟨hx, ?_⟩
  have : a = 0 ∨ a = 1 ∨ a = 2 ∨ a = 3 := by omega
  rcases this with rfl | rfl | rfl | rfl
  · have h := (Bool.and_eq_true _ _).mp h; exact Or.inl ⟨rfl, of_decide_eq_true h.1, of_decide_eq_true h.2⟩
  · have h := (Bool.and_eq_true _ _).mp h; exact Or.inr (Or.inl ⟨rfl, of_decide_eq_true h.1, of_decide_eq_true h.2⟩)
  · have h := (Bool.and_eq_true _ _).mp h; exact Or.inr (Or.inr (Or.inl ⟨rfl, of_decide_eq_true h.1, of_decide_eq_true h.2⟩))
  · exact Or.inr (Or.inr (Or.inr ⟨rfl, of_decide_eq_true h⟩))
theorem zc_ev_f {N x : Nat} {v w : Int32} (hx : x < 2 ^ 31) (hw : w = nI x) {a : Nat} (ha : a < 4) (hv : v = nI a) (h : zc_k N a x = false) : zc_ev N v w = false := by
  subst hw; subst hv
  unfold zc_ev
  rw [zq_t hx, zq_t (by omega), h, Bool.and_false, Bool.and_false]
theorem zc_ev_t {N x : Nat} {v w : Int32} (hx : x < 100) (hw : w = nI x) {a : Nat} (ha : a < 4) (hv : v = nI a) (h : zc_k N a x = true) : zc_ev N v w = true := by
  subst hw; subst hv
  unfold zc_ev
  rw [zq_t (by omega), zq_t (by omega), h, zi_t ha (by omega), zi_t hx (by omega)]; rfl
theorem zc_ev_v {N : Nat} {v w : Int32} (h : zi 4 v = false) : zc_ev N v w = false := by unfold zc_ev; rw [h]; rfl
theorem zc_ev_w {N : Nat} {v w : Int32} (h : zi 100 w = false) : zc_ev N v w = false := by unfold zc_ev; rw [h, Bool.false_and, Bool.and_false]
theorem zc_k2_t {m n a b : Nat} (h1 : a < m) (h2 : b < n) : (decide (a < m) && decide (b < n)) = true := by rw [decide_eq_true h1, decide_eq_true h2]; rfl
theorem zc_k2_f {m n a b : Nat} (h : ¬ (a < m ∧ b < n)) : (decide (a < m) && decide (b < n)) = false := by
  by_cases h1 : a < m
  · rw [decide_eq_false (p := b < n) (fun q => h ⟨h1, q⟩), Bool.and_false]
  · rw [decide_eq_false h1]; rfl
def zc_book (N bn : Nat) (v w : Int32) : Bool := zi N v && zi 5 w && decide (bn < 8)
def zo_book (N bn : Nat) (v w : Int32) : Int32 := cond (decide (v = -1)) (nI 0) (cond (zi N v) (cond (zi 5 w) (cond (decide (bn < 8)) (nI (bn + 1)) (-4)) (-2)) (-1))
/-- what happens by an event -/
def zm_hG (w x : Nat) (G : Nat → Nat → Nat) : Nat → Nat → Nat := if w = 3 then G else zm_opG w G (x / 10) (x % 10)
def zm_hP (w x : Nat) (P : Nat → Nat → Nat) : Nat → Nat → Nat := if w = 3 then P else zm_opP w P (x / 10) (x % 10)
def zm_hR (w x : Nat) (R : Nat → Nat) : Nat → Nat := if w = 3 then zm_up R (x / 10) (x % 10) else R
def zm_aG (eW eN : Nat → Nat) (G : Nat → Nat → Nat) : Nat → Nat → Nat → Nat | 0 => G | k + 1 => zm_hG (eW k) (eN k) (zm_aG eW eN G k)
def zm_aP (eW eN : Nat → Nat) (P : Nat → Nat → Nat) : Nat → Nat → Nat → Nat | 0 => P | k + 1 => zm_hP (eW k) (eN k) (zm_aP eW eN P k)
def zm_aR (eW eN : Nat → Nat) (R : Nat → Nat) : Nat → Nat → Nat | 0 => R | k + 1 => zm_hR (eW k) (eN k) (zm_aR eW eN R k)
def zo_after (R : Nat → Nat) (B : Nat → Nat → Nat) (X Y : Nat → Nat) (N : Nat) (G P : Nat → Nat → Nat) : Nat → Int64 | 0 => lN (zm_brs N P) | 1 => lN (zm_vio N G B) | _ => lN (zm_cost R B X Y N G P).toNat
theorem zm_look_s {N : Nat} {P : Nat → Nat → Nat} {bT bN : Nat → Nat} {n i : Nat} (hi : i < n) : zm_look N P bT bN (n - i) i = if zm_br N P (bT i) = bN i then zm_look N P bT bN (n - (i + 1)) (i + 1) else nI i := by
  rw [show n - i = (n - (i + 1)) + 1 from by omega, zm_look]
theorem zm_sc_cp {n : Nat} {sT sR sH : Nat → Nat} {c c' : Nat → Int32} (h : zm_sc n sT sR sH c) (hn : n ≤ 6) (e : ∀ j, j < 48 → c' j = c j) : zm_sc n sT sR sH c' := fun k hk => by
  obtain ⟨a1, a2, a3⟩ := h k hk
  exact ⟨(e _ (by omega)).trans a1, (e _ (by omega)).trans a2, (e _ (by omega)).trans a3⟩
theorem zm_ec_cp {n : Nat} {eW eN : Nat → Nat} {c c' : Nat → Int32} (h : zm_ec n eW eN c) (hn : n ≤ 8) (e : ∀ j, j < 48 → c' j = c j) : zm_ec n eW eN c' := fun k hk => by
  obtain ⟨a1, a2, a3⟩ := h k hk
  exact ⟨(e _ (by omega)).trans a1, (e _ (by omega)).trans a2, (e _ (by omega)).trans a3⟩
theorem zm_bc_cp {n : Nat} {bT bN : Nat → Nat} {c c' : Nat → Int32} (h : zm_bc n bT bN c) (hn : n ≤ 8) (e : ∀ j, j < 48 → c' j = c j) : zm_bc n bT bN c' := fun k hk => by
  obtain ⟨a1, a2⟩ := h k hk
  exact ⟨(e _ (by omega)).trans a1, (e _ (by omega)).trans a2⟩
theorem zm_gr_cp {X Y : Nat → Nat} {xs ys xs' ys' : Nat → Int32} (h : zm_gr X Y xs ys) (e1 : ∀ j, j < 6 → xs' j = xs j) (e2 : ∀ j, j < 6 → ys' j = ys j) : zm_gr X Y xs' ys' := fun t ht => by
  obtain ⟨a1, a2, a3, a4⟩ := h t ht
  exact ⟨a1, a2, (e1 t ht).trans a3, (e2 t ht).trans a4⟩
theorem zm_bz_cp {B : Nat → Nat → Nat} {bz bz' : Nat → Int32} (h : zm_bz B bz) (e : ∀ j, j < 30 → bz' j = bz j) : zm_bz B bz' := fun r t hr ht => ⟨(h r t hr ht).1, (e _ (by omega)).trans (h r t hr ht).2⟩
theorem zm_rt_cp {R : Nat → Nat} {rt rt' : Nat → Int32} (h : zm_rt R rt) (e : ∀ j, j < 4 → rt' j = rt j) : zm_rt R rt' := fun k hk => ⟨(h k hk).1, (e k hk).trans (h k hk).2⟩
theorem zm_bz_fit {B : Nat → Nat → Nat} {bz : Nat → Int32} (h : zm_bz B bz) : ∀ j, j < 30 → fits .boolean (.int (bz j)) = true := fun j hj => by
  obtain ⟨h1, h2⟩ := h (j / 6) (j % 6) (by omega) (by omega)
  rw [show j / 6 * 6 + j % 6 = j from by omega] at h2
  rw [h2]
  have : B (j % 6) (j / 6) = 0 ∨ B (j % 6) (j / 6) = 1 := by omega
  rcases this with e | e <;> rw [e] <;> decide +kernel
theorem zm_hok {N w x : Nat} {G P : Nat → Nat → Nat} (h : zm_ok N G P) (e : zm_evok N w x) : zm_ok N (zm_hG w x G) (zm_hP w x P) := by
  obtain ⟨hx, e | e | e | e⟩ := e <;> obtain ⟨rfl, e⟩ := e
  · exact zm_sw_ok h e.1 e.2
  · exact zm_tu_ok h e.1 e.2
  · exact zm_ex_ok h e.1 e.2
  · exact h
theorem zk_st {α : Type} (a : Nat) (b : α) (i : Nat) : (a + 1 + i, b) = (a + (i + 1), b) := by rw [Nat.add_assoc, Nat.add_comm 1 i]
theorem zk_s0 {d : Nat} {R : Nat → Nat} {B : Nat → Nat → Nat} {X Y : Nat → Nat} {N k i : Nat} {G P : Nat → Nat → Nat} (h : k = 0) : ((zm_steps d R B X Y N k G P).1 + i, (zm_steps d R B X Y N k G P).2) = (i, G, P) := by
  subst h
  exact Prod.ext (Nat.zero_add _) rfl
theorem zk_s1 {d : Nat} {R : Nat → Nat} {B : Nat → Nat → Nat} {X Y : Nat → Nat} {N k i : Nat} {G P : Nat → Nat → Nat} (h : zm_step d R B X Y N G P = none) : ((zm_steps d R B X Y N k G P).1 + i, (zm_steps d R B X Y N k G P).2) = (i, G, P) := by
  rw [zm_steps_n h]
  exact Prod.ext (Nat.zero_add _) rfl
def zn_cnt (sn en bn : Nat) : Nat → Nat | 0 => sn | 1 => en | _ => bn
def zo_count (sn en bn tx : Nat) : Nat → Int32 | 0 => nI sn | 1 => nI en | 2 => nI bn | 3 => nI tx | _ => -2
theorem zi_34 {v : Int32} (h : zi 3 v = false) (h3 : ¬ v = nI 3) : zw 4 v = 4 := zw_f (zi_f (fun t ht e => by
  rcases Nat.lt_or_ge t 3 with q | q
  · rw [e, zi_t q (by omega)] at h; cases h
  · obtain rfl : t = 3 := by omega
    exact h3 e))
