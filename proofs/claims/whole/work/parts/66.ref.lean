/-! methods that answer a reference or null; tapes -/
def zr_Qq (post : Option Nat → Prop) : Array Value → State → Outcome → State → Prop := va_Qq (fun (r : Option Nat) (_ : Unit) => post r) (fun _ _ => True) (fun _ => False)
section ZRQ
variable {p : Program} {l : Launch} {e : Env} {R : Room} {s : State} {m : MethodId} {args : Array Value} {below : List Frame} {meth : Method} {c : Code} {H : Heap} {locs : List Loc} {cells slots : Nat} {Q : State → Prop}
variable {pc : Nat} {ls : Array Slot} {rest st0 : List Value} {a : Array Value} {A0 : Nat → Prop} {H0 : Heap} {D : va_G} {cl : List vw_C} {ws : va_W}
theorem zr_cq {post : Option Nat → Prop} (hP : va_P D cl ws H) (hS : va_S A0 H0 H locs) (hr : va_Run p l e R s m args below meth c H locs cells slots 0 0 (F0 m pc ls st0) rest (zr_Qq post a) (fun _ => False))
    (kk : ∀ (r : Option Nat) (H1 : Heap) (locs1 : List Loc), post r → va_P D cl ws H1 → va_S A0 H0 H1 locs1 → W p l e R s m args below meth c H1 locs1 cells slots Q (F0 m (pc + 3) ls (va_rf r :: rest))) : W p l e R s m args below meth c H locs cells slots Q (F0 m pc ls st0) :=
  va_callq hr hS (fun q _ h => h.elim) (fun q h => h.elim) (fun r u t H1 locs1 ht hvm hw hB hz hk hS1 => kk r H1 locs1 hw (hP.kept (fun k q hq => hk q.1 (hP k q hq).lt id)) hS1)
end ZRQ
def zu_up {α : Type} (f : Nat → α) (k : Nat) (v : α) : Nat → α := fun j => if j = k then v else f j
theorem zu_e {α : Type} {f : Nat → α} {k : Nat} {v : α} : zu_up f k v k = v := if_pos rfl
theorem zu_n {α : Type} {f : Nat → α} {k j : Nat} {v : α} (h : j ≠ k) : zu_up f k v j = f j := if_neg h
/-- what a tape may be -/
def zt_ok (so : Nat → Int32) (tn : Nat → Nat) : Prop := ∀ k, k < 6 → tn k ≤ 60 ∧ ((so k = -1 ∧ tn k = 0) ∨ ∃ j : Nat, j < 5 ∧ so k = nI j)
def zt_c1 (v w : Int32) : Bool := zi 6 v && decide (w = -1)
def zt_c2 (v w y : Int32) : Bool := zi 6 v && (zi 5 w && zi 61 y)
def zo_tape (v w y : Int32) : Int32 := cond (zi 6 v) (cond (decide (w = -1)) (nI 1) (cond (zi 5 w && decide (y ≤ nI 60)) (cond (decide (y < 0)) (-14) (nI 1)) (-2))) (-1)
def zt_so (so : Nat → Int32) (v w y : Int32) : Nat → Int32 := cond (zt_c1 v w) (zu_up so (zq v) w) (cond (zt_c2 v w y) (zu_up so (zq v) (nI (zq w))) so)
def zt_tn (tn : Nat → Nat) (v w y : Int32) : Nat → Nat := cond (zt_c1 v w) (zu_up tn (zq v) 0) (cond (zt_c2 v w y) (zu_up tn (zq v) (zq y)) tn)
def zt_it (it : Nat → Nat → Int64) (v w y : Int32) : Nat → Nat → Int64 := cond (zt_c1 v w || zt_c2 v w y) (zu_up it (zq v) (fun _ => lN 0)) it
def zo_item (so : Nat → Int32) (tn : Nat → Nat) (v w : Int32) : Int32 := cond (zi 6 v) (cond (decide (so (zq v) = -1)) (-11) (cond (zi (tn (zq v)) w) (nI 1) (-13))) (-1)
def zt_put (so : Nat → Int32) (tn : Nat → Nat) (it : Nat → Nat → Int64) (v w : Int32) (x : Int64) : Nat → Nat → Int64 := cond (zi 6 v && (!decide (so (zq v) = -1) && zi (tn (zq v)) w)) (zu_up it (zq v) (zu_up (it (zq v)) (zq w) (zt_cut (zq (so (zq v))) x))) it
def zt_run (n : Nat) (a c : Int32) : Bool := zi (n + 1) a && zi (n + 1) c && decide (zq a + zq c ≤ n)
def zo_shift (so : Nat → Int32) (tn : Nat → Nat) (v a w b c : Int32) : Int32 := cond (zi 6 v && zi 6 w) (cond (decide (so (zq v) = -1) || decide (so (zq w) = -1)) (-11) (cond (decide (so (zq v) = so (zq w))) (cond (zt_run (tn (zq v)) a c && zt_run (tn (zq w)) b c) (nI (zq c)) (-13)) (-12))) (-1)
def zt_cs (so : Nat → Int32) (tn : Nat → Nat) (v a w b c : Int32) : Bool := zi 6 v && zi 6 w && !(decide (so (zq v) = -1) || decide (so (zq w) = -1)) && decide (so (zq v) = so (zq w)) && (zt_run (tn (zq v)) a c && zt_run (tn (zq w)) b c)
def zt_mv (f g : Nat → Int64) (a b n : Nat) : Nat → Int64 := fun j => if b ≤ j ∧ j < b + n then f (a + (j - b)) else g j
def zt_sh (so : Nat → Int32) (tn : Nat → Nat) (it : Nat → Nat → Int64) (v a w b c : Int32) : Nat → Nat → Int64 := cond (zt_cs so tn v a w b c) (zu_up it (zq w) (zt_mv (it (zq v)) (it (zq w)) (zq a) (zq b) (zq c))) it
/-- bits of wear judged -/
def zm_jd (f : Nat → Int64) (b : Nat → Int64) (len i : Nat) : Nat → Nat → Int32 | 0, _ => -5 | k + 1, r => if i + r < len then (if f (i + r) = b r then zm_jd f b len i k (r + 1) else nI r) else nI (100 + r)
def zo_judge (N : Nat) (G P : Nat → Nat → Nat) (X Y : Nat → Nat) (so : Nat → Int32) (tn : Nat → Nat) (it : Nat → Nat → Int64) (v w y : Int32) : Int32 :=
  cond (zi N v && zi 6 w) (cond (decide (so (zq w) = -1)) (nI 100) (cond (decide (so (zq w) = nI 2)) (cond (zi (tn (zq w)) y) (zm_jd (it (zq w)) (fun r => lN (zf_wear (zm_way G P X Y (zq v)) (r + 1)).toNat) (tn (zq w)) (zq y) (N - 1) 0) (nI 100)) (-12))) (-1)
theorem zt_run_t {n a c : Nat} {v w : Int32} (hv : v = nI a) (hw : w = nI c) (h : a + c ≤ n) (hn : n ≤ 60) : zt_run n v w = true := by
  subst hv; subst hw
  unfold zt_run
  rw [zi_t (by omega) (by omega), zi_t (by omega) (by omega), zq_t (by omega), zq_t (by omega), decide_eq_true h]; rfl
theorem zt_run_f {n : Nat} {v w : Int32} (h : ∀ a b : Nat, a + b ≤ n → v = nI a → w ≠ nI b) : zt_run n v w = false := by
  cases hz : zt_run n v w with
  | false => rfl
  | true =>
    unfold zt_run at hz
    rw [Bool.and_eq_true, Bool.and_eq_true] at hz
    exact absurd (zi_x hz.1.2).2 (h _ _ (of_decide_eq_true hz.2) (zi_x hz.1.1).2)
theorem zt_run_x {n : Nat} {v w : Int32} (h : zt_run n v w = true) : v = nI (zq v) ∧ w = nI (zq w) ∧ zq v + zq w ≤ n := by
  unfold zt_run at h
  rw [Bool.and_eq_true, Bool.and_eq_true] at h
  exact ⟨(zi_x h.1.1).2, (zi_x h.1.2).2, of_decide_eq_true h.2⟩
theorem zi_6 (v : Int32) : v = nI 0 ∨ v = nI 1 ∨ v = nI 2 ∨ v = nI 3 ∨ v = nI 4 ∨ v = nI 5 ∨ zi 6 v = false := by
  by_cases h : zi 6 v = true
  · obtain ⟨h1, h2⟩ := zi_x h
    have h3 : zq v = 0 ∨ zq v = 1 ∨ zq v = 2 ∨ zq v = 3 ∨ zq v = 4 ∨ zq v = 5 := by omega
    rcases h3 with h3 | h3 | h3 | h3 | h3 | h3 <;> rw [h3] at h2 <;> simp [h2]
  · have := Bool.eq_false_iff.mpr h; simp [this]
theorem zm_jd_s {f b : Nat → Int64} {len i n r : Nat} (h : r < n) : zm_jd f b len i (n - r) r = if i + r < len then (if f (i + r) = b r then zm_jd f b len i (n - (r + 1)) (r + 1) else nI r) else nI (100 + r) := by
  rw [show n - r = (n - (r + 1)) + 1 from by omega, zm_jd]
theorem zm_jd_c {f g b : Nat → Int64} {len i : Nat} (h : ∀ j, j < len → f j = g j) : ∀ k r, zm_jd f b len i k r = zm_jd g b len i k r
  | 0, _ => rfl
  | k + 1, r => by
    rw [zm_jd, zm_jd, zm_jd_c h k (r + 1)]
    by_cases hl : i + r < len
    · rw [if_pos hl, if_pos hl, h _ hl]
    · rw [if_neg hl, if_neg hl]
theorem zt_put_e {ic it : Nat → Nat → Int64} {k t : Nat} {x : Int64} (h : ∀ k j, k < 6 → j < 60 → ic k j = it k j) : ∀ a j, a < 6 → j < 60 → zu_up ic k (vp_updL (ic k) t x) a j = zu_up it k (zu_up (it k) t x) a j := fun a j ha hj => by
  unfold zu_up vp_updL
  by_cases e : a = k
  · subst e
    rw [if_pos rfl, if_pos rfl]
    by_cases e2 : j = t
    · rw [if_pos e2, if_pos e2]
    · rw [if_neg e2, if_neg e2]; exact h a j ha hj
  · rw [if_neg e, if_neg e]; exact h a j ha hj
theorem zt_it_e {ic it : Nat → Nat → Int64} {k : Nat} {g : Nat → Int64} (h : ∀ k j, k < 6 → j < 60 → ic k j = it k j) (hg : ∀ j, j < 60 → g j = lN 0) : ∀ a j, a < 6 → j < 60 → zu_up ic k g a j = zu_up it k (fun _ => lN 0) a j := fun a j ha hj => by
  unfold zu_up
  by_cases e : a = k
  · rw [if_pos e, if_pos e]; exact hg j hj
  · rw [if_neg e, if_neg e]; exact h a j ha hj
theorem zi_no {n : Nat} {v : Int32} (h : zi n v = false) (h1 : ¬ v < 0) (h2 : ¬ nI n ≤ v) (hn : n < 2 ^ 31) : False := by
  obtain ⟨t, ht, e⟩ := zn_in h1 h2 hn
  rw [e, zi_t ht (by omega)] at h; cases h
theorem zt_cpy_e {ic it : Nat → Nat → Int64} {k1 k2 a b n : Nat} (h1 : k1 < 6) (h2 : k2 < 6) (ha : a + n ≤ 60) (hb : b + n ≤ 60) (h : ∀ k j, k < 6 → j < 60 → ic k j = it k j) : ∀ k j, k < 6 → j < 60 → zu_up ic k2 (va_cpy (ic k1) (ic k2) (nI a).toNatClampNeg (nI b).toNatClampNeg (nI n).toNatClampNeg) k j = zu_up it k2 (zt_mv (it k1) (it k2) a b n) k j := fun k j hk hj => by
  unfold zu_up
  by_cases e : k = k2
  · rw [if_pos e, if_pos e, nI_clamp (n := a) (by omega), nI_clamp (n := b) (by omega), nI_clamp (n := n) (by omega)]
    unfold va_cpy zt_mv
    by_cases e2 : b ≤ j ∧ j < b + n
    · rw [if_pos e2, if_pos e2]; exact h _ _ h1 (by omega)
    · rw [if_neg e2, if_neg e2]; exact h _ _ h2 hj
  · rw [if_neg e, if_neg e]; exact h k j hk hj
theorem zk_ltc {a n b : Nat} (h : a + n ≤ b) (hb : b < 2 ^ 31) : (nI a).toNatClampNeg + (nI n).toNatClampNeg ≤ b := by
  rw [nI_clamp (n := a) (by omega), nI_clamp (n := n) (by omega)]; exact h
theorem zi_5m (w : Int32) : w = -1 ∨ (∃ u : Nat, u < 5 ∧ w = nI u) ∨ (zi 5 w = false ∧ ¬ w = -1) := by
  by_cases h : w = -1
  · exact Or.inl h
  · by_cases h2 : zi 5 w = true
    · exact Or.inr (Or.inl ⟨_, zi_x h2⟩)
    · exact Or.inr (Or.inr ⟨Bool.eq_false_iff.mpr h2, h⟩)
theorem zi_nn {n : Nat} {v : Int32} (h1 : ¬ v < 0) (h2 : v < nI n) (hn : n < 2 ^ 31) : zi n v = true := by
  obtain ⟨t, ht, e⟩ := zn_in h1 (Int32.not_le.mpr h2) hn
  rw [e]; exact zi_t ht (by omega)
theorem isn_B {u : Nat} (h : u < 5) : ¬ (nI u < -1 ∨ nI 4 < nI u) := fun q => by
  rcases q with q | q
  · rw [Int32.lt_iff_toInt_lt, nI_toInt (by omega), show (-1 : Int32).toInt = -1 from by decide] at q; omega
  · have := (nI_ltI (by omega) (by omega)).mp q; omega
theorem isn_C {w : Int32} (h : zi 5 w = false) (h1 : ¬ w = -1) (q : ¬ w < -1 ∧ ¬ nI 4 < w) : False := by
  obtain ⟨q1, q2⟩ := q
  by_cases h0 : w < 0
  · rw [Int32.lt_iff_toInt_lt, show (-1 : Int32).toInt = -1 from by decide] at q1
    rw [Int32.lt_iff_toInt_lt, Int32.toInt_zero] at h0
    exact h1 (Int32.toInt_inj.mp (by rw [show (-1 : Int32).toInt = -1 from by decide]; omega))
  · exact zi_no h h0 (fun q3 => q2 (zn_lt_of (n := 4) (by omega) q3)) (by omega)
theorem isn_0 {n : Nat} {w : Int32} (h : n < 1) (q : ¬ w < nI 0 ∧ ¬ nI n - nI 1 < w) : False := by
  obtain rfl : n = 0 := by omega
  obtain ⟨q1, q2⟩ := q
  rw [Int32.lt_iff_toInt_lt, nI_toInt (by omega)] at q1
  rw [Int32.lt_iff_toInt_lt, show (nI 0 - nI 1).toInt = -1 from by decide +kernel] at q2
  omega
/-- size - n without overflow -/
theorem zn_run2 {i c : Int32} {n : Nat} (hn : n ≤ 60) (h1 : ¬ c < 0) (h2 : ¬ i < 0) (h3 : ¬ nI n - c < i) : zt_run n i c = true := by
  obtain ⟨a, ha, rfl⟩ := nI_of h2
  obtain ⟨b, hb, rfl⟩ := nI_of h1
  rw [Int32.lt_iff_toInt_lt, nI_toInt ha] at h3
  have h4 : (nI n - nI b).toInt = (n : Int) - b := by
    rw [Int32.toInt_sub, nI_toInt (by omega), nI_toInt hb]
    apply Int.bmod_eq_of_le <;> omega
  rw [h4] at h3
  exact zt_run_t rfl rfl (by omega) hn
theorem zn_jno {y : Int32} {n : Nat} (hn : n ≤ 60) (h : zi n y = false) (h1 : ¬ y < 0) (h2 : nI 0 < nI n - y) : False := by
  obtain ⟨a, ha, rfl⟩ := nI_of h1
  rw [Int32.lt_iff_toInt_lt, nI_toInt (by omega)] at h2
  have h4 : (nI n - nI a).toInt = (n : Int) - a := by
    rw [Int32.toInt_sub, nI_toInt (by omega), nI_toInt ha]
    apply Int.bmod_eq_of_le <;> omega
  rw [h4] at h2
  rw [zi_t (by omega) (by omega)] at h; cases h
theorem zt_st_u {sv zs so : Nat → Int32} {tn : Nat → Nat} {t Z : Nat} {x : Int32} (h : ∀ k, k < 6 → sv k = so k ∧ zs k = nI (tn k)) (ht : t < 6) : ∀ k, k < 6 → upd sv t x k = zu_up so t x k ∧ upd zs t (nI Z) k = nI (zu_up tn t Z k) := fun k hk => by
  unfold upd zu_up
  by_cases e : k = t
  · rw [if_pos e, if_pos e, if_pos e, if_pos e]; exact ⟨rfl, rfl⟩
  · rw [if_neg e, if_neg e, if_neg e, if_neg e]; exact h k hk
theorem zt_it_u {iv ivk : Nat → Int64} {it : Nat → Nat → Int64} {t : Nat} (h : ∀ k j, k < 6 → j < 60 → iv (60 * k + j) = it k j) (ht : t < 6) (hI : ∀ j, j < 60 → ivk (60 * t + j) = lN 0) (hO : ∀ x, (x < 60 * t ∨ 60 * t + 60 ≤ x) → ivk x = iv x) : ∀ k j, k < 6 → j < 60 → ivk (60 * k + j) = zu_up it t (fun _ => lN 0) k j := fun k j hk hj => by
  unfold zu_up
  by_cases e : k = t
  · rw [if_pos e, e]; exact hI j hj
  · rw [if_neg e, hO _ (by omega)]; exact h k j hk hj
theorem zt_put_u {iv : Nat → Int64} {it : Nat → Nat → Int64} {t a : Nat} {x : Int64} (h : ∀ k j, k < 6 → j < 60 → iv (60 * k + j) = it k j) (ht : t < 6) (ha : a < 60) : ∀ k j, k < 6 → j < 60 → vp_updL iv (60 * t + a) x (60 * k + j) = zu_up it t (zu_up (it t) a x) k j := fun k j hk hj => by
  unfold vp_updL zu_up
  by_cases e : k = t
  · rw [if_pos e, e]
    by_cases e2 : j = a
    · rw [if_pos e2, if_pos (by omega)]
    · rw [if_neg e2, if_neg (by omega)]; exact h t j ht hj
  · rw [if_neg e, if_neg (by omega)]; exact h k j hk hj
theorem zt_sh_u {iv ivk mvk : Nat → Int64} {A k2 : Nat} (h : ∀ x, ivk x = if A ≤ x ∧ x < A + k2 then mvk (x - A) else iv x) : ∀ x, vp_updL ivk (A + k2) (mvk k2) x = if A ≤ x ∧ x < A + (k2 + 1) then mvk (x - A) else iv x := fun x => by
  unfold vp_updL
  by_cases e : x = A + k2
  · rw [if_pos e, if_pos (by omega), e, Nat.add_sub_cancel_left]
  · rw [if_neg e, h x]
    by_cases e2 : A ≤ x ∧ x < A + k2
    · rw [if_pos e2, if_pos (by omega)]
    · rw [if_neg e2, if_neg (by omega)]
theorem zt_sh_e {iv ivk mvk : Nat → Int64} {it : Nat → Nat → Int64} {t u a b n T U : Nat} (h : ∀ k j, k < 6 → j < 60 → iv (60 * k + j) = it k j) (ht : t < 6) (hu : u < 6) (h1 : a + n ≤ T) (h2 : b + n ≤ U) (hT : T ≤ 60) (hU : U ≤ 60) (hI : ∀ j, j < n → mvk j = iv (60 * t + a + j)) (hI2 : ∀ x, ivk x = if 60 * u + b ≤ x ∧ x < 60 * u + b + n then mvk (x - (60 * u + b)) else iv x) : ∀ k j, k < 6 → j < 60 → ivk (60 * k + j) = zu_up it u (zt_mv (it t) (it u) a b n) k j := fun k j hk hj => by
  unfold zu_up zt_mv
  rw [hI2]
  by_cases e : k = u
  · rw [if_pos e, e]
    by_cases e2 : b ≤ j ∧ j < b + n
    · rw [if_pos e2, if_pos (by omega), hI _ (by omega), ← h t _ ht (by omega)]; congr 1; omega
    · rw [if_neg e2, if_neg (by omega)]; exact h u j hu hj
  · rw [if_neg e, if_neg (by omega)]; exact h k j hk hj
