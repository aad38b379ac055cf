/-! carried over: the tally of a class, the counts of the reference -/
def zm_cf (G P : Nat → Nat → Nat) (i j r : Nat) : Nat := if zm_rv G P (zm_rv G P i r) (r + 1) = j then 1 else 0
def zm_kb (N : Nat) (G P : Nat → Nat → Nat) (i j : Nat) : Nat := zm_sum (zm_cf G P i j) (N - 2)
def zm_c2 (N : Nat) (G P : Nat → Nat → Nat) (i j : Nat) : Nat := if i = j then 0 else zm_kb N G P i j * zm_kb N G P i j
def zm_cr (N : Nat) (G P : Nat → Nat → Nat) (i : Nat) : Nat := zm_sum (zm_c2 N G P i) N
def zm_car (N : Nat) (G P : Nat → Nat → Nat) : Nat := zm_sum (zm_cr N G P) N
theorem zm_kb_le {N : Nat} {G P : Nat → Nat → Nat} {i j : Nat} (h : N = 4 ∨ N = 6) : zm_kb N G P i j ≤ 4 := by
  have h1 := zm_sum_le (f := zm_cf G P i j) (b := 1) (fun r => by unfold zm_cf; split <;> omega) (N - 2)
  unfold zm_kb; omega
theorem zm_c2_le {N : Nat} {G P : Nat → Nat → Nat} {i j : Nat} (h : N = 4 ∨ N = 6) : zm_c2 N G P i j ≤ 16 := by
  unfold zm_c2; split
  · omega
  · have h1 := zm_kb_le (G := G) (P := P) (i := i) (j := j) h
    exact Nat.mul_le_mul h1 h1
theorem zm_car_le {N : Nat} {G P : Nat → Nat → Nat} (h : N = 4 ∨ N = 6) : zm_car N G P ≤ 576 := by
  have h1 := zm_sum_le (f := zm_cr N G P) (b := 96) (fun i => by
    have h2 := zm_sum_le (f := zm_c2 N G P i) (b := 16) (fun j => zm_c2_le h) N
    unfold zm_cr; omega) N
  unfold zm_car; omega
def zm_tal (N : Nat) (G P : Nat → Nat → Nat) (r i : Nat) (c : Nat → Int32) : Prop := ∀ x y, x < N → y < N → c (x * 6 + y) = nI (zm_sum (zm_cf G P x y) r + if x < i then zm_cf G P x y r else 0)
theorem zm_tal_0 {N : Nat} {G P : Nat → Nat → Nat} {c : Nat → Int32} (hN : N ≤ 6) (h : ∀ j, j < 36 → c j = nI 0) : zm_tal N G P 0 0 c := fun x y hx hy => by
  rw [h _ (by omega), if_neg (by omega)]; rfl
theorem zm_tal_r {N : Nat} {G P : Nat → Nat → Nat} {r i : Nat} {c : Nat → Int32} (hi : N ≤ i) (h : zm_tal N G P r i c) : zm_tal N G P (r + 1) 0 c := fun x y hx hy => by
  rw [h x y hx hy, if_pos (by omega), if_neg (by omega)]; rfl
theorem zm_tal_g {N : Nat} {G P : Nat → Nat → Nat} {r i j : Nat} {c : Nat → Int32} (h : zm_tal N G P r i c) (hi : i < N) (hj : j < N) : c (i * 6 + j) = nI (zm_sum (zm_cf G P i j) r) := by
  rw [h i j hi hj, if_neg (by omega)]; rfl
theorem zm_tal_s {N : Nat} {G P : Nat → Nat → Nat} {r i : Nat} {c : Nat → Int32} (hN : N ≤ 6) (h : zm_tal N G P r i c) (hi : i < N) (hj : zm_rv G P (zm_rv G P i r) (r + 1) < N) :
    zm_tal N G P r (i + 1) (upd c (i * 6 + zm_rv G P (zm_rv G P i r) (r + 1)) (nI (zm_sum (zm_cf G P i (zm_rv G P (zm_rv G P i r) (r + 1))) r + 1))) := by
  intro x y hx hy
  unfold upd
  by_cases hxy : x = i ∧ y = zm_rv G P (zm_rv G P i r) (r + 1)
  · obtain ⟨rfl, rfl⟩ := hxy
    rw [if_pos rfl, if_pos (by omega)]
    congr 1; unfold zm_cf; rw [if_pos rfl]
  · rw [if_neg (by omega), h x y hx hy]
    by_cases hxi : x = i
    · subst hxi
      rw [if_neg (by omega), if_pos (by omega)]
      congr 2
      unfold zm_cf; rw [if_neg (fun e => hxy ⟨rfl, e.symm⟩)]
    · by_cases hlt : x < i
      · rw [if_pos hlt, if_pos (by omega)]
      · rw [if_neg hlt, if_neg (by omega)]
/-- from one team by games of two rounds in turn -/
def zm_it (G P : Nat → Nat → Nat) (r s t : Nat) : Nat → Nat | 0 => t | m + 1 => zm_rv G P (zm_rv G P (zm_it G P r s t m) r) s
theorem zm_it_lt {N : Nat} {G P : Nat → Nat → Nat} (h : zm_ok N G P) {r s t : Nat} (hr : r < N - 1) (hs : s < N - 1) (ht : t < N) (m : Nat) : zm_it G P r s t m < N := by
  induction m with
  | zero => exact ht
  | succ m ih => exact zm_rv_lt (r := s) h hs (zm_rv_lt (r := r) h hr ih)
def zm_lpk (f : Nat → Nat) (t : Nat) : Nat → Nat → Nat | 0, m => 2 * m | k + 1, m => if f m = t then 2 * m else zm_lpk f t k (m + 1)
def zm_loop (N : Nat) (G P : Nat → Nat → Nat) (r s t : Nat) : Nat := zm_lpk (zm_it G P r s t) t (N / 2 - 1) 1
theorem zm_lpk_hit {f : Nat → Nat} {t k m : Nat} (h : f m = t) : zm_lpk f t k m = 2 * m := by
  cases k with
  | zero => rfl
  | succ k => rw [zm_lpk, if_pos h]
theorem zm_pl_copy {N : Nat} {G P : Nat → Nat → Nat} {hm aw rv sd gm hm' aw' rv' sd' gm' : Nat → Int32} (h : zm_pl N G P hm aw rv sd gm) (h1 : ∀ j, j < 15 → hm' j = hm j) (h2 : ∀ j, j < 15 → aw' j = aw j) (h3 : ∀ j, j < 30 → rv' j = rv j) (h4 : ∀ j, j < 30 → sd' j = sd j) (h5 : ∀ j, j < 30 → gm' j = gm j) : zm_pl N G P hm' aw' rv' sd' gm' := by
  obtain ⟨hok, q1, q2, q3, q4, q5⟩ := h
  have hN := hok.1
  exact ⟨hok, fun r k hr hk => by rw [h1 _ (by omega)]; exact q1 r k hr hk, fun r k hr hk => by rw [h2 _ (by omega)]; exact q2 r k hr hk, fun r t hr ht => by rw [h3 _ (by omega)]; exact q3 r t hr ht, fun r t hr ht => by rw [h4 _ (by omega)]; exact q4 r t hr ht, fun r t hr ht => by rw [h5 _ (by omega)]; exact q5 r t hr ht⟩
theorem zn_sw (x : Int32) (n : Nat) (hn : n < 2 ^ 31 := by decide) : (∃ k : Nat, k < n ∧ x = nI k) ∨ (x.toInt < 0 ∨ (n : Int) - 1 < x.toInt) := by
  by_cases h0 : x.toInt < 0
  · exact Or.inr (Or.inl h0)
  · by_cases h1 : (n : Int) - 1 < x.toInt
    · exact Or.inr (Or.inr h1)
    · left
      obtain ⟨j, hj, rfl⟩ := nI_of (x := x) (fun h => h0 (by simpa using Int32.lt_iff_toInt_lt.mp h))
      rw [nI_toInt hj] at h1
      exact ⟨j, by omega, rfl⟩
theorem zn_run_t {v w : Int32} {n : Nat} (hn : n < 2 ^ 30) (h1 : ¬ w < 0) (h2 : ¬ v < 0) (h3 : ¬ nI n < v) (h4 : ¬ nI n - v < w) : ∃ a b : Nat, a + b ≤ n ∧ v = nI a ∧ w = nI b := by
  obtain ⟨a, ha, rfl⟩ := nI_of h2
  obtain ⟨b, hb, rfl⟩ := nI_of h1
  rw [nI_ltI (by omega) ha] at h3
  rw [pk_sub (by omega), nI_ltI (by omega) hb] at h4
  exact ⟨a, b, by omega, rfl, rfl⟩
theorem zn_run_f {v w : Int32} {n : Nat} (hn : n < 2 ^ 30) (h : w < 0 ∨ v < 0 ∨ nI n < v ∨ nI n - v < w) : ∀ a b : Nat, a + b ≤ n → v = nI a → w ≠ nI b := by
  intro a b hab hv hw
  subst hv; subst hw
  rcases h with h | h | h | h
  · exact nI_pos (by omega) h
  · exact nI_pos (by omega) h
  · rw [nI_ltI (by omega) (by omega)] at h; omega
  · rw [pk_sub (by omega), nI_ltI (by omega) (by omega)] at h; omega
def zt_cut (k : Nat) (v : Int64) : Int64 := if k = 0 then ((v.toInt32).toInt8.toInt32).toInt64 else if k = 1 then ((v.toInt32).toInt16.toInt32).toInt64 else if k = 2 then (v.toInt32).toInt64 else if k = 3 then v else if v = lN 0 then lN 0 else lN 1
def zm_rg (n : Nat) (v : Int32) : Prop := ∃ t : Nat, t < n ∧ v = nI t
def zm_rt (R : Nat → Nat) (rt : Nat → Int32) : Prop := ∀ k, k < 4 → R k ≤ 99 ∧ rt k = nI (R k)
def zm_up (f : Nat → Nat) (k v : Nat) : Nat → Nat := fun j => if j = k then v else f j
theorem zm_rt_up {R : Nat → Nat} {rt : Nat → Int32} {k v : Nat} (h : zm_rt R rt) (hv : v ≤ 99) : zm_rt (zm_up R k v) (upd rt k (nI v)) := fun j hj => by
  unfold zm_up upd; split
  · exact ⟨hv, rfl⟩
  · exact h j hj
theorem zm_sw_sw (G : Nat → Nat → Nat) (r s : Nat) : zm_sw (zm_sw G r s) r s = G := by
  funext q; unfold zm_sw
  by_cases h1 : q = r
  · rw [if_pos h1]
    by_cases h2 : s = r
    · rw [if_pos h2, h1, h2]
    · rw [if_neg h2, if_pos rfl, h1]
  · rw [if_neg h1]
    by_cases h2 : q = s
    · rw [if_pos h2, if_pos rfl, h2]
    · rw [if_neg h2, if_neg h1, if_neg h2]
theorem zm_tu_tuG (G : Nat → Nat → Nat) (r k : Nat) : zm_tuG (zm_tuG G r k) r k = G := by
  funext q x; unfold zm_tuG
  by_cases h1 : q = r
  · subst h1
    simp only [if_pos]
    by_cases e1 : x = 2 * k
    · rw [if_pos e1, if_neg (by omega), e1]
    · rw [if_neg e1]
      by_cases e2 : x = 2 * k + 1
      · rw [if_pos e2, e2]
      · rw [if_neg e2, if_neg e1, if_neg e2]
  · simp only [if_neg h1]
theorem zm_tu_tuP (P : Nat → Nat → Nat) (r k : Nat) : zm_tuP (zm_tuP P r k) r k = P := by
  funext q t; unfold zm_tuP
  by_cases h1 : q = r
  · subst h1
    simp only [if_pos]
    by_cases e1 : P q t = 2 * k
    · rw [if_pos e1, if_neg (by omega), if_pos rfl, e1]
    · rw [if_neg e1]
      by_cases e2 : P q t = 2 * k + 1
      · rw [if_pos e2, if_pos rfl, e2]
      · rw [if_neg e2, if_neg e1, if_neg e2]
  · simp only [if_neg h1]
theorem zm_ex_exG (G : Nat → Nat → Nat) (i j : Nat) : zm_exG (zm_exG G i j) i j = G := by
  funext r k; unfold zm_exG; exact zm_x_x i j _
theorem zm_ex_exP (P : Nat → Nat → Nat) (i j : Nat) : zm_exP (zm_exP P i j) i j = P := by
  funext r t; unfold zm_exP; rw [zm_x_x]
theorem zn_gt {n : Nat} {v : Int32} (hn : n + 1 < 2 ^ 31) (h : nI n < v) : nI (n + 1) ≤ v := by
  rw [Int32.le_iff_toInt_le, nI_toInt hn]
  rw [Int32.lt_iff_toInt_lt, nI_toInt (by omega)] at h
  omega
theorem zn_lt_of {n : Nat} {v : Int32} (hn : n + 1 < 2 ^ 31) (h : nI (n + 1) ≤ v) : nI n < v := by
  rw [Int32.lt_iff_toInt_lt, nI_toInt (by omega)]
  rw [Int32.le_iff_toInt_le, nI_toInt hn] at h
  omega
theorem zn_in3 {v : Int32} {n : Nat} (hn : 0 < n) (hn2 : n < 2 ^ 31) (h1 : ¬ v < nI 0) (h2 : ¬ nI (n - 1) < v) : ∃ t : Nat, t < n ∧ v = nI t := by
  obtain ⟨j, hj, rfl⟩ := nI_of (x := v) h1
  rw [nI_ltI (by omega) hj] at h2
  exact ⟨j, by omega, rfl⟩
theorem zn_out3 {v : Int32} {n : Nat} (hn2 : n < 2 ^ 31) (h : v < nI 0 ∨ nI (n - 1) < v) : ∀ t : Nat, t < n → v ≠ nI t := by
  intro t ht e
  subst e
  rcases h with h | h
  · exact nI_pos (by omega) h
  · rw [nI_ltI (by omega) (by omega)] at h; omega
theorem zn_pred (n : Nat) : nI (n + 1) - nI 1 = nI n := (pk_sub (by omega)).trans (by rw [Nat.add_sub_cancel])
theorem zn_or0 (x : Int32) : x ||| nI 0 = x := by rw [nI_0]; exact Int32.or_zero
/-- what the reference's row of numbers holds of the rounds -/
def zv_g (N : Nat) (G P : Nat → Nat → Nat) (wv : Nat → Int32) : Prop := zm_ok N G P ∧ wv 0 = nI N ∧ ∀ r k, r < N - 1 → k < N → wv (57 + 6 * r + k) = nI (G r k)
/-- .. of the bars -/
def zv_b (B : Nat → Nat → Nat) (wv : Nat → Int32) : Prop := (∀ t r, t < 6 → r < 6 → B t r < 2 ∧ wv (21 + 6 * t + r) = nI (B t r)) ∧ ∀ t, t < 6 → B t 5 = 0
/-- .. of the grounds -/
def zv_xy (X Y : Nat → Nat) (wv : Nat → Int32) : Prop := ∀ t, t < 6 → X t ≤ 99 ∧ Y t ≤ 99 ∧ wv (9 + 2 * t) = nI (X t) ∧ wv (9 + 2 * t + 1) = nI (Y t)
/-- .. of the rates -/
def zv_r (R : Nat → Nat) (wv : Nat → Int32) : Prop := ∀ k, k < 4 → R k ≤ 99 ∧ wv (5 + k) = nI (R k)
def zm_v2f (P B : Nat → Nat → Nat) (t r : Nat) : Nat := if B t r = 1 ∧ zm_sd P t r = 1 then 1 else 0
def zm_v2r (N : Nat) (P B : Nat → Nat → Nat) (t : Nat) : Nat := zm_sum (zm_v2f P B t) (N - 1)
def zm_vio2 (N : Nat) (P B : Nat → Nat → Nat) : Nat := zm_sum (zm_v2r N P B) N
theorem zm_gr_of {X Y : Nat → Nat} {wv : Nat → Int32} (h : zv_xy X Y wv) : zm_gr X Y (fun t => nI (X t)) (fun t => nI (Y t)) := fun t ht => ⟨(h t ht).1, (h t ht).2.1, rfl, rfl⟩
/-- the first whose pattern is so -/
def zm_findI (f : Nat → Int32) (y : Int32) : Nat → Nat → Int32 | 0, _ => -5 | k + 1, r => if f r = y then nI r else zm_findI f y k (r + 1)
def zm_all (N : Nat) : Int32 := (nI 1 <<< (nI (N - 1) &&& 31)) - nI 1
def zm_oth (N : Nat) (P : Nat → Nat → Nat) (t : Nat) : Int32 := zm_findI (fun i => zm_pat P i (N - 1)) (zm_all N - zm_pat P t (N - 1)) N 0
theorem zm_pat_n {P : Nat → Nat → Nat} {t : Nat} : ∀ i, i ≤ 5 → ∃ b, b < 2 ^ i ∧ zm_pat P t i = nI b
  | 0, _ => ⟨0, by decide, rfl⟩
  | i + 1, hi => by
    obtain ⟨b, hb, e⟩ := zm_pat_n (P := P) (t := t) i (by omega)
    have key : ∀ i, i < 5 → ∀ b, b < 32 → b < 2 ^ i → nI b ||| (nI 1 <<< (nI i &&& 31)) = nI (b + 2 ^ i) := by decide +kernel
    rw [zm_pat]
    have h2 : (2 : Nat) ^ (i + 1) = 2 ^ i + 2 ^ i := by rw [Nat.pow_succ]; omega
    split
    · exact ⟨b + 2 ^ i, by omega, by rw [e]; exact key i (by omega) b (by have : (2 : Nat) ^ i ≤ 2 ^ 4 := Nat.pow_le_pow_right (by decide) (by omega); omega) hb⟩
    · exact ⟨b, by omega, e⟩
theorem zm_want {N : Nat} {P : Nat → Nat → Nat} {t : Nat} (h : N = 4 ∨ N = 6) : zm_all N ^^^ zm_pat P t (N - 1) = zm_all N - zm_pat P t (N - 1) := by
  obtain ⟨b, hb, e⟩ := zm_pat_n (P := P) (t := t) (N - 1) (by omega)
  rw [e]; unfold zm_all
  rcases h with rfl | rfl
  · have key : ∀ b, b < 8 → ((nI 1 <<< (nI 3 &&& 31)) - nI 1) ^^^ nI b = ((nI 1 <<< (nI 3 &&& 31)) - nI 1) - nI b := by decide +kernel
    exact key b hb
  · have key : ∀ b, b < 32 → ((nI 1 <<< (nI 5 &&& 31)) - nI 1) ^^^ nI b = ((nI 1 <<< (nI 5 &&& 31)) - nI 1) - nI b := by decide +kernel
    exact key b hb
