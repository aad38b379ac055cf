/-! how the reference's row of numbers changes -/
def zv_off (wv wv' : Nat → Int32) : Prop := ∀ x, x < 57 ∨ 87 ≤ x → wv' x = wv x
theorem zv_off_r {wv : Nat → Int32} : zv_off wv wv := fun _ _ => rfl
theorem zv_off_t {a b c : Nat → Int32} (h : zv_off a b) (h2 : zv_off b c) : zv_off a c := fun x hx => (h2 x hx).trans (h x hx)
theorem zv_off_u {a b : Nat → Int32} {j : Nat} {v : Int32} (h : zv_off a b) (h1 : 57 ≤ j) (h2 : j < 87) : zv_off a (upd b j v) := fun x hx => by
  unfold upd; rw [if_neg (by omega)]; exact h x hx
def zv_swI (r s k : Nat) (w0 wv : Nat → Int32) : Prop := (∀ j, j < k → wv (57 + 6 * r + j) = w0 (57 + 6 * s + j) ∧ wv (57 + 6 * s + j) = w0 (57 + 6 * r + j)) ∧ ∀ x, (∀ j, j < k → x ≠ 57 + 6 * r + j ∧ x ≠ 57 + 6 * s + j) → wv x = w0 x
theorem zv_swI_0 {r s : Nat} {w0 : Nat → Int32} : zv_swI r s 0 w0 w0 := ⟨fun j hj => absurd hj (Nat.not_lt_zero _), fun _ _ => rfl⟩
theorem zv_swI_s {r s k : Nat} {w0 wv : Nat → Int32} (hk : k < 6) (h : zv_swI r s k w0 wv) : zv_swI r s (k + 1) w0 (upd (upd wv (57 + 6 * r + k) (wv (57 + 6 * s + k))) (57 + 6 * s + k) (wv (57 + 6 * r + k))) := by
  obtain ⟨h1, h2⟩ := h
  have a1 : wv (57 + 6 * r + k) = w0 (57 + 6 * r + k) := h2 _ (fun j hj => by omega)
  have a2 : wv (57 + 6 * s + k) = w0 (57 + 6 * s + k) := h2 _ (fun j hj => by omega)
  refine ⟨fun j hj => ?_, fun x hx => ?_⟩
  · rcases Nat.lt_or_eq_of_le (Nat.le_of_lt_succ hj) with hlt | rfl
    · unfold upd
      rw [if_neg (by omega), if_neg (by omega), if_neg (by omega), if_neg (by omega)]
      exact h1 j hlt
    · unfold upd
      refine ⟨?_, ?_⟩
      · by_cases e : 57 + 6 * r + j = 57 + 6 * s + j
        · rw [if_pos e, a1, e]
        · rw [if_neg e, if_pos rfl, a2]
      · rw [if_pos rfl, a1]
  · unfold upd
    have := hx k (by omega)
    rw [if_neg this.2, if_neg this.1]
    exact h2 x (fun j hj => hx j (by omega))
theorem zv_sw_e {N : Nat} {G P : Nat → Nat → Nat} {r s : Nat} {w0 wv : Nat → Int32} (hg : zv_g N G P w0) (hr : r < N - 1) (hs : s < N - 1) (h : zv_swI r s N w0 wv) : zv_g N (zm_sw G r s) (zm_sw P r s) wv ∧ zv_off w0 wv := by
  obtain ⟨hok, h0, hgg⟩ := hg
  have hN := hok.1
  obtain ⟨h1, h2⟩ := h
  refine ⟨⟨zm_sw_ok hok hr hs, ?_, fun q k hq hk => ?_⟩, fun x hx => h2 x (fun j hj => by omega)⟩
  · rw [h2 0 (fun j hj => by omega)]; exact h0
  · unfold zm_sw
    by_cases e1 : q = r
    · subst e1; rw [if_pos rfl, (h1 k hk).1]; exact hgg s k hs hk
    · rw [if_neg e1]
      by_cases e2 : q = s
      · subst e2; rw [if_pos rfl, (h1 k hk).2]; exact hgg r k hr hk
      · rw [if_neg e2, h2 _ (fun j hj => by omega)]; exact hgg q k hq hk
theorem zv_tu_e {N : Nat} {G P : Nat → Nat → Nat} {r k : Nat} {wv : Nat → Int32} (hg : zv_g N G P wv) (hr : r < N - 1) (hk : k < N / 2) : zv_g N (zm_tuG G r k) (zm_tuP P r k) (upd (upd wv (57 + 6 * r + 2 * k + 0) (wv (57 + 6 * r + 2 * k + 1))) (57 + 6 * r + 2 * k + 1) (wv (57 + 6 * r + 2 * k + 0))) ∧ zv_off wv (upd (upd wv (57 + 6 * r + 2 * k + 0) (wv (57 + 6 * r + 2 * k + 1))) (57 + 6 * r + 2 * k + 1) (wv (57 + 6 * r + 2 * k + 0))) := by
  obtain ⟨hok, h0, hgg⟩ := hg
  have hN := hok.1
  have e1 : wv (57 + 6 * r + 2 * k + 1) = nI (G r (2 * k + 1)) := hgg r (2 * k + 1) hr (by omega)
  have e0 : wv (57 + 6 * r + 2 * k + 0) = nI (G r (2 * k)) := hgg r (2 * k) hr (by omega)
  refine ⟨⟨zm_tu_ok hok hr hk, ?_, fun q x hq hx => ?_⟩, zv_off_u (zv_off_u zv_off_r (by omega) (by omega)) (by omega) (by omega)⟩
  · unfold upd; rw [if_neg (by omega), if_neg (by omega)]; exact h0
  · unfold upd zm_tuG
    by_cases hqr : q = r
    · subst hqr
      rw [if_pos rfl]
      by_cases c1 : x = 2 * k
      · rw [if_pos c1, if_neg (by omega), if_pos (by omega), e1]
      · rw [if_neg c1]
        by_cases c2 : x = 2 * k + 1
        · rw [if_pos c2, if_pos (by omega), e0]
        · rw [if_neg c2, if_neg (by omega), if_neg (by omega)]; exact hgg q x hq hx
    · rw [if_neg hqr, if_neg (by omega), if_neg (by omega)]; exact hgg q x hq hx
/-- places told anew, round by round: by F where done, as G has them where not -/
def zv_done (N : Nat) (F G : Nat → Nat → Nat) (r k : Nat) (w0 wv : Nat → Int32) : Prop := (∀ q j, q < N - 1 → j < N → (q < r ∨ (q = r ∧ j < k)) → wv (57 + 6 * q + j) = nI (F q j)) ∧ (∀ q j, q < N - 1 → j < N → (r < q ∨ (q = r ∧ k ≤ j)) → wv (57 + 6 * q + j) = nI (G q j)) ∧ zv_off w0 wv
theorem zv_done_s {N : Nat} {F G : Nat → Nat → Nat} {r k : Nat} {w0 wv : Nat → Int32} (hN : N = 4 ∨ N = 6) (hr : r < N - 1) (hk : k < N) (h : zv_done N F G r k w0 wv) {v : Int32} (hv : v = nI (F r k)) : zv_done N F G r (k + 1) w0 (upd wv (57 + 6 * r + k) v) := by
  obtain ⟨h1, h2, h3⟩ := h
  refine ⟨fun q j hq hj hd => ?_, fun q j hq hj hd => ?_, zv_off_u h3 (by omega) (by omega)⟩
  · unfold upd
    by_cases e : q = r ∧ j = k
    · obtain ⟨rfl, rfl⟩ := e
      rw [if_pos rfl, hv]
    · rw [if_neg (by omega)]; exact h1 q j hq hj (by omega)
  · unfold upd
    rw [if_neg (by omega)]; exact h2 q j hq hj (by omega)
theorem zv_done_r {N : Nat} {F G : Nat → Nat → Nat} {r k : Nat} {w0 wv : Nat → Int32} (hk : N ≤ k) (h : zv_done N F G r k w0 wv) : zv_done N F G (r + 1) 0 w0 wv := ⟨fun q j hq hj hd => h.1 q j hq hj (by omega), fun q j hq hj hd => h.2.1 q j hq hj (by omega), h.2.2⟩
theorem zv_done_e {N : Nat} {F Q G : Nat → Nat → Nat} {r k : Nat} {w0 wv : Nat → Int32} (hok : zm_ok N F Q) (h0 : w0 0 = nI N) (hr : N - 1 ≤ r) (h : zv_done N F G r k w0 wv) : zv_g N F Q wv ∧ zv_off w0 wv :=
  ⟨⟨hok, (h.2.2 0 (by omega)).trans h0, fun q j hq hj => h.1 q j hq hj (by omega)⟩, h.2.2⟩
theorem zv_xx {G : Nat → Nat → Nat} {i j r k : Nat} (g : Nat) (hg : g = G r k) : (if g = i then j else if g = j then i else g) = zm_exG G i j r k := by rw [hg]; rfl
/-- while the circle is laid -/
def zv_ciI (M : Nat) (r k : Nat) (w0 wv : Nat → Int32) : Prop := (∀ q j, q < M - 1 → j < M → (q < r ∨ (q = r ∧ j < 2 * k)) → wv (57 + 6 * q + j) = nI (zm_ciG M q j)) ∧ zv_off w0 wv
theorem zv_ciI_s {M r k : Nat} {w0 wv : Nat → Int32} (hM : M = 4 ∨ M = 6) (hr : r < M - 1) (hk : k < M / 2) (h : zv_ciI M r k w0 wv) {a b : Int32} (ha : a = nI (zm_ciG M r (2 * k))) (hb : b = nI (zm_ciG M r (2 * k + 1))) : zv_ciI M r (k + 1) w0 (upd (upd wv (57 + 6 * r + 2 * k + 0) a) (57 + 6 * r + 2 * k + 1) b) := by
  obtain ⟨h1, h3⟩ := h
  refine ⟨fun q j hq hj hd => ?_, zv_off_u (zv_off_u h3 (by omega) (by omega)) (by omega) (by omega)⟩
  unfold upd
  by_cases e : q = r ∧ j = 2 * k + 1
  · obtain ⟨rfl, rfl⟩ := e
    rw [if_pos (by omega), hb]
  · rw [if_neg (by omega)]
    by_cases e2 : q = r ∧ j = 2 * k
    · obtain ⟨rfl, rfl⟩ := e2
      rw [if_pos (by omega), ha]
    · rw [if_neg (by omega)]; exact h1 q j hq hj (by omega)
theorem zv_ciI_r {M r k : Nat} {w0 wv : Nat → Int32} (hM : M = 4 ∨ M = 6) (hk : M / 2 ≤ k) (h : zv_ciI M r k w0 wv) : zv_ciI M (r + 1) 0 w0 wv := ⟨fun q j hq hj hd => h.1 q j hq hj (by omega), h.2⟩
theorem zv_ciI_e {M r k : Nat} {w0 wv : Nat → Int32} (hM : M = 4 ∨ M = 6) (hr : M - 1 ≤ r) (h : zv_ciI M r k w0 wv) (h0 : w0 0 = nI M) : zv_g M (zm_ciG M) (zm_ciP M) wv := ⟨zm_ci_ok hM, (h.2 0 (by omega)).trans h0, fun q j hq hj => h.1 q j hq hj (by omega)⟩
theorem zv_ci_odd {M r i : Nat} (hi : 1 ≤ i) (ho : i % 2 = 1) : zm_ciG M r (2 * i) = (r + i) % (M - 1) ∧ zm_ciG M r (2 * i + 1) = (r + (M - 1) - i) % (M - 1) := by
  unfold zm_ciG zm_ca zm_cb
  have e1 : 2 * i / 2 = i := by omega
  have e2 : (2 * i + 1) / 2 = i := by omega
  rw [e1, e2, if_neg (by omega), if_pos (by omega), if_neg (by omega), if_neg (by omega)]
  exact ⟨rfl, rfl⟩
theorem zv_ci_even {M r i : Nat} (hi : 1 ≤ i) (ho : ¬ i % 2 = 1) : zm_ciG M r (2 * i) = (r + (M - 1) - i) % (M - 1) ∧ zm_ciG M r (2 * i + 1) = (r + i) % (M - 1) := by
  unfold zm_ciG zm_ca zm_cb
  have e1 : 2 * i / 2 = i := by omega
  have e2 : (2 * i + 1) / 2 = i := by omega
  rw [e1, e2, if_neg (by omega), if_neg (by omega), if_neg (by omega), if_pos (by omega)]
  exact ⟨rfl, rfl⟩
theorem zv_ci_0e {M r : Nat} (h : r % 2 = 0) : zm_ciG M r (2 * 0) = r ∧ zm_ciG M r (2 * 0 + 1) = M - 1 := by
  unfold zm_ciG
  rw [if_pos (by omega), if_pos (by omega), if_pos (by omega), if_neg (by omega)]
  exact ⟨rfl, rfl⟩
theorem zv_ci_0o {M r : Nat} (h : ¬ r % 2 = 0) : zm_ciG M r (2 * 0) = M - 1 ∧ zm_ciG M r (2 * 0 + 1) = r := by
  unfold zm_ciG
  rw [if_pos (by omega), if_neg (by omega), if_pos (by omega), if_pos (by omega)]
  exact ⟨rfl, rfl⟩
def zv_cl (M : Nat) (wv wn : Nat → Int32) : Prop := zv_g M (zm_ciG M) (zm_ciP M) wn ∧ wn 2 = nI 0 ∧ wn 3 = nI 0 ∧ wn 4 = nI 0 ∧ (∀ j, j < 36 → wn (21 + j) = nI 0) ∧ ∀ x, (x = 1 ∨ (5 ≤ x ∧ x < 21) ∨ 87 ≤ x) → wn x = wv x
theorem zv_cl_e {M r k : Nat} {wv w1 w2 wn : Nat → Int32} (hM : M = 4 ∨ M = 6) (hr : M - 1 ≤ r) (hw1 : w1 = upd (upd (upd (upd wv 0 (nI M)) 2 (nI 0)) 3 (nI 0)) 4 (nI 0)) (h2 : ∀ j, j < 36 → w2 (21 + j) = nI 0) (h3 : ∀ x, (x < 21 ∨ 57 ≤ x) → w2 x = w1 x) (h : zv_ciI M r k w2 wn) : zv_cl M wv wn := by
  have e : ∀ x, (x < 21 ∨ 87 ≤ x) → wn x = w1 x := fun x hx => (h.2 x (by omega)).trans (h3 x (by omega))
  refine ⟨zv_ciI_e hM hr h ?_, ?_, ?_, ?_, fun j hj => (h.2 _ (by omega)).trans (h2 j hj), fun x hx => ?_⟩
  · rw [h3 0 (by omega), hw1]; rfl
  · rw [e 2 (by omega), hw1]; rfl
  · rw [e 3 (by omega), hw1]; rfl
  · rw [e 4 (by omega), hw1]; rfl
  · rw [e x (by omega), hw1]; unfold upd
    rw [if_neg (by omega), if_neg (by omega), if_neg (by omega), if_neg (by omega)]
