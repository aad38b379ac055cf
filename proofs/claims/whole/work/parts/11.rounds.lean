/-! the rounds as rows hold them, and as they are changed -/
def zm_game (hm aw rv sd gm : Nat → Int32) (r j a b : Nat) : Prop := hm (r * 3 + j) = nI a ∧ aw (r * 3 + j) = nI b ∧ rv (r * 6 + a) = nI b ∧ rv (r * 6 + b) = nI a ∧ sd (r * 6 + a) = nI 1 ∧ sd (r * 6 + b) = nI 0 ∧ gm (r * 6 + a) = nI j ∧ gm (r * 6 + b) = nI j
theorem zm_put_new {hm aw rv sd gm : Nat → Int32} {r k a b : Nat} (hab : a ≠ b) : zm_game (upd hm (r * 3 + k) (nI a)) (upd aw (r * 3 + k) (nI b)) (upd (upd rv (r * 6 + a) (nI b)) (r * 6 + b) (nI a)) (upd (upd sd (r * 6 + a) (nI 1)) (r * 6 + b) (nI 0)) (upd (upd gm (r * 6 + a) (nI k)) (r * 6 + b) (nI k)) r k a b := by
  have h1 : r * 6 + a ≠ r * 6 + b := by omega
  unfold zm_game upd
  simp [h1, hab]
theorem zm_put_keep {hm aw rv sd gm : Nat → Int32} {r k a b q j c d : Nat} (h : zm_game hm aw rv sd gm q j c d) (hj : j < 3) (hk : k < 3) (ha : a < 6) (hb : b < 6) (hc : c < 6) (hd : d < 6) (hne : q ≠ r ∨ (j ≠ k ∧ c ≠ a ∧ c ≠ b ∧ d ≠ a ∧ d ≠ b)) : zm_game (upd hm (r * 3 + k) (nI a)) (upd aw (r * 3 + k) (nI b)) (upd (upd rv (r * 6 + a) (nI b)) (r * 6 + b) (nI a)) (upd (upd sd (r * 6 + a) (nI 1)) (r * 6 + b) (nI 0)) (upd (upd gm (r * 6 + a) (nI k)) (r * 6 + b) (nI k)) q j c d := by
  obtain ⟨h1, h2, h3, h4, h5, h6, h7, h8⟩ := h
  have e1 : q * 3 + j ≠ r * 3 + k := by omega
  have e2 : q * 6 + c ≠ r * 6 + a := by omega
  have e3 : q * 6 + c ≠ r * 6 + b := by omega
  have e4 : q * 6 + d ≠ r * 6 + a := by omega
  have e5 : q * 6 + d ≠ r * 6 + b := by omega
  unfold zm_game upd
  simp only [if_neg e1, if_neg e2, if_neg e3, if_neg e4, if_neg e5]
  exact ⟨h1, h2, h3, h4, h5, h6, h7, h8⟩
def zm_rows (N : Nat) (G : Nat → Nat → Nat) (hm aw rv sd gm : Nat → Int32) : Prop := ∀ r j, r < N - 1 → j < N / 2 → zm_game hm aw rv sd gm r j (G r (2 * j)) (G r (2 * j + 1))
theorem zm_half_ix {N k : Nat} (h : N = 4 ∨ N = 6) (hk : k < N) : k / 2 < N / 2 ∧ 2 * (k / 2) + k % 2 = k := by omega
theorem zm_pl_of {N : Nat} {G P : Nat → Nat → Nat} {hm aw rv sd gm : Nat → Int32} (hok : zm_ok N G P) (h : zm_rows N G hm aw rv sd gm) : zm_pl N G P hm aw rv sd gm := by
  have key : ∀ r t, r < N - 1 → t < N → rv (r * 6 + t) = nI (zm_rv G P t r) ∧ sd (r * 6 + t) = nI (zm_sd P t r) ∧ gm (r * 6 + t) = nI (zm_gm P t r) := by
    intro r t hr ht
    obtain ⟨hp, hg⟩ := hok.2.2 r t hr ht
    obtain ⟨h1, h2⟩ := zm_half_ix hok.1 hp
    obtain ⟨-, -, q3, q4, q5, q6, q7, q8⟩ := h r (P r t / 2) hr h1
    rcases Nat.mod_two_eq_zero_or_one (P r t) with e | e
    · have e2 : 2 * (P r t / 2) = P r t := by omega
      rw [e2, hg] at q3 q5 q7
      refine ⟨?_, ?_, q7⟩
      · rw [q3]; unfold zm_rv zm_mate; rw [if_pos e]
      · rw [q5]; unfold zm_sd; rw [e]
    · have e2 : 2 * (P r t / 2) + 1 = P r t := by omega
      have e3 : 2 * (P r t / 2) = P r t - 1 := by omega
      rw [e2, hg] at q4 q6 q8
      refine ⟨?_, ?_, q8⟩
      · rw [q4]; unfold zm_rv zm_mate; rw [if_neg (by omega), e3]
      · rw [q6]; unfold zm_sd; rw [e]
  exact ⟨hok, fun r k hr hk => (h r k hr hk).1, fun r k hr hk => (h r k hr hk).2.1, fun r t hr ht => (key r t hr ht).1, fun r t hr ht => (key r t hr ht).2.1, fun r t hr ht => (key r t hr ht).2.2⟩
theorem zm_rows_of {N : Nat} {G P : Nat → Nat → Nat} {hm aw rv sd gm : Nat → Int32} (h : zm_pl N G P hm aw rv sd gm) : zm_rows N G hm aw rv sd gm := by
  obtain ⟨hok, h1, h2, h3, h4, h5⟩ := h
  intro r j hr hj
  have hN := hok.1
  obtain ⟨a1, a2⟩ := hok.2.1 r (2 * j) hr (by omega)
  obtain ⟨b1, b2⟩ := hok.2.1 r (2 * j + 1) hr (by omega)
  refine ⟨h1 r j hr hj, h2 r j hr hj, ?_, ?_, ?_, ?_, ?_, ?_⟩
  · rw [h3 r _ hr a1]; unfold zm_rv zm_mate; rw [a2, if_pos (by omega)]
  · rw [h3 r _ hr b1]; unfold zm_rv zm_mate; rw [b2, if_neg (by omega), Nat.add_sub_cancel]
  · rw [h4 r _ hr a1]; unfold zm_sd; rw [a2, show 1 - 2 * j % 2 = 1 by omega]
  · rw [h4 r _ hr b1]; unfold zm_sd; rw [b2, show 1 - (2 * j + 1) % 2 = 0 by omega]
  · rw [h5 r _ hr a1]; unfold zm_gm; rw [a2, show 2 * j / 2 = j by omega]
  · rw [h5 r _ hr b1]; unfold zm_gm; rw [b2, show (2 * j + 1) / 2 = j by omega]
theorem zm_G_lt {N : Nat} {G P : Nat → Nat → Nat} (h : zm_ok N G P) {r k : Nat} (hr : r < N - 1) (hk : k < N) : G r k < N := (h.2.1 r k hr hk).1
theorem zm_G_ne {N : Nat} {G P : Nat → Nat → Nat} (h : zm_ok N G P) {r k j : Nat} (hr : r < N - 1) (hk : k < N) (hj : j < N) (hne : k ≠ j) : G r k ≠ G r j := fun e => hne (by
  have h1 := (h.2.1 r k hr hk).2
  have h2 := (h.2.1 r j hr hj).2
  rw [e] at h1; omega)
/-- rounds swapped -/
def zm_sw (G : Nat → Nat → Nat) (r s : Nat) : Nat → Nat → Nat := fun q => if q = r then G s else if q = s then G r else G q
theorem zm_sw_ok {N : Nat} {G P : Nat → Nat → Nat} {r s : Nat} (h : zm_ok N G P) (hr : r < N - 1) (hs : s < N - 1) : zm_ok N (zm_sw G r s) (zm_sw P r s) := by
  refine ⟨h.1, fun q k hq hk => ?_, fun q t hq ht => ?_⟩
  · unfold zm_sw; split
    · exact h.2.1 s k hs hk
    · split
      · exact h.2.1 r k hr hk
      · exact h.2.1 q k hq hk
  · unfold zm_sw; split
    · exact h.2.2 s t hs ht
    · split
      · exact h.2.2 r t hr ht
      · exact h.2.2 q t hq ht
/-- a game turned -/
def zm_tuG (G : Nat → Nat → Nat) (r k : Nat) : Nat → Nat → Nat := fun q x => if q = r then (if x = 2 * k then G r (2 * k + 1) else if x = 2 * k + 1 then G r (2 * k) else G r x) else G q x
def zm_tuP (P : Nat → Nat → Nat) (r k : Nat) : Nat → Nat → Nat := fun q t => if q = r then (if P r t = 2 * k then 2 * k + 1 else if P r t = 2 * k + 1 then 2 * k else P r t) else P q t
theorem zm_tu_ok {N : Nat} {G P : Nat → Nat → Nat} {r k : Nat} (h : zm_ok N G P) (hr : r < N - 1) (hk : k < N / 2) : zm_ok N (zm_tuG G r k) (zm_tuP P r k) := by
  have hN := h.1
  refine ⟨h.1, fun q x hq hx => ?_, fun q t hq ht => ?_⟩
  · unfold zm_tuG zm_tuP
    by_cases hqr : q = r
    · subst hqr
      simp only [if_pos]
      obtain ⟨a1, a2⟩ := h.2.1 q (2 * k) hq (by omega)
      obtain ⟨b1, b2⟩ := h.2.1 q (2 * k + 1) hq (by omega)
      obtain ⟨c1, c2⟩ := h.2.1 q x hq hx
      by_cases e1 : x = 2 * k
      · rw [if_pos e1, b2, if_neg (by omega), if_pos rfl]; exact ⟨b1, e1.symm⟩
      · rw [if_neg e1]
        by_cases e2 : x = 2 * k + 1
        · rw [if_pos e2, a2, if_pos rfl]; exact ⟨a1, e2.symm⟩
        · rw [if_neg e2, c2, if_neg e1, if_neg e2]; exact ⟨c1, rfl⟩
    · simp only [if_neg hqr]
      exact h.2.1 q x hq hx
  · unfold zm_tuG zm_tuP
    by_cases hqr : q = r
    · subst hqr
      simp only [if_pos]
      obtain ⟨a1, a2⟩ := h.2.2 q t hq ht
      by_cases e1 : P q t = 2 * k
      · rw [if_pos e1]
        refine ⟨by omega, ?_⟩
        rw [if_neg (by omega), if_pos rfl, ← e1]; exact a2
      · rw [if_neg e1]
        by_cases e2 : P q t = 2 * k + 1
        · rw [if_pos e2]
          refine ⟨by omega, ?_⟩
          rw [if_pos rfl, ← e2]; exact a2
        · rw [if_neg e2, if_neg e1, if_neg e2]; exact ⟨a1, a2⟩
    · simp only [if_neg hqr]
      exact h.2.2 q t hq ht
/-- teams exchanged -/
def zm_x (i j t : Nat) : Nat := if t = i then j else if t = j then i else t
theorem zm_x_lt {N i j t : Nat} (hi : i < N) (hj : j < N) (ht : t < N) : zm_x i j t < N := by
  unfold zm_x; repeat' split
  all_goals omega
theorem zm_x_x (i j t : Nat) : zm_x i j (zm_x i j t) = t := by
  unfold zm_x; repeat' split
  all_goals omega
theorem zm_x_ne {i j a b : Nat} (h : a ≠ b) : zm_x i j a ≠ zm_x i j b := fun e => h (by rw [← zm_x_x i j a, e, zm_x_x])
def zm_exG (G : Nat → Nat → Nat) (i j : Nat) : Nat → Nat → Nat := fun r k => zm_x i j (G r k)
def zm_exP (P : Nat → Nat → Nat) (i j : Nat) : Nat → Nat → Nat := fun r t => P r (zm_x i j t)
theorem zm_ex_ok {N : Nat} {G P : Nat → Nat → Nat} {i j : Nat} (h : zm_ok N G P) (hi : i < N) (hj : j < N) : zm_ok N (zm_exG G i j) (zm_exP P i j) := by
  refine ⟨h.1, fun r k hr hk => ?_, fun r t hr ht => ?_⟩
  · unfold zm_exG zm_exP
    obtain ⟨a1, a2⟩ := h.2.1 r k hr hk
    exact ⟨zm_x_lt hi hj a1, by rw [zm_x_x]; exact a2⟩
  · unfold zm_exG zm_exP
    obtain ⟨a1, a2⟩ := h.2.2 r _ hr (zm_x_lt hi hj ht)
    exact ⟨a1, by rw [a2, zm_x_x]⟩
/-- the circle -/
def zm_ca (N r i : Nat) : Nat := (r + i) % (N - 1)
def zm_cb (N r i : Nat) : Nat := (r + (N - 1) - i) % (N - 1)
def zm_ciG (N : Nat) : Nat → Nat → Nat := fun r k => if k / 2 = 0 then (if (r + k) % 2 = 0 then r else N - 1) else if (k / 2 + k) % 2 = 1 then zm_ca N r (k / 2) else zm_cb N r (k / 2)
def zm_ciP (N : Nat) : Nat → Nat → Nat := fun r t => if zm_ciG N r 0 = t then 0 else if zm_ciG N r 1 = t then 1 else if zm_ciG N r 2 = t then 2 else if zm_ciG N r 3 = t then 3 else if zm_ciG N r 4 = t then 4 else 5
theorem zm_ci_4 : ∀ r, r < 3 → ∀ k, k < 4 → (zm_ciG 4 r k < 4 ∧ zm_ciP 4 r (zm_ciG 4 r k) = k) ∧ (zm_ciP 4 r k < 4 ∧ zm_ciG 4 r (zm_ciP 4 r k) = k) := by decide
theorem zm_ci_6 : ∀ r, r < 5 → ∀ k, k < 6 → (zm_ciG 6 r k < 6 ∧ zm_ciP 6 r (zm_ciG 6 r k) = k) ∧ (zm_ciP 6 r k < 6 ∧ zm_ciG 6 r (zm_ciP 6 r k) = k) := by decide
theorem zm_ci_ok {N : Nat} (h : N = 4 ∨ N = 6) : zm_ok N (zm_ciG N) (zm_ciP N) := by
  rcases h with rfl | rfl
  · exact ⟨Or.inl rfl, fun r k hr hk => (zm_ci_4 r hr k hk).1, fun r k hr hk => (zm_ci_4 r hr k hk).2⟩
  · exact ⟨Or.inr rfl, fun r k hr hk => (zm_ci_6 r hr k hk).1, fun r k hr hk => (zm_ci_6 r hr k hk).2⟩
theorem zm_put_turn {N : Nat} {G P : Nat → Nat → Nat} {hm aw rv sd gm : Nat → Int32} {r k : Nat} (h : zm_pl N G P hm aw rv sd gm) (hr : r < N - 1) (hk : k < N / 2) : zm_pl N (zm_tuG G r k) (zm_tuP P r k) (upd hm (r * 3 + k) (nI (G r (2 * k + 1)))) (upd aw (r * 3 + k) (nI (G r (2 * k)))) (upd (upd rv (r * 6 + G r (2 * k + 1)) (nI (G r (2 * k)))) (r * 6 + G r (2 * k)) (nI (G r (2 * k + 1)))) (upd (upd sd (r * 6 + G r (2 * k + 1)) (nI 1)) (r * 6 + G r (2 * k)) (nI 0)) (upd (upd gm (r * 6 + G r (2 * k + 1)) (nI k)) (r * 6 + G r (2 * k)) (nI k)) := by
  have hok := h.1
  have hN := hok.1
  refine zm_pl_of (zm_tu_ok hok hr hk) (fun q j hq hj => ?_)
  have hne := zm_G_ne hok hr (k := 2 * k + 1) (j := 2 * k) (by omega) (by omega) (by omega)
  by_cases hqk : q = r ∧ j = k
  · obtain ⟨rfl, rfl⟩ := hqk
    have e1 : zm_tuG G q j q (2 * j) = G q (2 * j + 1) := by unfold zm_tuG; rw [if_pos rfl, if_pos rfl]
    have e2 : zm_tuG G q j q (2 * j + 1) = G q (2 * j) := by unfold zm_tuG; rw [if_pos rfl, if_neg (by omega), if_pos rfl]
    rw [e1, e2]
    exact zm_put_new hne
  · have e1 : zm_tuG G r k q (2 * j) = G q (2 * j) := by
      unfold zm_tuG
      by_cases hqr : q = r
      · subst hqr; rw [if_pos rfl, if_neg (by omega), if_neg (by omega)]
      · rw [if_neg hqr]
    have e2 : zm_tuG G r k q (2 * j + 1) = G q (2 * j + 1) := by
      unfold zm_tuG
      by_cases hqr : q = r
      · subst hqr; rw [if_pos rfl, if_neg (by omega), if_neg (by omega)]
      · rw [if_neg hqr]
    rw [e1, e2]
    have a1 := zm_G_lt hok hr (k := 2 * k) (by omega)
    have a2 := zm_G_lt hok hr (k := 2 * k + 1) (by omega)
    have a3 := zm_G_lt hok hq (k := 2 * j) (by omega)
    have a4 := zm_G_lt hok hq (k := 2 * j + 1) (by omega)
    refine zm_put_keep (zm_rows_of h q j hq hj) (by omega) (by omega) (by omega) (by omega) (by omega) (by omega) ?_
    by_cases hqr : q = r
    · subst hqr
      right
      have hjk : j ≠ k := fun e => hqk ⟨rfl, e⟩
      exact ⟨hjk, zm_G_ne hok hq (by omega) (by omega) (by omega), zm_G_ne hok hq (by omega) (by omega) (by omega), zm_G_ne hok hq (by omega) (by omega) (by omega), zm_G_ne hok hq (by omega) (by omega) (by omega)⟩
    · exact Or.inl hqr
/-- while rounds are swapped: games 0 .. k - 1 are done -/
def zm_swI (N : Nat) (G : Nat → Nat → Nat) (r s k : Nat) (hm aw rv sd gm : Nat → Int32) : Prop :=
  (∀ j, j < k → zm_game hm aw rv sd gm r j (G s (2 * j)) (G s (2 * j + 1)) ∧ zm_game hm aw rv sd gm s j (G r (2 * j)) (G r (2 * j + 1))) ∧ (∀ q j, q < N - 1 → j < N / 2 → q ≠ r → q ≠ s → zm_game hm aw rv sd gm q j (G q (2 * j)) (G q (2 * j + 1))) ∧
  (∀ j, k ≤ j → j < N / 2 → hm (r * 3 + j) = nI (G r (2 * j)) ∧ aw (r * 3 + j) = nI (G r (2 * j + 1)) ∧ hm (s * 3 + j) = nI (G s (2 * j)) ∧ aw (s * 3 + j) = nI (G s (2 * j + 1)))
theorem zm_swI_0 {N : Nat} {G P : Nat → Nat → Nat} {r s : Nat} {hm aw rv sd gm : Nat → Int32} (h : zm_pl N G P hm aw rv sd gm) (hr : r < N - 1) (hs : s < N - 1) : zm_swI N G r s 0 hm aw rv sd gm :=
  ⟨fun j hj => absurd hj (Nat.not_lt_zero _), fun q j hq hj _ _ => zm_rows_of h q j hq hj, fun j _ hj => ⟨h.2.1 r j hr hj, h.2.2.1 r j hr hj, h.2.1 s j hs hj, h.2.2.1 s j hs hj⟩⟩
theorem zm_swI_s {N : Nat} {G P : Nat → Nat → Nat} {r s k : Nat} {hm aw rv sd gm : Nat → Int32} (hok : zm_ok N G P) (hr : r < N - 1) (hs : s < N - 1) (hk : k < N / 2) (h : zm_swI N G r s k hm aw rv sd gm) :
    zm_swI N G r s (k + 1) (upd (upd hm (r * 3 + k) (nI (G s (2 * k)))) (s * 3 + k) (nI (G r (2 * k)))) (upd (upd aw (r * 3 + k) (nI (G s (2 * k + 1)))) (s * 3 + k) (nI (G r (2 * k + 1))))
      (upd (upd (upd (upd rv (r * 6 + G s (2 * k)) (nI (G s (2 * k + 1)))) (r * 6 + G s (2 * k + 1)) (nI (G s (2 * k)))) (s * 6 + G r (2 * k)) (nI (G r (2 * k + 1)))) (s * 6 + G r (2 * k + 1)) (nI (G r (2 * k))))
      (upd (upd (upd (upd sd (r * 6 + G s (2 * k)) (nI 1)) (r * 6 + G s (2 * k + 1)) (nI 0)) (s * 6 + G r (2 * k)) (nI 1)) (s * 6 + G r (2 * k + 1)) (nI 0))
      (upd (upd (upd (upd gm (r * 6 + G s (2 * k)) (nI k)) (r * 6 + G s (2 * k + 1)) (nI k)) (s * 6 + G r (2 * k)) (nI k)) (s * 6 + G r (2 * k + 1)) (nI k)) := by
  have hN := hok.1
  have L : ∀ {q x : Nat}, q < N - 1 → x < N → G q x < 6 := fun hq hx => by have := zm_G_lt hok hq hx; omega
  have NE : ∀ {q x y : Nat}, q < N - 1 → x < N → y < N → x ≠ y → G q x ≠ G q y := fun hq hx hy h => zm_G_ne hok hq hx hy h
  obtain ⟨h1, h2, h3⟩ := h
  have n1 : zm_game _ _ _ _ _ r k (G s (2 * k)) (G s (2 * k + 1)) := zm_put_new (hm := hm) (aw := aw) (rv := rv) (sd := sd) (gm := gm) (r := r) (k := k) (NE hs (by omega) (by omega) (by omega))
  have n2 : zm_game _ _ _ _ _ s k (G r (2 * k)) (G r (2 * k + 1)) := zm_put_new (hm := upd hm (r * 3 + k) (nI (G s (2 * k)))) (aw := upd aw (r * 3 + k) (nI (G s (2 * k + 1)))) (rv := upd (upd rv (r * 6 + G s (2 * k)) (nI (G s (2 * k + 1)))) (r * 6 + G s (2 * k + 1)) (nI (G s (2 * k)))) (sd := upd (upd sd (r * 6 + G s (2 * k)) (nI 1)) (r * 6 + G s (2 * k + 1)) (nI 0)) (gm := upd (upd gm (r * 6 + G s (2 * k)) (nI k)) (r * 6 + G s (2 * k + 1)) (nI k)) (r := s) (k := k) (NE hr (by omega) (by omega) (by omega))
  have two : ∀ {q j c d : Nat}, zm_game hm aw rv sd gm q j c d → j < 3 → c < 6 → d < 6 → (q ≠ r ∨ (j ≠ k ∧ c ≠ G s (2 * k) ∧ c ≠ G s (2 * k + 1) ∧ d ≠ G s (2 * k) ∧ d ≠ G s (2 * k + 1))) → (q ≠ s ∨ (j ≠ k ∧ c ≠ G r (2 * k) ∧ c ≠ G r (2 * k + 1) ∧ d ≠ G r (2 * k) ∧ d ≠ G r (2 * k + 1))) → zm_game _ _ _ _ _ q j c d := fun g hj hc hd e1 e2 => zm_put_keep (zm_put_keep g hj (by omega) (L hs (by omega)) (L hs (by omega)) hc hd e1) hj (by omega) (L hr (by omega)) (L hr (by omega)) hc hd e2
  refine ⟨fun j hj => ?_, fun q j hq hj e1 e2 => ?_, fun j hj1 hj2 => ?_⟩
  · rcases Nat.lt_or_eq_of_le (Nat.le_of_lt_succ hj) with hlt | rfl
    · obtain ⟨g1, g2⟩ := h1 j hlt
      refine ⟨two g1 (by omega) (L hs (by omega)) (L hs (by omega)) (Or.inr ⟨by omega, NE hs (by omega) (by omega) (by omega), NE hs (by omega) (by omega) (by omega), NE hs (by omega) (by omega) (by omega), NE hs (by omega) (by omega) (by omega)⟩) ?_, two g2 (by omega) (L hr (by omega)) (L hr (by omega)) ?_ (Or.inr ⟨by omega, NE hr (by omega) (by omega) (by omega), NE hr (by omega) (by omega) (by omega), NE hr (by omega) (by omega) (by omega), NE hr (by omega) (by omega) (by omega)⟩)⟩
      · by_cases hrs : r = s
        · subst hrs
          exact Or.inr ⟨by omega, NE hs (by omega) (by omega) (by omega), NE hs (by omega) (by omega) (by omega), NE hs (by omega) (by omega) (by omega), NE hs (by omega) (by omega) (by omega)⟩
        · exact Or.inl hrs
      · by_cases hrs : s = r
        · subst hrs
          exact Or.inr ⟨by omega, NE hs (by omega) (by omega) (by omega), NE hs (by omega) (by omega) (by omega), NE hs (by omega) (by omega) (by omega), NE hs (by omega) (by omega) (by omega)⟩
        · exact Or.inl hrs
    · refine ⟨?_, n2⟩
      by_cases hrs : r = s
      · subst hrs
        exact n2
      · exact zm_put_keep n1 (by omega) (by omega) (L hr (by omega)) (L hr (by omega)) (L hs (by omega)) (L hs (by omega)) (Or.inl hrs)
  · exact two (h2 q j hq hj e1 e2) (by omega) (L hq (by omega)) (L hq (by omega)) (Or.inl e1) (Or.inl e2)
  · obtain ⟨g1, g2, g3, g4⟩ := h3 j (by omega) hj2
    have i1 : r * 3 + j ≠ r * 3 + k := by omega
    have i2 : r * 3 + j ≠ s * 3 + k := by omega
    have i3 : s * 3 + j ≠ r * 3 + k := by omega
    have i4 : s * 3 + j ≠ s * 3 + k := by omega
    unfold upd
    simp only [if_neg i1, if_neg i2, if_neg i3, if_neg i4]
    exact ⟨g1, g2, g3, g4⟩
theorem zm_swI_e {N : Nat} {G P : Nat → Nat → Nat} {r s : Nat} {hm aw rv sd gm : Nat → Int32} (hok : zm_ok N G P) (hr : r < N - 1) (hs : s < N - 1) (h : zm_swI N G r s (N / 2) hm aw rv sd gm) : zm_pl N (zm_sw G r s) (zm_sw P r s) hm aw rv sd gm := by
  refine zm_pl_of (zm_sw_ok hok hr hs) (fun q j hq hj => ?_)
  obtain ⟨h1, h2, -⟩ := h
  by_cases e1 : q = r
  · subst e1
    have e : zm_sw G q s q = G s := by unfold zm_sw; rw [if_pos rfl]
    rw [e]; exact (h1 j hj).1
  · by_cases e2 : q = s
    · subst e2
      have e : zm_sw G r q q = G r := by unfold zm_sw; rw [if_neg e1, if_pos rfl]
      rw [e]; exact (h1 j hj).2
    · have e : zm_sw G r s q = G q := by unfold zm_sw; rw [if_neg e1, if_neg e2]
      rw [e]; exact h2 q j hq hj e1 e2
/-- games told anew, round by round, game by game: by a plan F where done, the rows as G has them where not -/
def zm_done (N : Nat) (F : Nat → Nat → Nat) (r k : Nat) (hm aw rv sd gm : Nat → Int32) : Prop := ∀ q j, q < N - 1 → j < N / 2 → (q < r ∨ (q = r ∧ j < k)) → zm_game hm aw rv sd gm q j (F q (2 * j)) (F q (2 * j + 1))
theorem zm_done_s {N : Nat} {F P : Nat → Nat → Nat} {r k : Nat} {hm aw rv sd gm : Nat → Int32} (hok : zm_ok N F P) (hr : r < N - 1) (hk : k < N / 2) (h : zm_done N F r k hm aw rv sd gm) :
    zm_done N F r (k + 1) (upd hm (r * 3 + k) (nI (F r (2 * k)))) (upd aw (r * 3 + k) (nI (F r (2 * k + 1)))) (upd (upd rv (r * 6 + F r (2 * k)) (nI (F r (2 * k + 1)))) (r * 6 + F r (2 * k + 1)) (nI (F r (2 * k)))) (upd (upd sd (r * 6 + F r (2 * k)) (nI 1)) (r * 6 + F r (2 * k + 1)) (nI 0)) (upd (upd gm (r * 6 + F r (2 * k)) (nI k)) (r * 6 + F r (2 * k + 1)) (nI k)) := by
  have hN := hok.1
  have L : ∀ {q x : Nat}, q < N - 1 → x < N → F q x < 6 := fun hq hx => by have := zm_G_lt hok hq hx; omega
  have NE : ∀ {q x y : Nat}, q < N - 1 → x < N → y < N → x ≠ y → F q x ≠ F q y := fun hq hx hy h => zm_G_ne hok hq hx hy h
  intro q j hq hj hd
  by_cases hqk : q = r ∧ j = k
  · obtain ⟨rfl, rfl⟩ := hqk
    exact zm_put_new (NE hr (by omega) (by omega) (by omega))
  · refine zm_put_keep (h q j hq hj (by omega)) (by omega) (by omega) (L hr (by omega)) (L hr (by omega)) (L hq (by omega)) (L hq (by omega)) ?_
    by_cases hqr : q = r
    · subst hqr
      exact Or.inr ⟨by omega, NE hr (by omega) (by omega) (by omega), NE hr (by omega) (by omega) (by omega), NE hr (by omega) (by omega) (by omega), NE hr (by omega) (by omega) (by omega)⟩
    · exact Or.inl hqr
theorem zm_done_r {N : Nat} {F : Nat → Nat → Nat} {r k : Nat} {hm aw rv sd gm : Nat → Int32} (hk : N / 2 ≤ k) (h : zm_done N F r k hm aw rv sd gm) : zm_done N F (r + 1) 0 hm aw rv sd gm := fun q j hq hj hd => h q j hq hj (by omega)
theorem zm_done_e {N : Nat} {F P : Nat → Nat → Nat} {r k : Nat} {hm aw rv sd gm : Nat → Int32} (hok : zm_ok N F P) (hr : N - 1 ≤ r) (h : zm_done N F r k hm aw rv sd gm) : zm_pl N F P hm aw rv sd gm := zm_pl_of hok (fun q j hq hj => h q j hq hj (by omega))
/-- the games not yet told anew -/
def zm_left (N : Nat) (G : Nat → Nat → Nat) (r k : Nat) (hm aw : Nat → Int32) : Prop := ∀ q j, q < N - 1 → j < N / 2 → (r < q ∨ (q = r ∧ k ≤ j)) → hm (q * 3 + j) = nI (G q (2 * j)) ∧ aw (q * 3 + j) = nI (G q (2 * j + 1))
theorem zm_left_s {N : Nat} {G : Nat → Nat → Nat} {r k : Nat} {hm aw : Nat → Int32} {x y : Int32} (hN : N = 4 ∨ N = 6) (hk : k < N / 2) (h : zm_left N G r k hm aw) : zm_left N G r (k + 1) (upd hm (r * 3 + k) x) (upd aw (r * 3 + k) y) := by
  intro q j hq hj hd
  have i1 : q * 3 + j ≠ r * 3 + k := by omega
  unfold upd
  rw [if_neg i1, if_neg i1]
  exact h q j hq hj (by omega)
theorem zm_left_r {N : Nat} {G : Nat → Nat → Nat} {r k : Nat} {hm aw : Nat → Int32} (h : zm_left N G r k hm aw) : zm_left N G (r + 1) 0 hm aw := fun q j hq hj hd => h q j hq hj (by omega)
