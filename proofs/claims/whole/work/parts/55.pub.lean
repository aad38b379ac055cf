/-! answers of the face: an argument that is one of 0 .. n - 1 -/
def zq (v : Int32) : Nat := v.toNatClampNeg
def zi (n : Nat) (v : Int32) : Bool := decide (zq v < n) && decide (v = nI (zq v))
theorem zq_t {t : Nat} (h : t < 2 ^ 31) : zq (nI t) = t := nI_clamp h
theorem zi_t {n t : Nat} (h : t < n) (h2 : t < 2 ^ 31) : zi n (nI t) = true := by
  unfold zi; rw [zq_t h2, decide_eq_true h, decide_eq_true rfl]; rfl
theorem zi_x {n : Nat} {v : Int32} (h : zi n v = true) : zq v < n ∧ v = nI (zq v) := by
  unfold zi at h
  rw [Bool.and_eq_true] at h
  exact ⟨of_decide_eq_true h.1, of_decide_eq_true h.2⟩
theorem zi_f {n : Nat} {v : Int32} (h : ∀ t : Nat, t < n → v ≠ nI t) : zi n v = false := by
  cases hz : zi n v with
  | false => rfl
  | true => exact absurd (zi_x hz).2 (h _ (zi_x hz).1)
theorem zi_f2 {m n : Nat} {v w : Int32} (h : (∀ t : Nat, t < m → v ≠ nI t) ∨ (∀ t : Nat, t < n → w ≠ nI t)) : (zi m v && zi n w) = false := by
  rcases h with h | h
  · rw [zi_f h]; rfl
  · rw [zi_f h, Bool.and_false]
theorem zi_n2 {m n : Nat} {v w : Int32} (h : ¬ (zm_rg m v ∧ zm_rg n w)) : (zi m v && zi n w) = false := by
  cases hz : (zi m v && zi n w) with
  | false => rfl
  | true =>
    rw [Bool.and_eq_true] at hz
    exact absurd ⟨⟨_, (zi_x hz.1).1, (zi_x hz.1).2⟩, ⟨_, (zi_x hz.2).1, (zi_x hz.2).2⟩⟩ h
/-- rows: seen, events, books: what may stand in them, how class and reference hold it -/
def zs_se (N n : Nat) (sT sR sH : Nat → Nat) : Prop := n ≤ 6 ∧ ∀ k, k < n → sT k < N ∧ sR k < 10 ∧ sH k < 2
def zm_sc (n : Nat) (sT sR sH : Nat → Nat) (cs : Nat → Int32) : Prop := ∀ k, k < n → cs (k * 4) = nI (sT k) ∧ cs (k * 4 + 1) = nI (sR k) ∧ cs (k * 4 + 2) = nI (sH k)
def zv_sc (n : Nat) (sT sR sH : Nat → Nat) (wv : Nat → Int32) : Prop := wv 2 = nI n ∧ ∀ k, k < n → wv (87 + 3 * k) = nI (sT k) ∧ wv (87 + 3 * k + 1) = nI (sR k) ∧ wv (87 + 3 * k + 2) = nI (sH k)
def zm_evok (N w x : Nat) : Prop := x < 100 ∧ ((w = 0 ∧ x / 10 < N - 1 ∧ x % 10 < N - 1) ∨ (w = 1 ∧ x / 10 < N - 1 ∧ x % 10 < N / 2) ∨ (w = 2 ∧ x / 10 < N ∧ x % 10 < N) ∨ (w = 3 ∧ x / 10 < 4))
def zs_ev (N n : Nat) (eW eN : Nat → Nat) : Prop := n ≤ 8 ∧ ∀ k, k < n → zm_evok N (eW k) (eN k)
def zm_ec (n : Nat) (eW eN : Nat → Nat) (cs : Nat → Int32) : Prop := ∀ k, k < n → cs (k * 4) = nI (eW k) ∧ cs (k * 4 + 1) = nI (eN k / 10) ∧ cs (k * 4 + 2) = nI (eN k % 10)
def zv_ec (n : Nat) (eW eN : Nat → Nat) (wv : Nat → Int32) : Prop := wv 3 = nI n ∧ ∀ k, k < n → wv (105 + 2 * k) = nI (eW k) ∧ wv (105 + 2 * k + 1) = nI (eN k)
def zs_bo (N n : Nat) (bT bN : Nat → Nat) : Prop := n ≤ 8 ∧ ∀ k, k < n → bT k < N ∧ bN k ≤ 4
def zm_bc (n : Nat) (bT bN : Nat → Nat) (cs : Nat → Int32) : Prop := ∀ k, k < n → cs (k * 4) = nI (bT k) ∧ cs (k * 4 + 1) = nI (bN k)
def zv_bc (n : Nat) (bT bN : Nat → Nat) (wv : Nat → Int32) : Prop := wv 4 = nI n ∧ ∀ k, k < n → wv (121 + 2 * k) = nI (bT k) ∧ wv (121 + 2 * k + 1) = nI (bN k)
/-- all bars -/
def zm_allb (B : Nat → Nat → Nat) : Nat := zm_sum (fun i => B (i % 6) (i / 6)) 30
theorem zm_allb_eq {B : Nat → Nat → Nat} (h : ∀ t, t < 6 → B t 5 = 0) : zm_sum (fun k => B (k / 6) (k % 6)) 36 = zm_allb B := by
  have h0 := h 0 (by decide); have h1 := h 1 (by decide); have h2 := h 2 (by decide); have h3 := h 3 (by decide); have h4 := h 4 (by decide); have h5 := h 5 (by decide)
  unfold zm_allb
  simp only [zm_sum, Nat.reduceDiv, Nat.reduceMod]
  omega
/-- the kinds that go as seen -/
def zm_sk (N : Nat) (P : Nat → Nat → Nat) (kd t r h : Nat) : Bool := decide (r < 2 * (N - 1)) && decide (zm_ss N P kd t r = h)
def zm_seen (N : Nat) (P : Nat → Nat → Nat) (kd : Nat) (sT sR sH : Nat → Nat) : Nat → Bool | 0 => true | k + 1 => zm_seen N P kd sT sR sH k && zm_sk N P kd (sT k) (sR k) (sH k)
theorem zm_seen_f {N kd : Nat} {P : Nat → Nat → Nat} {sT sR sH : Nat → Nat} {i : Nat} (h : zm_sk N P kd (sT i) (sR i) (sH i) = false) : ∀ n, i < n → zm_seen N P kd sT sR sH n = false
  | 0, hi => absurd hi (Nat.not_lt_zero _)
  | n + 1, hi => by
    rw [zm_seen]
    by_cases e : i = n
    · rw [← e, h, Bool.and_false]
    · rw [zm_seen_f h n (by omega), Bool.false_and]
def zm_fits (N : Nat) (P : Nat → Nat → Nat) (sT sR sH : Nat → Nat) (n : Nat) : Nat → Int32 | 0 => nI 0 | k + 1 => if zm_seen N P k sT sR sH n = true then zm_fits N P sT sR sH n k ||| (nI 1 <<< (nI k &&& 31)) else zm_fits N P sT sR sH n k
/-- a fraction in its lowest terms -/
def zm_low (v : Int32) (a b : Nat) : Nat := if v = nI 0 then a / Nat.gcd a b else b / Nat.gcd a b
theorem zm_gcd_s {a b : Nat} (h : b ≠ 0) : Nat.gcd b (a % b) = Nat.gcd a b := by
  rw [Nat.gcd_comm b, ← Nat.gcd_rec, Nat.gcd_comm]
/-! games of two rounds in turn come back within N / 2 -/
/-- x is none of these -/
def zm_nin (x : Nat) : List Nat → Bool | [] => true | y :: l => !(x == y) && zm_nin x l
/-- what is apart and within n fills it: k more to choose -/
def zm_pig (n : Nat) : Nat → List Nat → Bool | 0, l => (List.range n).all (fun x => !zm_nin x l) | k + 1, l => (List.range n).all (fun x => !zm_nin x l || zm_pig n k (x :: l))
theorem zm_pig_s {n k x : Nat} {l : List Nat} (h : zm_pig n (k + 1) l = true) (hx : x < n) (hl : zm_nin x l = true) : zm_pig n k (x :: l) = true := by
  have := List.all_eq_true.mp h x (List.mem_range.mpr hx)
  rw [hl] at this; exact this
theorem zm_pig_e {n x : Nat} {l : List Nat} (h : zm_pig n 0 l = true) (hx : x < n) : zm_nin x l = false := by
  have := List.all_eq_true.mp h x (List.mem_range.mpr hx)
  cases hz : zm_nin x l with
  | false => rfl
  | true => rw [hz] at this; cases this
theorem zm_nin_c {x y : Nat} {l : List Nat} (h : x ≠ y) (hl : zm_nin x l = true) : zm_nin x (y :: l) = true := by
  rw [zm_nin, hl, beq_eq_false_iff_ne.mpr h]; rfl
theorem zm_nin_u {x y : Nat} {l : List Nat} (h : zm_nin x (y :: l) = false) : x = y ∨ zm_nin x l = false := by
  by_cases e : x = y
  · exact Or.inl e
  · right
    rw [zm_nin, beq_eq_false_iff_ne.mpr e] at h
    exact h
theorem zm_pig6 (a : Nat) (ha : a < 6) (b : Nat) (hb : b < 6) (b1 : b ≠ a) (c : Nat) (hc : c < 6) (c1 : c ≠ a) (c2 : c ≠ b) (d : Nat) (hd : d < 6) (d1 : d ≠ a) (d2 : d ≠ b) (d3 : d ≠ c) (e : Nat) (he : e < 6) (e1 : e ≠ a) (e2 : e ≠ b) (e3 : e ≠ c) (e4 : e ≠ d) (f : Nat) (hf : f < 6) (f1 : f ≠ a) (f2 : f ≠ b) (f3 : f ≠ c) (f4 : f ≠ d) (f5 : f ≠ e) (g : Nat) (hg : g < 6) : g = a ∨ g = b ∨ g = c ∨ g = d ∨ g = e ∨ g = f := by
  have h0 : zm_pig 6 6 [] = true := by decide +kernel
  have h1 := zm_pig_s h0 ha rfl
  have h2 := zm_pig_s h1 hb (zm_nin_c b1 rfl)
  have h3 := zm_pig_s h2 hc (zm_nin_c c2 (zm_nin_c c1 rfl))
  have h4 := zm_pig_s h3 hd (zm_nin_c d3 (zm_nin_c d2 (zm_nin_c d1 rfl)))
  have h5 := zm_pig_s h4 he (zm_nin_c e4 (zm_nin_c e3 (zm_nin_c e2 (zm_nin_c e1 rfl))))
  have h6 := zm_pig_s h5 hf (zm_nin_c f5 (zm_nin_c f4 (zm_nin_c f3 (zm_nin_c f2 (zm_nin_c f1 rfl)))))
  rcases zm_nin_u (zm_pig_e h6 hg) with q | q
  · exact Or.inr (Or.inr (Or.inr (Or.inr (Or.inr q))))
  rcases zm_nin_u q with q | q
  · exact Or.inr (Or.inr (Or.inr (Or.inr (Or.inl q))))
  rcases zm_nin_u q with q | q
  · exact Or.inr (Or.inr (Or.inr (Or.inl q)))
  rcases zm_nin_u q with q | q
  · exact Or.inr (Or.inr (Or.inl q))
  rcases zm_nin_u q with q | q
  · exact Or.inr (Or.inl q)
  rcases zm_nin_u q with q | q
  · exact Or.inl q
  · cases q
theorem zm_pig4 (a : Nat) (ha : a < 4) (b : Nat) (hb : b < 4) (b1 : b ≠ a) (c : Nat) (hc : c < 4) (c1 : c ≠ a) (c2 : c ≠ b) (d : Nat) (hd : d < 4) (d1 : d ≠ a) (d2 : d ≠ b) (d3 : d ≠ c) (g : Nat) (hg : g < 4) : g = a ∨ g = b ∨ g = c ∨ g = d := by
  have h0 : zm_pig 4 4 [] = true := by decide +kernel
  have h1 := zm_pig_s h0 ha rfl
  have h2 := zm_pig_s h1 hb (zm_nin_c b1 rfl)
  have h3 := zm_pig_s h2 hc (zm_nin_c c2 (zm_nin_c c1 rfl))
  have h4 := zm_pig_s h3 hd (zm_nin_c d3 (zm_nin_c d2 (zm_nin_c d1 rfl)))
  rcases zm_nin_u (zm_pig_e h4 hg) with q | q
  · exact Or.inr (Or.inr (Or.inr q))
  rcases zm_nin_u q with q | q
  · exact Or.inr (Or.inr (Or.inl q))
  rcases zm_nin_u q with q | q
  · exact Or.inr (Or.inl q)
  rcases zm_nin_u q with q | q
  · exact Or.inl q
  · cases q
theorem zm_rv_rv {N : Nat} {G P : Nat → Nat → Nat} (h : zm_ok N G P) {t r : Nat} (hr : r < N - 1) (ht : t < N) : zm_rv G P (zm_rv G P t r) r = t := by
  obtain ⟨p1, p2⟩ := h.2.2 r t hr ht
  have hm := zm_mate_lt h.1 p1
  obtain ⟨-, g2⟩ := h.2.1 r _ hr hm
  unfold zm_rv
  rw [g2]
  have : zm_mate (zm_mate (P r t)) = P r t := by unfold zm_mate; split <;> split <;> omega
  rw [this]; exact p2
theorem zm_rv_ne {N : Nat} {G P : Nat → Nat → Nat} (h : zm_ok N G P) {t r : Nat} (hr : r < N - 1) (ht : t < N) : zm_rv G P t r ≠ t := by
  intro e
  obtain ⟨p1, p2⟩ := h.2.2 r t hr ht
  have hm := zm_mate_lt h.1 p1
  obtain ⟨-, g2⟩ := h.2.1 r _ hr hm
  unfold zm_rv at e
  rw [e] at g2
  unfold zm_mate at g2
  split at g2 <;> omega
theorem zm_back {N : Nat} {G P : Nat → Nat → Nat} (h : zm_ok N G P) {r s t : Nat} (hr : r < N - 1) (hs : s < N - 1) (ht : t < N) : ∃ m, 1 ≤ m ∧ m ≤ N / 2 ∧ zm_it G P r s t m = t := by
  obtain ⟨a, ha⟩ : ∃ a : Nat → Nat, a = fun x => zm_rv G P x r := ⟨_, rfl⟩
  obtain ⟨b, hb⟩ : ∃ b : Nat → Nat, b = fun x => zm_rv G P x s := ⟨_, rfl⟩
  have al : ∀ x, x < N → a x < N := fun x hx => by rw [ha]; exact zm_rv_lt h hr hx
  have bl : ∀ x, x < N → b x < N := fun x hx => by rw [hb]; exact zm_rv_lt h hs hx
  have aa : ∀ x, x < N → a (a x) = x := fun x hx => by rw [ha]; exact zm_rv_rv h hr hx
  have bb : ∀ x, x < N → b (b x) = x := fun x hx => by rw [hb]; exact zm_rv_rv h hs hx
  have an : ∀ x, x < N → a x ≠ x := fun x hx => by rw [ha]; exact zm_rv_ne h hr hx
  have bn : ∀ x, x < N → b x ≠ x := fun x hx => by rw [hb]; exact zm_rv_ne h hs hx
  have ai : ∀ x y, x < N → y < N → a x = a y → x = y := fun x y hx hy e => by rw [← aa x hx, ← aa y hy, e]
  have bi : ∀ x y, x < N → y < N → b x = b y → x = y := fun x y hx hy e => by rw [← bb x hx, ← bb y hy, e]
  have i1 : zm_it G P r s t 1 = b (a t) := by rw [ha, hb]; rfl
  have i2 : zm_it G P r s t 2 = b (a (b (a t))) := by rw [ha, hb]; rfl
  have i3 : zm_it G P r s t 3 = b (a (b (a (b (a t))))) := by rw [ha, hb]; rfl
  clear ha hb
  -- t, p1, x1, p2, x2, p3, x3
  obtain ⟨p1, e1⟩ : ∃ p, p = a t := ⟨_, rfl⟩
  rw [← e1] at i1 i2 i3
  obtain ⟨x1, e2⟩ : ∃ p, p = b p1 := ⟨_, rfl⟩
  rw [← e2] at i1 i2 i3
  obtain ⟨p2, e3⟩ : ∃ p, p = a x1 := ⟨_, rfl⟩
  rw [← e3] at i2 i3
  obtain ⟨x2, e4⟩ : ∃ p, p = b p2 := ⟨_, rfl⟩
  rw [← e4] at i2 i3
  obtain ⟨p3, e5⟩ : ∃ p, p = a x2 := ⟨_, rfl⟩
  rw [← e5] at i3
  obtain ⟨x3, e6⟩ : ∃ p, p = b p3 := ⟨_, rfl⟩
  rw [← e6] at i3
  have lp1 : p1 < N := e1 ▸ al _ ht
  have lx1 : x1 < N := e2 ▸ bl _ lp1
  have lp2 : p2 < N := e3 ▸ al _ lx1
  have lx2 : x2 < N := e4 ▸ bl _ lp2
  have lp3 : p3 < N := e5 ▸ al _ lx2
  have lx3 : x3 < N := e6 ▸ bl _ lp3
  have hN := h.1
  by_cases h1 : x1 = t
  · exact ⟨1, by omega, by omega, i1.trans h1⟩
  by_cases h2 : x2 = t
  · exact ⟨2, by omega, by omega, i2.trans h2⟩
  -- apart
  have q1 : p1 ≠ t := e1 ▸ an _ ht
  have q2 : x1 ≠ p1 := e2 ▸ bn _ lp1
  have q3 : p2 ≠ x1 := e3 ▸ an _ lx1
  have q4 : p2 ≠ p1 := fun e => h1 (ai _ _ lx1 ht (by rw [← e3, ← e1]; exact e))
  have q5 : p2 ≠ t := fun e => q2 (by rw [← aa x1 lx1, ← e3, e, e1])
  have q6 : x2 ≠ p2 := e4 ▸ bn _ lp2
  have q7 : x2 ≠ x1 := fun e => q4 (bi _ _ lp2 lp1 (by rw [← e4, ← e2]; exact e))
  have q8 : x2 ≠ p1 := fun e => q3 (by rw [← bb p2 lp2, ← e4, e, e2])
  rcases hN with hN | hN
  · subst hN
    rcases zm_pig4 t ht p1 lp1 q1 x1 lx1 h1 q2 p2 lp2 q5 q4 q3 x2 lx2 with e | e | e | e
    · exact absurd e h2
    · exact absurd e q8
    · exact absurd e q7
    · exact absurd e q6
  · subst hN
    have r1 : p3 ≠ x2 := e5 ▸ an _ lx2
    have r2 : p3 ≠ p2 := fun e => q7 (ai _ _ lx2 lx1 (by rw [← e5, ← e3]; exact e))
    have r3 : p3 ≠ p1 := fun e => h2 (ai _ _ lx2 ht (by rw [← e5, ← e1]; exact e))
    have r4 : p3 ≠ x1 := fun e => q6 (by rw [← aa x2 lx2, ← e5, e, ← e3])
    have r5 : p3 ≠ t := fun e => q8 (by rw [← aa x2 lx2, ← e5, e, ← e1])
    have s1 : x3 ≠ p3 := e6 ▸ bn _ lp3
    have s2 : x3 ≠ x2 := fun e => r2 (bi _ _ lp3 lp2 (by rw [← e6, ← e4]; exact e))
    have s3 : x3 ≠ x1 := fun e => r3 (bi _ _ lp3 lp1 (by rw [← e6, ← e2]; exact e))
    have s4 : x3 ≠ p2 := fun e => r1 (by rw [← bb p3 lp3, ← e6, e, ← e4])
    have s5 : x3 ≠ p1 := fun e => r4 (by rw [← bb p3 lp3, ← e6, e, ← e2])
    rcases zm_pig6 t ht p1 lp1 q1 x1 lx1 h1 q2 p2 lp2 q5 q4 q3 x2 lx2 h2 q8 q7 q6 p3 lp3 r5 r3 r4 r2 r1 x3 lx3 with e | e | e | e | e | e
    · exact ⟨3, by omega, by omega, i3.trans e⟩
    · exact absurd e s5
    · exact absurd e s3
    · exact absurd e s4
    · exact absurd e s2
    · exact absurd e s1
/-- .. so that the bounded count is the unbounded one -/
theorem zm_lpk_least {f : Nat → Nat} {t : Nat} : ∀ k m, (∀ j, m ≤ j → j < m + k → f j ≠ t) → zm_lpk f t k m = 2 * (m + k)
  | 0, m, _ => rfl
  | k + 1, m, h => by
    rw [zm_lpk, if_neg (h m (Nat.le_refl _) (by omega)), zm_lpk_least k (m + 1) (fun j h1 h2 => h j (by omega) (by omega))]
    congr 1; omega
theorem zm_lpk_at {f : Nat → Nat} {t x : Nat} (hx : f x = t) : ∀ k m, m ≤ x → x < m + k + 1 → (∀ j, m ≤ j → j < x → f j ≠ t) → zm_lpk f t k m = 2 * x
  | 0, m, h1, h2, _ => by obtain rfl : x = m := by omega
                          rfl
  | k + 1, m, h1, h2, h => by
    by_cases e : m = x
    · subst e; exact zm_lpk_hit hx
    · rw [zm_lpk, if_neg (h m (Nat.le_refl _) (by omega))]
      exact zm_lpk_at hx k (m + 1) (by omega) (by omega) (fun j h3 h4 => h j (by omega) h4)
theorem zm_loop_x {N : Nat} {G P : Nat → Nat → Nat} {r s t x : Nat} (h1 : 1 ≤ x) (h2 : x ≤ N / 2) (hx : zm_it G P r s t x = t) (h : ∀ j, 1 ≤ j → j < x → zm_it G P r s t j ≠ t) : zm_loop N G P r s t = 2 * x :=
  zm_lpk_at hx _ _ h1 (by omega) h
theorem zm_loop_in {N : Nat} {G P : Nat → Nat → Nat} (h : zm_ok N G P) {r s t m : Nat} (hr : r < N - 1) (hs : s < N - 1) (ht : t < N) (hm : ∀ j, 1 ≤ j → j ≤ m → zm_it G P r s t j ≠ t) : m < N / 2 := by
  obtain ⟨x, x1, x2, x3⟩ := zm_back h hr hs ht
  rcases Nat.lt_or_ge m x with q | q
  · omega
  · exact absurd x3 (hm x x1 q)
