/-! sums turned about -/
theorem zm_sum_congr {f g : Nat → Nat} : ∀ n, (∀ i, i < n → f i = g i) → zm_sum f n = zm_sum g n
  | 0, _ => rfl
  | n + 1, h => by rw [zm_sum, zm_sum, zm_sum_congr n (fun i hi => h i (by omega)), h n (by omega)]
theorem zm_sum_add (f g : Nat → Nat) : ∀ n, zm_sum (fun i => f i + g i) n = zm_sum f n + zm_sum g n
  | 0 => rfl
  | n + 1 => by rw [zm_sum, zm_sum, zm_sum, zm_sum_add f g n]; omega
theorem zm_sum_z : ∀ n, zm_sum (fun _ => 0) n = 0
  | 0 => rfl
  | n + 1 => by rw [zm_sum, zm_sum_z n]
theorem zm_sum_swap (f : Nat → Nat → Nat) (m : Nat) : ∀ n, zm_sum (fun i => zm_sum (f i) m) n = zm_sum (fun j => zm_sum (fun i => f i j) n) m
  | 0 => by show 0 = _; exact (zm_sum_z m).symm
  | n + 1 => by
    rw [zm_sum, zm_sum_swap f m n]
    exact (zm_sum_add _ _ m).symm
theorem zm_sum_one {v : Nat → Nat} {a : Nat} : ∀ n, zm_sum (fun k => if a = k then v k else 0) n = if a < n then v a else 0
  | 0 => by rw [if_neg (by omega)]; rfl
  | n + 1 => by
    rw [zm_sum, zm_sum_one n]
    by_cases h : a = n
    · subst h; rw [if_neg (by omega), if_pos rfl, if_pos (by omega)]; omega
    · rw [if_neg h]
      by_cases h2 : a < n
      · rw [if_pos h2, if_pos (by omega)]; rfl
      · rw [if_neg h2, if_neg (by omega)]
theorem zm_sum_perm {N : Nat} {G P : Nat → Nat → Nat} (hok : zm_ok N G P) {r : Nat} (hr : r < N - 1) (h : Nat → Nat) : zm_sum h N = zm_sum (fun k => h (G r k)) N := by
  have e1 : zm_sum h N = zm_sum (fun t => zm_sum (fun k => if P r t = k then h (G r k) else 0) N) N := by
    refine zm_sum_congr N (fun t ht => ?_)
    obtain ⟨a1, a2⟩ := hok.2.2 r t hr ht
    rw [zm_sum_one (v := fun k => h (G r k)), if_pos a1]
    show h t = h (G r (P r t)); rw [a2]
  rw [e1, zm_sum_swap]
  refine zm_sum_congr N (fun k hk => ?_)
  obtain ⟨b1, b2⟩ := hok.2.1 r k hr hk
  have e2 : zm_sum (fun t => if P r t = k then h (G r k) else 0) N = zm_sum (fun t => if G r k = t then h (G r k) else 0) N := by
    refine zm_sum_congr N (fun t ht => ?_)
    obtain ⟨a1, a2⟩ := hok.2.2 r t hr ht
    by_cases e : P r t = k
    · rw [if_pos e, if_pos (by rw [← e]; exact a2)]
    · rw [if_neg e, if_neg (fun q => e (by rw [← q]; exact b2))]
  rw [e2, zm_sum_one (v := fun _ => h (G r k)), if_pos b1]
theorem zm_sum_half (f : Nat → Nat) (hf : ∀ k, k % 2 = 1 → f k = 0) : ∀ n, zm_sum f (2 * n) = zm_sum (fun k => f (2 * k)) n
  | 0 => rfl
  | n + 1 => by
    rw [show 2 * (n + 1) = 2 * n + 1 + 1 from by omega, zm_sum, zm_sum, zm_sum_half f hf n, hf (2 * n + 1) (by omega), zm_sum]; rfl
theorem zm_vio_eq5 {N : Nat} {G P B : Nat → Nat → Nat} (hok : zm_ok N G P) (hB : ∀ t r, t < 6 → r < 5 → B t r < 2) : zm_vio2 N P B = zm_vio N G B := by
  have hN := hok.1
  unfold zm_vio2 zm_vio zm_v2r
  rw [zm_sum_swap (zm_v2f P B) (N - 1) N]
  refine zm_sum_congr (N - 1) (fun r hr => ?_)
  rw [zm_sum_perm hok hr (fun t => zm_v2f P B t r)]
  have e : zm_sum (fun k => zm_v2f P B (G r k) r) N = zm_sum (fun k => if k % 2 = 0 then B (G r k) r else 0) N := by
    refine zm_sum_congr N (fun k hk => ?_)
    obtain ⟨b1, b2⟩ := hok.2.1 r k hr hk
    have hb := hB (G r k) r (by omega) (by omega)
    show zm_v2f P B (G r k) r = _
    unfold zm_v2f zm_sd
    rw [b2]
    by_cases h : k % 2 = 0
    · rw [if_pos h]
      by_cases h2 : B (G r k) r = 1
      · rw [if_pos ⟨h2, by omega⟩, h2]
      · rw [if_neg (fun q => h2 q.1)]; omega
    · rw [if_neg h, if_neg (fun q => by omega)]
  rw [e]
  obtain ⟨m, hm⟩ : ∃ m, N = 2 * m := ⟨N / 2, by omega⟩
  rw [hm, zm_sum_half _ (fun k hk => if_neg (by omega)) m]
  show _ = zm_vr (2 * m) G B r
  unfold zm_vr
  rw [show 2 * m / 2 = m from by omega]
  refine zm_sum_congr m (fun k hk => ?_)
  show (if 2 * k % 2 = 0 then B (G r (2 * k)) r else 0) = zm_vf G B r k
  rw [if_pos (by omega)]; rfl
theorem zm_vio_le5 {N : Nat} {G B P : Nat → Nat → Nat} (hok : zm_ok N G P) (hB : ∀ t r, t < 6 → r < 5 → B t r < 2) : zm_vio N G B ≤ 36 := by
  have hN := hok.1
  have h1 := zm_sum_leN (f := zm_vr N G B) (b := 3) (N - 1) (fun r hr => by
    have h2 := zm_sum_leN (f := zm_vf G B r) (b := 1) (N / 2) (fun k hk => by
      have h3 := hB (G r (2 * k)) r (by have := zm_G_lt hok hr (k := 2 * k) (by omega); omega) (by omega)
      unfold zm_vf; omega)
    unfold zm_vr; omega)
  unfold zm_vio; omega
/-- the team most worn, of those up to a number -/
def zf_most (u : Nat → UInt32) : Nat → Nat | 0 => 0 | i + 1 => if Op.cmpValue (FP.fcmp (u (i + 1)) (u (zf_most u i))) CmpOp.l ≤ 0 then zf_most u i else i + 1
theorem zf_most_le (u : Nat → UInt32) : ∀ i, zf_most u i ≤ i
  | 0 => Nat.le_refl _
  | i + 1 => by
    have := zf_most_le u i
    rw [zf_most]; split <;> omega
/-- a step: the first of what may be done by which the cost is least, if that is less; the state is the least cost and two numbers -/
def zb_one (c : UInt32) (a b : Int32) (s : UInt32 × Int32 × Int32) : UInt32 × Int32 × Int32 := if 0 ≤ Op.cmpValue (FP.fcmp c s.1) CmpOp.g then s else (c, a, b)
def zb_in (f : Nat → UInt32) (a : Nat) : Nat → Nat → UInt32 × Int32 × Int32 → UInt32 × Int32 × Int32 | 0, _, s => s | k + 1, b, s => zb_in f a k (b + 1) (zb_one (f b) (nI a) (nI b) s)
def zb_out (f : Nat → Nat → UInt32) (first last : Nat → Nat) : Nat → Nat → UInt32 × Int32 × Int32 → UInt32 × Int32 × Int32 | 0, _, s => s | k + 1, a, s => zb_out f first last k (a + 1) (zb_in (f a) a (last a - first a) (first a) s)
