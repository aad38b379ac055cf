/-! how a text is read: T the signs, L how many -/
def zx_sg (T : Nat → Nat) (L p : Nat) : Int32 := if p < L then nI (T p) else -1
theorem zx_sg_t {T : Nat → Nat} {L p : Nat} (h : p < L) : zx_sg T L p = nI (T p) := if_pos h
theorem zx_sg_f {T : Nat → Nat} {L p : Nat} (h : L ≤ p) : zx_sg T L p = -1 := if_neg (by omega)
def zx_let (T : Nat → Nat) (L p : Nat) : Bool := decide (p < L) && (decide (97 ≤ T p) && decide (T p ≤ 122))
def zx_dig (T : Nat → Nat) (L p : Nat) : Bool := decide (p < L) && (decide (48 ≤ T p) && decide (T p ≤ 57))
def zx_at (T : Nat → Nat) (L p c : Nat) : Bool := decide (p < L) && decide (T p = c)
theorem zx_in_t {T : Nat → Nat} {L p a b : Nat} (h : p < L) (h1 : a ≤ T p) (h2 : T p ≤ b) : (decide (p < L) && (decide (a ≤ T p) && decide (T p ≤ b))) = true := by rw [decide_eq_true h, decide_eq_true h1, decide_eq_true h2]; rfl
theorem zx_in_f {T : Nat → Nat} {L p a b : Nat} (h : ¬ (p < L ∧ a ≤ T p ∧ T p ≤ b)) : (decide (p < L) && (decide (a ≤ T p) && decide (T p ≤ b))) = false := by
  by_cases h1 : p < L
  · by_cases h2 : a ≤ T p
    · rw [decide_eq_false (p := T p ≤ b) (fun q => h ⟨h1, h2, q⟩), Bool.and_false, Bool.and_false]
    · rw [decide_eq_false h2, Bool.false_and, Bool.and_false]
  · rw [decide_eq_false h1]; rfl
theorem zx_in_x {T : Nat → Nat} {L p a b : Nat} (h : (decide (p < L) && (decide (a ≤ T p) && decide (T p ≤ b))) = true) : p < L ∧ a ≤ T p ∧ T p ≤ b := by
  rw [Bool.and_eq_true, Bool.and_eq_true] at h
  exact ⟨of_decide_eq_true h.1, of_decide_eq_true h.2.1, of_decide_eq_true h.2.2⟩
theorem zx_at_t {T : Nat → Nat} {L p c : Nat} (h : p < L) (h1 : T p = c) : zx_at T L p c = true := by unfold zx_at; rw [decide_eq_true h, decide_eq_true h1]; rfl
theorem zx_at_f {T : Nat → Nat} {L p c : Nat} (h : ¬ (p < L ∧ T p = c)) : zx_at T L p c = false := by
  unfold zx_at
  by_cases h1 : p < L
  · rw [decide_eq_false (p := T p = c) (fun q => h ⟨h1, q⟩), Bool.and_false]
  · rw [decide_eq_false h1]; rfl
theorem zx_at_x {T : Nat → Nat} {L p c : Nat} (h : zx_at T L p c = true) : p < L ∧ T p = c := by
  unfold zx_at at h; rw [Bool.and_eq_true] at h
  exact ⟨of_decide_eq_true h.1, of_decide_eq_true h.2⟩
/-- behind the letters -/
def zx_we (T : Nat → Nat) (L : Nat) : Nat → Nat → Nat | 0, p => p | k + 1, p => if zx_let T L p = true then zx_we T L k (p + 1) else p
theorem zx_we_ge {T : Nat → Nat} {L : Nat} : ∀ k p, p ≤ zx_we T L k p
  | 0, p => Nat.le_refl _
  | k + 1, p => by rw [zx_we]; split; exact Nat.le_trans (Nat.le_succ p) (zx_we_ge k (p + 1)); exact Nat.le_refl _
theorem zx_we_le {T : Nat → Nat} {L : Nat} : ∀ k p, p ≤ L → zx_we T L k p ≤ L
  | 0, p, h => h
  | k + 1, p, h => by
    rw [zx_we]; split
    · rename_i e; exact zx_we_le k (p + 1) (zx_in_x e).1
    · exact h
theorem zx_we_s {T : Nat → Nat} {L i p : Nat} (hi : i < 100) (h : zx_let T L p = true) : zx_we T L (100 - i) p = zx_we T L (100 - (i + 1)) (p + 1) := by rw [show 100 - i = (100 - (i + 1)) + 1 from by omega, zx_we, if_pos h]
theorem zx_we_e {T : Nat → Nat} {L k p : Nat} (h : zx_let T L p = false) : zx_we T L k p = p := by
  cases k with
  | zero => rfl
  | succ k => rw [zx_we, h]; rfl
/-- does constant i stand at s .. e -/
def zx_eq (i : Nat) (T : Nat → Nat) (s : Nat) : Nat → Bool | 0 => true | k + 1 => zx_eq i T s k && decide (zc_ch i k = T (s + k))
theorem zx_eq_f {i s j : Nat} {T : Nat → Nat} (h : ¬ zc_ch i j = T (s + j)) : ∀ n, j < n → zx_eq i T s n = false
  | 0, hj => absurd hj (Nat.not_lt_zero _)
  | n + 1, hj => by
    rw [zx_eq]
    by_cases e : j = n
    · rw [← e, decide_eq_false h, Bool.and_false]
    · rw [zx_eq_f h n (by omega), Bool.false_and]
def zx_st (i : Nat) (T : Nat → Nat) (s e : Nat) : Bool := decide (zc_len.getD i 0 = e - s) && zx_eq i T s (zc_len.getD i 0)
/-- which word, from i on; 8: none -/
def zx_wf (T : Nat → Nat) (s e : Nat) : Nat → Nat → Nat | 0, _ => 8 | k + 1, i => if zx_st i T s e = true then i else zx_wf T s e k (i + 1)
def zx_wi (T : Nat → Nat) (s e : Nat) : Nat := zx_wf T s e 8 0
theorem zx_wf_s {T : Nat → Nat} {s e i : Nat} (hi : i < 8) : zx_wf T s e (8 - i) i = if zx_st i T s e = true then i else zx_wf T s e (8 - (i + 1)) (i + 1) := by rw [show 8 - i = (8 - (i + 1)) + 1 from by omega, zx_wf]
theorem zx_wf_le {T : Nat → Nat} {s e : Nat} : ∀ k i, i + k = 8 → zx_wf T s e k i ≤ 8
  | 0, i, h => Nat.le_refl _
  | k + 1, i, h => by rw [zx_wf]; split; omega; exact zx_wf_le k (i + 1) (by omega)
def zx_wz (w : Nat) : Int32 := if w < 8 then nI w else -1
/-- numbers: z 1: two digits may stand -/
def zx_two (T : Nat → Nat) (L z p : Nat) : Bool := decide (z = 1) && zx_dig T L (p + 1)
def zx_nv (T : Nat → Nat) (L z p : Nat) : Nat := cond (zx_two T L z p) (10 * (T p - 48) + (T (p + 1) - 48)) (T p - 48)
def zx_np (T : Nat → Nat) (L z p : Nat) : Nat := cond (zx_two T L z p) (p + 2) (p + 1)
def zx_fw (w : Nat) : List Nat := [[0], [0, 0], [0, 0], [0, 0], [0, 0], [0, 1], [0], [0, 1, 1]].getD w []
def zx_fl (T : Nat → Nat) (L : Nat) : List Nat → Nat → Option Nat | [], _ => none | z :: zs, p => if zx_at T L p 32 = false then some p else if zx_dig T L (p + 1) = false then some (p + 1) else zx_fl T L zs (zx_np T L z (p + 1))
def zx_pl (T : Nat → Nat) (L : Nat) : List Nat → Nat → Nat | [], p => p | z :: zs, p => zx_pl T L zs (zx_np T L z (p + 1))
def zx_nb (T : Nat → Nat) (L : Nat) : List Nat → Nat → Nat → Nat | [], _, _ => 0 | z :: _, p, 0 => zx_nv T L z (p + 1) | z :: zs, p, j + 1 => zx_nb T L zs (zx_np T L z (p + 1)) j
theorem zx_fwE : ∀ w, w < 8 → zc_len.getD (zc_nu w) 0 = (zx_fw w).length ∧ (zx_fw w).length ≤ 3 ∧ zc_nu w < zc_n := by decide +kernel
theorem zx_fwD : ∀ w, w < 8 → ∀ i, i < (zx_fw w).length → (zx_fw w).drop i = (if zc_ch (zc_nu w) i = 50 then 1 else 0) :: (zx_fw w).drop (i + 1) := by decide +kernel
/-- a clause that begins at p: which word, its FAULT, what is behind it, its numbers -/
def zx_cw (T : Nat → Nat) (L p : Nat) : Nat := zx_wi T p (zx_we T L 100 p)
def zx_cF (T : Nat → Nat) (L p : Nat) : Option Nat := if zx_cw T L p = 8 then some p else zx_fl T L (zx_fw (zx_cw T L p)) (zx_we T L 100 p)
def zx_cP (T : Nat → Nat) (L p : Nat) : Nat := zx_pl T L (zx_fw (zx_cw T L p)) (zx_we T L 100 p)
def zx_cN (T : Nat → Nat) (L p j : Nat) : Nat := zx_nb T L (zx_fw (zx_cw T L p)) (zx_we T L 100 p) j
def zx_fz : Option Nat → Int32 | none => -1 | some f => nI f
/-- the text: its FAULT; where clause k begins; how many there are -/
def zx_pf (T : Nat → Nat) (L : Nat) : Nat → Nat → Nat → Option Nat | 0, p, _ => some p | k + 1, p, n => match zx_cF T L p with
  | some f => some f
  | none => if L ≤ zx_cP T L p then none else if zx_at T L (zx_cP T L p) 59 && decide (n + 1 < 12) then zx_pf T L k (zx_cP T L p + 1) (n + 1) else some (zx_cP T L p)
def zx_ps (T : Nat → Nat) (L : Nat) : Nat → Nat | 0 => 0 | k + 1 => zx_cP T L (zx_ps T L k) + 1
def zx_pc (T : Nat → Nat) (L : Nat) : Nat → Nat → Nat → Nat | 0, _, n => n | k + 1, p, n => match zx_cF T L p with
  | some _ => n
  | none => if L ≤ zx_cP T L p then n + 1 else zx_pc T L k (zx_cP T L p + 1) (n + 1)
/-- rows of clauses: k of them -/
def zx_row (T : Nat → Nat) (L k : Nat) (cc : Nat → Int32) : Prop := ∀ i, i < k → cc (i * 4) = nI (zx_cw T L (zx_ps T L i)) ∧ cc (i * 4 + 1) = nI (zx_cN T L (zx_ps T L i) 0) ∧ cc (i * 4 + 2) = nI (zx_cN T L (zx_ps T L i) 1) ∧ cc (i * 4 + 3) = nI (zx_cN T L (zx_ps T L i) 2)
