/-! the reference's words: where each begins in its row of names -/
def zx_bg (w : Nat) : Nat := [0, 6, 11, 16, 21, 25, 30, 35].getD w 38
theorem zx_bgE : ∀ w, w < 8 → zc_ix 12 32 (38 - zx_bg w) (zx_bg w) = nI (zx_bg w + zc_len.getD w 0) ∧ zx_bg w < 38 ∧ zx_bg w + zc_len.getD w 0 < 38 ∧ zx_bg (w + 1) = zx_bg w + zc_len.getD w 0 + 1 := by decide +kernel
theorem zx_bgC : ∀ w, w < 8 → ∀ k, k < zc_len.getD w 0 → zc_ch 12 (zx_bg w + k) = zc_ch w k := by decide +kernel
theorem zx_fl_c {T : Nat → Nat} {L z p : Nat} {zs : List Nat} : zx_fl T L (z :: zs) p = match zx_fl T L [z] p with | some f => some f | none => zx_fl T L zs (zx_np T L z (p + 1)) := by
  rw [zx_fl, zx_fl]
  cases h1 : zx_at T L p 32 with
  | false => rw [if_pos rfl, if_pos rfl]
  | true =>
    rw [if_neg (show ¬ (true = false) from Bool.noConfusion), if_neg (show ¬ (true = false) from Bool.noConfusion)]
    cases h2 : zx_dig T L (p + 1) with
    | false => rw [if_pos rfl, if_pos rfl]
    | true => rw [if_neg (show ¬ (true = false) from Bool.noConfusion), if_neg (show ¬ (true = false) from Bool.noConfusion)]; rfl
theorem zx_fl_cs {T : Nat → Nat} {L z p f : Nat} {zs : List Nat} (h : zx_fl T L [z] p = some f) : zx_fl T L (z :: zs) p = some f := by rw [zx_fl_c, h]
theorem zx_fl_cn {T : Nat → Nat} {L z p : Nat} {zs : List Nat} (h : zx_fl T L [z] p = none) : zx_fl T L (z :: zs) p = zx_fl T L zs (zx_np T L z (p + 1)) := by rw [zx_fl_c, h]
theorem zx_fl1_f1 {T : Nat → Nat} {L z p : Nat} (h : zx_at T L p 32 = false) : zx_fl T L [z] p = some p := by rw [zx_fl, if_pos h]
theorem zx_fl1_f2 {T : Nat → Nat} {L z p : Nat} (h : zx_at T L p 32 = true) (h2 : zx_dig T L (p + 1) = false) : zx_fl T L [z] p = some (p + 1) := by rw [zx_fl, h, if_neg (show ¬ (true = false) from Bool.noConfusion), if_pos h2]
theorem zx_fl1_n {T : Nat → Nat} {L z p : Nat} (h : zx_at T L p 32 = true) (h2 : zx_dig T L (p + 1) = true) : zx_fl T L [z] p = none := by rw [zx_fl, h, h2, if_neg (show ¬ (true = false) from Bool.noConfusion), if_neg (show ¬ (true = false) from Bool.noConfusion)]; rfl
/-- what the reference's reading of one number answers -/
def zx_n1 (T : Nat → Nat) (L z p : Nat) (zv fan : Int32) (pn : Nat) : Prop := pn ≤ L ∧ ((zx_fl T L [z] p = none ∧ fan = -1 ∧ zv = nI (zx_nv T L z (p + 1)) ∧ pn = zx_np T L z (p + 1)) ∨ ∃ f : Nat, f ≤ L ∧ zx_fl T L [z] p = some f ∧ fan = nI f ∧ zv = nI 0)
/-- the reference's rows of clauses -/
def zx_mrow (T : Nat → Nat) (L k : Nat) (wd nu : Nat → Int32) : Prop := ∀ i, i < k → wd i = nI (zx_cw T L (zx_ps T L i)) ∧ zx_cw T L (zx_ps T L i) < 8 ∧ ∀ j, j < (zx_fw (zx_cw T L (zx_ps T L i))).length → nu (3 * i + j) = nI (zx_cN T L (zx_ps T L i) j)
def zx_mput (T : Nat → Nat) (L p n : Nat) (wd wdn nu nun : Nat → Int32) : Prop := (∀ j, j ≠ n → wdn j = wd j) ∧ wdn n = nI (zx_cw T L p) ∧ zx_cw T L p < 8 ∧ (∀ j, j < 3 * n → nun j = nu j) ∧ ∀ j, j < (zx_fw (zx_cw T L p)).length → nun (3 * n + j) = nI (zx_cN T L p j)
theorem zx_mrow_s {T : Nat → Nat} {L n : Nat} {wd wdn nu nun : Nat → Int32} (h : zx_mrow T L n wd nu) (h2 : zx_mput T L (zx_ps T L n) n wd wdn nu nun) : zx_mrow T L (n + 1) wdn nun := fun i hi => by
  obtain ⟨b1, b2, b3, b4, b5⟩ := h2
  rcases Nat.lt_or_ge i n with q | q
  · obtain ⟨a1, a2, a3⟩ := h i q
    refine ⟨(b1 _ (by omega)).trans a1, a2, fun j hj => ?_⟩
    have hl := (zx_fwE _ a2).2.1
    exact (b4 _ (by omega)).trans (a3 j hj)
  · obtain rfl : i = n := by omega
    exact ⟨b2, b3, b5⟩
theorem zx_m1 {a : Nat} (h : a < 2 ^ 31) : ¬ -1 = nI a := fun e => by
  have := nI_toInt h
  rw [← e, show (-1 : Int32).toInt = -1 from by decide] at this; omega
theorem zx_n_ge {a b : Nat} (h : ¬ nI a < nI b) (ha : a < 2 ^ 31 := by omega) (hb : b < 2 ^ 31 := by omega) : b ≤ a := Nat.le_of_not_lt (fun q => h ((nI_ltI ha hb).mpr q))
theorem zx_n_le {a b : Nat} (h : ¬ nI b < nI a) (ha : a < 2 ^ 31 := by omega) (hb : b < 2 ^ 31 := by omega) : a ≤ b := Nat.le_of_not_lt (fun q => h ((nI_ltI hb ha).mpr q))
theorem zx_n_no {a b c : Nat} (h : nI a < nI b ∨ nI c < nI a) (h1 : b ≤ a) (h2 : a ≤ c) (ha : a < 2 ^ 31 := by omega) (hb : b < 2 ^ 31 := by omega) (hc : c < 2 ^ 31 := by omega) : False := by
  rcases h with h | h
  · have := (nI_ltI ha hb).mp h; omega
  · have := (nI_ltI hc ha).mp h; omega
theorem zx_b1 {a b : Bool} {n : Nat} (h : n = (a && b).toNat) (h1 : n = 1) : a = true ∧ b = true := by
  cases a <;> cases b <;> simp_all
theorem zx_eq_m {w s : Nat} {T : Nat → Nat} : ∀ k, zx_eq w T s k = false → ∀ n, k ≤ n → zx_eq w T s n = false
  | k, h, 0, hn => by obtain rfl : k = 0 := by omega
                      exact h
  | k, h, n + 1, hn => by
    by_cases e : k = n + 1
    · rw [← e]; exact h
    · rw [zx_eq, zx_eq_m k h n (by omega), Bool.false_and]
theorem zx_st_b {w s e k b : Nat} {T : Nat → Nat} (hB : b = (decide (zc_len.getD w 0 = e - s) && zx_eq w T s k).toNat) (hk : k ≤ e - s) (h : b = 0 ∨ k = e - s) : zx_st w T s e = decide (b = 1) := by
  unfold zx_st
  by_cases hl : zc_len.getD w 0 = e - s
  · rw [decide_eq_true hl, Bool.true_and] at hB ⊢
    cases hq : zx_eq w T s k with
    | false => rw [hq] at hB; rw [zx_eq_m k hq _ (by omega), show b = 0 from hB]; rfl
    | true =>
      rw [hq] at hB
      have hb : b = 1 := hB
      rw [hb, hl, ← Or.resolve_left h (by omega), hq]; rfl
  · rw [decide_eq_false hl, Bool.false_and] at hB ⊢
    rw [show b = 0 from hB]; rfl
