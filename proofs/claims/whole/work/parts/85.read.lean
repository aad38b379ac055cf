/-! the whole reading -/
theorem zx_w8 {w : Nat} (h : w < 8) : w = 0 ∨ w = 1 ∨ w = 2 ∨ w = 3 ∨ w = 4 ∨ w = 5 ∨ w = 6 ∨ w = 7 := by omega
theorem zx_cF_cw {T : Nat → Nat} {L p : Nat} (h : zx_cF T L p = none) : zx_cw T L p < 8 := by
  have h1 := zx_cw_le (T := T) (L := L) (p := p)
  by_cases e : zx_cw T L p = 8
  · unfold zx_cF at h; rw [if_pos e] at h; cases h
  · omega
theorem zx_pf_cw {T : Nat → Nat} {L : Nat} : ∀ k n, zx_pf T L k (zx_ps T L n) n = none → ∀ j, n ≤ j → j < zx_pc T L k (zx_ps T L n) n → zx_cw T L (zx_ps T L j) < 8
  | 0, n, h, j, h1, h2 => by cases h
  | k + 1, n, h, j, h1, h2 => by
    cases hc : zx_cF T L (zx_ps T L n) with
    | some f => rw [zx_pf, hc] at h; cases h
    | none =>
      rw [zx_pf, hc] at h
      rw [zx_pc, hc] at h2
      by_cases hj : j = n
      · rw [hj]; exact zx_cF_cw hc
      · by_cases hl : L ≤ zx_cP T L (zx_ps T L n)
        · have h2 : j < if L ≤ zx_cP T L (zx_ps T L n) then n + 1 else zx_pc T L k (zx_cP T L (zx_ps T L n) + 1) (n + 1) := h2
          rw [if_pos hl] at h2; omega
        · have h : (if L ≤ zx_cP T L (zx_ps T L n) then none else if (zx_at T L (zx_cP T L (zx_ps T L n)) 59 && decide (n + 1 < 12)) = true then zx_pf T L k (zx_cP T L (zx_ps T L n) + 1) (n + 1) else some (zx_cP T L (zx_ps T L n))) = none := h
          have h2 : j < if L ≤ zx_cP T L (zx_ps T L n) then n + 1 else zx_pc T L k (zx_cP T L (zx_ps T L n) + 1) (n + 1) := h2
          rw [if_neg hl] at h h2
          split at h
          · exact zx_pf_cw k (n + 1) h j (by omega) h2
          · cases h
theorem zx_pf_le {T : Nat → Nat} {L f : Nat} : ∀ k p n, p ≤ L → zx_pf T L k p n = some f → f ≤ L
  | 0, p, n, hp, h => by cases h; exact hp
  | k + 1, p, n, hp, h => by
    cases hc : zx_cF T L p with
    | some g => rw [zx_pf, hc] at h; cases h; exact zx_cF_le hp hc
    | none =>
      rw [zx_pf, hc] at h
      have hq := zx_cP_le hp hc
      have h : (if L ≤ zx_cP T L p then none else if (zx_at T L (zx_cP T L p) 59 && decide (n + 1 < 12)) = true then zx_pf T L k (zx_cP T L p + 1) (n + 1) else some (zx_cP T L p)) = some f := h
      split at h
      · cases h
      · split at h
        · rename_i e; have := (zx_at_x ((Bool.and_eq_true _ _).mp e).1).1; exact zx_pf_le k _ _ (by omega) h
        · cases h; exact hq
/-- where the reference's reading stands behind clause i -/
def zx_D (T : Nat → Nat) (L i hp : Nat) (fa : Int32) (cl : Nat) (wd nu : Nat → Int32) : Prop := (∃ f : Nat, f ≤ L ∧ fa = nI f ∧ zx_pf T L 12 0 0 = some f) ∨ (fa = -1 ∧ zx_cF T L (zx_ps T L i) = none ∧ hp = zx_cP T L (zx_ps T L i) ∧ zx_cP T L (zx_ps T L i) ≤ L ∧ cl = i + 1 ∧ zx_mrow T L (i + 1) wd nu ∧ zx_pf T L 12 0 0 = zx_pf T L (12 - i) (zx_ps T L i) i ∧ zx_pc T L 12 0 0 = zx_pc T L (12 - i) (zx_ps T L i) i)
theorem zx_D_i {T : Nat → Nat} {L i hp cl : Nat} {fa : Int32} {wd nu wdn nun : Nat → Int32} (hi : i < 12) (hle : zx_ps T L i ≤ L) (hI : zx_pf T L 12 0 0 = zx_pf T L (12 - i) (zx_ps T L i) i) (hJ : zx_pc T L 12 0 0 = zx_pc T L (12 - i) (zx_ps T L i) i) (hrow : zx_mrow T L i wd nu) (hfa : fa = zx_fz (zx_cF T L (zx_ps T L i))) (hok : zx_cF T L (zx_ps T L i) = none → hp = zx_cP T L (zx_ps T L i) ∧ cl = i + 1 ∧ zx_mput T L (zx_ps T L i) i wd wdn nu nun) : zx_D T L i hp fa cl wdn nun := by
  cases hc : zx_cF T L (zx_ps T L i) with
  | some f => rw [hc] at hfa; exact Or.inl ⟨f, zx_cF_le hle hc, hfa, hI.trans (zx_pf_s hi hc)⟩
  | none =>
    obtain ⟨h1, h2, h3⟩ := hok hc
    rw [hc] at hfa
    exact Or.inr ⟨hfa, hc, h1, zx_cP_le hle hc, h2, zx_mrow_s hrow h3, hI, hJ⟩
theorem zx_D_s {T : Nat → Nat} {L i hp cl : Nat} {fa : Int32} {wd nu wdn nun : Nat → Int32} (hi : i + 1 < 12) (hI1 : zx_pf T L 12 0 0 = if L ≤ zx_cP T L (zx_ps T L i) then none else if (zx_at T L (zx_cP T L (zx_ps T L i)) 59 && decide (i + 1 < 12)) = true then zx_pf T L (12 - (i + 1)) (zx_cP T L (zx_ps T L i) + 1) (i + 1) else some (zx_cP T L (zx_ps T L i))) (hJ1 : zx_pc T L 12 0 0 = if L ≤ zx_cP T L (zx_ps T L i) then i + 1 else zx_pc T L (12 - (i + 1)) (zx_cP T L (zx_ps T L i) + 1) (i + 1)) (h59 : zx_at T L (zx_cP T L (zx_ps T L i)) 59 = true) (hrow : zx_mrow T L (i + 1) wd nu)
    (hfa : fa = zx_fz (zx_cF T L (zx_cP T L (zx_ps T L i) + 1))) (hok : zx_cF T L (zx_cP T L (zx_ps T L i) + 1) = none → hp = zx_cP T L (zx_cP T L (zx_ps T L i) + 1) ∧ cl = i + 1 + 1 ∧ zx_mput T L (zx_cP T L (zx_ps T L i) + 1) (i + 1) wd wdn nu nun) : zx_D T L (i + 1) hp fa cl wdn nun := by
  have h1 := (zx_at_x h59).1
  rw [if_neg (by omega), h59, decide_eq_true hi] at hI1
  rw [if_neg (by omega)] at hJ1
  exact zx_D_i hi h1 hI1 hJ1 hrow hfa hok
