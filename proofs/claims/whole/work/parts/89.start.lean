/-! THE START: what both sides hold behind their constructors -/
def zl_R : Nat → Nat := fun k => if k = 0 then 10 else if k = 1 then 50 else if k = 2 then 1 else 0
theorem zl_lt4 {k : Nat} (h : k < 4) : k = 0 ∨ k = 1 ∨ k = 2 ∨ k = 3 := by omega
theorem zl_rt0 : zm_rt zl_R zi_rt := by
  intro k hk
  rcases zl_lt4 hk with rfl | rfl | rfl | rfl <;> exact ⟨by decide, by rfl⟩
theorem zl_gr0 : zm_gr (fun _ => 0) (fun _ => 0) (fun _ => 0) (fun _ => 0) := fun t ht => ⟨Nat.zero_le _, Nat.zero_le _, rfl, rfl⟩
theorem zl_bz0 : zm_bz (fun _ _ => 0) (fun _ => 0) := fun r t hr ht => ⟨Nat.zero_lt_two, rfl⟩
theorem zl_zs0 {sT sR sH eW eN bT bN : Nat → Nat} : zs_all 4 0 0 sT sR sH 0 eW eN 0 bT bN :=
  ⟨by decide, ⟨by decide, fun k h => absurd h (Nat.not_lt_zero k)⟩, ⟨by decide, fun k h => absurd h (Nat.not_lt_zero k)⟩, ⟨by decide, fun k h => absurd h (Nat.not_lt_zero k)⟩⟩
theorem zl_w0 {x : Nat} (h : x ≠ 5) (h2 : x ≠ 6) (h3 : x ≠ 7) : zi_w0 x = 0 := by
  unfold zi_w0 upd
  simp [h, h2, h3]
theorem zl_va0 {sT sR sH eW eN bT bN : Nat → Nat} {wv : Nat → Int32} (h : zv_cl 4 zi_w0 wv) : zv_all 4 (zm_ciG 4) (zm_ciP 4) (fun _ => 0) (fun _ => 0) (fun _ _ => 0) zl_R 0 0 sT sR sH 0 eW eN 0 bT bN wv := by
  obtain ⟨hg, h2, h3, h4, hbr, hkp⟩ := h
  refine ⟨hg, ?_, ?_, ?_, ?_, ⟨h2, fun k h => absurd h (Nat.not_lt_zero k)⟩, ⟨h3, fun k h => absurd h (Nat.not_lt_zero k)⟩, ⟨h4, fun k h => absurd h (Nat.not_lt_zero k)⟩, by decide, by decide, by decide⟩
  · intro t ht
    refine ⟨Nat.zero_le _, Nat.zero_le _, ?_, ?_⟩
    · rw [hkp _ (by omega), zl_w0 (by omega) (by omega) (by omega)]; rfl
    · rw [hkp _ (by omega), zl_w0 (by omega) (by omega) (by omega)]; rfl
  · refine ⟨fun t r ht hr => ⟨Nat.zero_lt_two, ?_⟩, fun t ht => rfl⟩
    have h9 := hbr (6 * t + r) (by omega)
    rw [← Nat.add_assoc] at h9
    exact h9
  · intro k hk
    rw [hkp _ (by omega)]
    rcases zl_lt4 hk with rfl | rfl | rfl | rfl <;> exact ⟨by decide, by rfl⟩
  · rw [hkp _ (by omega), zl_w0 (by omega) (by omega) (by omega)]; rfl
theorem zl_ok0 : zt_ok (fun _ => -1) (fun _ => 0) := fun k hk => ⟨Nat.zero_le _, Or.inl ⟨rfl, rfl⟩⟩
theorem zl_so0 {k : Nat} (hk : k < 6) : zi_so k = -1 := by
  have h : k = 0 ∨ k = 1 ∨ k = 2 ∨ k = 3 ∨ k = 4 ∨ k = 5 := by omega
  rcases h with rfl | rfl | rfl | rfl | rfl | rfl <;> rfl
theorem zl_st0 : ∀ k, k < 6 → zi_so k = (fun _ : Nat => (-1 : Int32)) k ∧ (fun _ : Nat => (0 : Int32)) k = nI ((fun _ : Nat => 0) k) := fun k hk => ⟨zl_so0 hk, rfl⟩
theorem zl_T0 {T : Nat → Nat} {sg : Nat → Int32} : zx_T 0 T sg := ⟨Nat.zero_le _, fun j h => absurd h (Nat.not_lt_zero j)⟩
