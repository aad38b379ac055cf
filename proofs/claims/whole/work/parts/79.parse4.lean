/-! numbers, as the reference reads them -/
def zx_vk (T : Nat → Nat) (p : Nat) : Nat → Nat | 0 => 0 | k + 1 => 10 * zx_vk T p k + (T (p + k) - 48)
theorem zx_n1_f1 {T : Nat → Nat} {L z p : Nat} (hp : p ≤ L) (h : zx_at T L p 32 = false) : zx_n1 T L z p (nI 0) (nI p) p := ⟨hp, Or.inr ⟨p, hp, zx_fl1_f1 h, rfl, rfl⟩⟩
theorem zx_n1_f2 {T : Nat → Nat} {L z p k : Nat} (hk : k = 0) (h : zx_at T L p 32 = true) (h2 : zx_dig T L (p + 1 + k) = false) : zx_n1 T L z p (nI (zx_vk T (p + 1) k)) (nI (p + 1 + k)) (p + 1 + k) := by
  subst hk
  have h1 := zx_at_x h
  exact ⟨by omega, Or.inr ⟨p + 1, by omega, zx_fl1_f2 h h2, rfl, rfl⟩⟩
theorem zx_n1_d1 {T : Nat → Nat} {L p k : Nat} (hk : k = 1) (hle : p + 1 + k ≤ L) (h : zx_at T L p 32 = true) (hd : ∀ j, j < k → zx_dig T L (p + 1 + j) = true) : zx_n1 T L 0 p (nI (zx_vk T (p + 1) k)) (-1) (p + 1 + k) := by
  subst hk
  refine ⟨hle, Or.inl ⟨zx_fl1_n h (hd 0 (by omega)), rfl, ?_, rfl⟩⟩
  show nI (10 * 0 + (T (p + 1 + 0) - 48)) = nI (T (p + 1) - 48)
  rw [Nat.mul_zero, Nat.zero_add, Nat.add_zero]
theorem zx_n1_d2 {T : Nat → Nat} {L p k : Nat} (h0 : k ≠ 0) (hk : k ≤ 2) (hle : p + 1 + k ≤ L) (h : zx_at T L p 32 = true) (hd : ∀ j, j < k → zx_dig T L (p + 1 + j) = true) (he : k = 2 ∨ zx_dig T L (p + 1 + k) = false) : zx_n1 T L 1 p (nI (zx_vk T (p + 1) k)) (-1) (p + 1 + k) := by
  refine ⟨hle, Or.inl ⟨zx_fl1_n h (hd 0 (by omega)), rfl, ?_, ?_⟩⟩
  all_goals
    have h2 : k = 1 ∨ k = 2 := by omega
    rcases h2 with rfl | rfl
  · have e2 : zx_two T L 1 (p + 1) = false := by
      rcases he with he | he
      · omega
      · unfold zx_two; rw [he, Bool.and_false]
    unfold zx_nv; rw [e2]
    show nI (10 * 0 + (T (p + 1 + 0) - 48)) = nI (T (p + 1) - 48)
    rw [Nat.mul_zero, Nat.zero_add, Nat.add_zero]
  · have e2 : zx_two T L 1 (p + 1) = true := by unfold zx_two; rw [hd 1 (by omega)]; rfl
    unfold zx_nv; rw [e2]
    show nI (10 * (10 * 0 + (T (p + 1 + 0) - 48)) + (T (p + 1 + 1) - 48)) = nI (10 * (T (p + 1) - 48) + (T (p + 1 + 1) - 48))
    rw [Nat.mul_zero, Nat.zero_add, Nat.add_zero]
  · have e2 : zx_two T L 1 (p + 1) = false := by
      rcases he with he | he
      · omega
      · unfold zx_two; rw [he, Bool.and_false]
    unfold zx_np; rw [e2]; rfl
  · have e2 : zx_two T L 1 (p + 1) = true := by unfold zx_two; rw [hd 1 (by omega)]; rfl
    unfold zx_np; rw [e2]; rfl
theorem zx_vk_le {T : Nat → Nat} {L p : Nat} : ∀ k, k ≤ 2 → (∀ j, j < k → zx_dig T L (p + j) = true) → zx_vk T p k ≤ 99
  | 0, _, _ => Nat.zero_le _
  | 1, _, h => by have := zx_in_x (h 0 (by omega)); show 10 * 0 + (T (p + 0) - 48) ≤ 99; omega
  | 2, _, h => by
    have h1 := zx_in_x (h 0 (by omega)); have h2 := zx_in_x (h 1 (by omega))
    show 10 * (10 * 0 + (T (p + 0) - 48)) + (T (p + 1) - 48) ≤ 99; omega
  | k + 3, h, _ => by omega
theorem zx_nv_le {T : Nat → Nat} {L z p : Nat} (h : zx_dig T L p = true) : zx_nv T L z p ≤ 99 := by
  have h1 := zx_in_x h
  unfold zx_nv
  cases e : zx_two T L z p with
  | false => show T p - 48 ≤ 99; omega
  | true =>
    unfold zx_two at e; rw [Bool.and_eq_true] at e
    have h2 := zx_in_x e.2
    show 10 * (T p - 48) + (T (p + 1) - 48) ≤ 99; omega
theorem zx_w9 {w : Nat} (h : w ≤ 8) : w = 0 ∨ w = 1 ∨ w = 2 ∨ w = 3 ∨ w = 4 ∨ w = 5 ∨ w = 6 ∨ w = 7 ∨ w = 8 := by omega
