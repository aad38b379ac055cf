theorem zx_wz_t {w : Nat} (h : w < 8) : zx_wz w = nI w := if_pos h
theorem zx_wz_f {w : Nat} (h : 8 ≤ w) : zx_wz w = -1 := if_neg (by omega)
theorem zx_cw_le {T : Nat → Nat} {L p : Nat} : zx_cw T L p ≤ 8 := zx_wf_le 8 0 rfl
theorem zx_np_le {T : Nat → Nat} {L z p : Nat} (h : zx_dig T L p = true) : zx_np T L z p ≤ L := by
  have h1 := zx_in_x h
  unfold zx_np
  cases e : zx_two T L z p with
  | false => show p + 1 ≤ L; omega
  | true =>
    unfold zx_two at e
    rw [Bool.and_eq_true] at e
    have h2 := zx_in_x e.2
    show p + 2 ≤ L; omega
theorem zx_fl_le {T : Nat → Nat} {L f : Nat} : ∀ (zs : List Nat) (p : Nat), p ≤ L → zx_fl T L zs p = some f → f ≤ L
  | [], p, _, h => by cases h
  | z :: zs, p, hp, h => by
    rw [zx_fl] at h
    cases e1 : zx_at T L p 32 with
    | false => rw [e1, if_pos rfl] at h; cases h; exact hp
    | true =>
      rw [e1, if_neg Bool.noConfusion] at h
      have h3 := zx_at_x e1
      cases e2 : zx_dig T L (p + 1) with
      | false => rw [e2, if_pos rfl] at h; cases h; omega
      | true => rw [e2, if_neg Bool.noConfusion] at h; exact zx_fl_le zs _ (zx_np_le e2) h
theorem zx_cF_le {T : Nat → Nat} {L p f : Nat} (hp : p ≤ L) (h : zx_cF T L p = some f) : f ≤ L := by
  unfold zx_cF at h
  split at h
  · cases h; exact hp
  · exact zx_fl_le _ _ (zx_we_le _ _ hp) h
theorem zx_pl_le {T : Nat → Nat} {L : Nat} : ∀ (zs : List Nat) (p : Nat), p ≤ L → zx_fl T L zs p = none → zx_pl T L zs p ≤ L
  | [], p, hp, _ => hp
  | z :: zs, p, hp, h => by
    rw [zx_fl] at h
    rw [zx_pl]
    cases e1 : zx_at T L p 32 with
    | false => rw [e1, if_pos rfl] at h; cases h
    | true =>
      rw [e1, if_neg Bool.noConfusion] at h
      cases e2 : zx_dig T L (p + 1) with
      | false => rw [e2, if_pos rfl] at h; cases h
      | true => rw [e2, if_neg Bool.noConfusion] at h; exact zx_pl_le zs _ (zx_np_le e2) h
/-- where the reading of a clause's numbers stands: i of them are read, p the place behind -/
def zx_I (T : Nat → Nat) (L w E i p : Nat) (nm : Nat → Int32) : Prop := zx_fl T L (zx_fw w) E = zx_fl T L ((zx_fw w).drop i) p ∧ zx_pl T L (zx_fw w) E = zx_pl T L ((zx_fw w).drop i) p ∧ (∀ j, zx_nb T L (zx_fw w) E (i + j) = zx_nb T L ((zx_fw w).drop i) p j) ∧ (∀ j, j < i → nm j = nI (zx_nb T L (zx_fw w) E j)) ∧ ∀ j, i ≤ j → j < 3 → nm j = nI 0
theorem zx_I_0 {T : Nat → Nat} {L w E : Nat} {nm : Nat → Int32} (h : ∀ j, j < 3 → nm j = nI 0) : zx_I T L w E 0 E nm := ⟨rfl, rfl, fun j => by rw [Nat.zero_add]; rfl, fun j hj => absurd hj (Nat.not_lt_zero _), fun j _ hj => h j hj⟩
theorem zx_I_s {T : Nat → Nat} {L w E i p z : Nat} {nm : Nat → Int32} (h : zx_I T L w E i p nm) (hd : (zx_fw w).drop i = z :: (zx_fw w).drop (i + 1)) (h1 : zx_at T L p 32 = true) (h2 : zx_dig T L (p + 1) = true) : zx_I T L w E (i + 1) (zx_np T L z (p + 1)) (upd nm i (nI (zx_nv T L z (p + 1)))) := by
  obtain ⟨a1, a2, a3, a4, a5⟩ := h
  rw [hd] at a1 a2 a3
  refine ⟨?_, ?_, fun j => ?_, fun j hj => ?_, fun j h3 h4 => ?_⟩
  · rw [a1, zx_fl, h1, if_neg Bool.noConfusion, h2, if_neg Bool.noConfusion]
  · rw [a2, zx_pl]
  · have := a3 (j + 1); rw [show i + (j + 1) = i + 1 + j from by omega] at this; rw [this]; rfl
  · unfold upd
    by_cases e : j = i
    · rw [if_pos e, e]; have := a3 0; rw [Nat.add_zero] at this; rw [this]; rfl
    · rw [if_neg e]; exact a4 j (by omega)
  · unfold upd; rw [if_neg (by omega)]; exact a5 j (by omega) h4
theorem zx_I_e {T : Nat → Nat} {L w E i p : Nat} {nm : Nat → Int32} (h : zx_I T L w E i p nm) (hi : i = (zx_fw w).length) : zx_fl T L (zx_fw w) E = none ∧ zx_pl T L (zx_fw w) E = p ∧ ∀ j, j < 3 → nm j = nI (zx_nb T L (zx_fw w) E j) := by
  obtain ⟨a1, a2, a3, a4, a5⟩ := h
  rw [hi, List.drop_length] at a1 a2
  refine ⟨a1, a2, fun j hj => ?_⟩
  rcases Nat.lt_or_ge j i with q | q
  · exact a4 j q
  · have := a3 (j - i)
    rw [show i + (j - i) = j from by omega, hi, List.drop_length] at this
    rw [a5 j q hj, this]; rfl
theorem zx_I_f1 {T : Nat → Nat} {L w E i p : Nat} {nm : Nat → Int32} (h : zx_I T L w E i p nm) (hw : w < 8) (hi : i < (zx_fw w).length) (h1 : zx_at T L p 32 = false) : zx_fl T L (zx_fw w) E = some p := by rw [h.1, zx_fwD w hw i hi, zx_fl, if_pos h1]
theorem zx_I_f2 {T : Nat → Nat} {L w E i p : Nat} {nm : Nat → Int32} (h : zx_I T L w E i p nm) (hw : w < 8) (hi : i < (zx_fw w).length) (h1 : zx_at T L p 32 = true) (h2 : zx_dig T L (p + 1) = false) : zx_fl T L (zx_fw w) E = some (p + 1) := by rw [h.1, zx_fwD w hw i hi, zx_fl, h1, if_neg Bool.noConfusion, if_pos h2]
/-- what a clause that was read leaves in the rows -/
def zx_put (T : Nat → Nat) (L p n : Nat) (cc cn : Nat → Int32) : Prop := (∀ j, j < n * 4 → cn j = cc j) ∧ cn (n * 4) = nI (zx_cw T L p) ∧ cn (n * 4 + 1) = nI (zx_cN T L p 0) ∧ cn (n * 4 + 2) = nI (zx_cN T L p 1) ∧ cn (n * 4 + 3) = nI (zx_cN T L p 2)
theorem zx_put_u {T : Nat → Nat} {L p n : Nat} {cc : Nat → Int32} : zx_put T L p n cc (upd (upd (upd (upd cc (n * 4) (nI (zx_cw T L p))) (n * 4 + 1) (nI (zx_cN T L p 0))) (n * 4 + 2) (nI (zx_cN T L p 1))) (n * 4 + 3) (nI (zx_cN T L p 2))) := by
  refine ⟨fun j hj => ?_, ?_, ?_, ?_, ?_⟩ <;> (simp only [upd, ↓reduceIte]; (repeat' split); all_goals first | rfl | (exfalso; omega))
theorem zx_row_s {T : Nat → Nat} {L n : Nat} {cc cn : Nat → Int32} (h : zx_row T L n cc) (h2 : zx_put T L (zx_ps T L n) n cc cn) : zx_row T L (n + 1) cn := fun i hi => by
  rcases Nat.lt_or_ge i n with q | q
  · obtain ⟨a1, a2, a3, a4⟩ := h i q
    exact ⟨(h2.1 _ (by omega)).trans a1, (h2.1 _ (by omega)).trans a2, (h2.1 _ (by omega)).trans a3, (h2.1 _ (by omega)).trans a4⟩
  · obtain rfl : i = n := by omega
    exact h2.2
theorem zx_cP_le {T : Nat → Nat} {L p : Nat} (hp : p ≤ L) (h : zx_cF T L p = none) : zx_cP T L p ≤ L := by
  unfold zx_cF at h
  split at h
  · cases h
  · exact zx_pl_le _ _ (zx_we_le _ _ hp) h
theorem zx_pf_n {T : Nat → Nat} {L i p : Nat} (hi : i < 12) (h : zx_cF T L p = none) : zx_pf T L (12 - i) p i = if L ≤ zx_cP T L p then none else if (zx_at T L (zx_cP T L p) 59 && decide (i + 1 < 12)) = true then zx_pf T L (12 - (i + 1)) (zx_cP T L p + 1) (i + 1) else some (zx_cP T L p) := by
  rw [show 12 - i = (12 - (i + 1)) + 1 from by omega, zx_pf, h]
theorem zx_pf_s {T : Nat → Nat} {L i p f : Nat} (hi : i < 12) (h : zx_cF T L p = some f) : zx_pf T L (12 - i) p i = some f := by
  rw [show 12 - i = (12 - (i + 1)) + 1 from by omega, zx_pf, h]
theorem zx_pc_n {T : Nat → Nat} {L i p : Nat} (hi : i < 12) (h : zx_cF T L p = none) : zx_pc T L (12 - i) p i = if L ≤ zx_cP T L p then i + 1 else zx_pc T L (12 - (i + 1)) (zx_cP T L p + 1) (i + 1) := by
  rw [show 12 - i = (12 - (i + 1)) + 1 from by omega, zx_pc, h]
