/-! the text -/
theorem zn_b8 : ∀ t, t < 128 → (nI t).toInt8.toInt32 = nI t := by decide +kernel
theorem zn_nb : ∀ t, t < 128 → vp_nar .byte (nI t) = nI t := by decide +kernel
/-- the signs of a text -/
def zx_T (tx : Nat) (T : Nat → Nat) (sg : Nat → Int32) : Prop := tx ≤ 100 ∧ ∀ j, j < tx → T j < 128 ∧ sg j = nI (T j)
def zc_feed (tx : Nat) (v : Int32) : Bool := zi 128 v && decide (tx < 100)
def zo_feed (tx : Nat) (v : Int32) : Int32 := cond (zi 128 v) (cond (decide (tx < 100)) (nI (tx + 1)) (-4)) (-2)
theorem zx_T_up {tx t : Nat} {T : Nat → Nat} {sg : Nat → Int32} (h : zx_T tx T sg) (hx : tx < 100) (ht : t < 128) : zx_T (tx + 1) (zm_up T tx t) (upd sg tx (nI t)) := ⟨by omega, fun j hj => by
  unfold zm_up upd
  by_cases e : j = tx
  · rw [if_pos e, if_pos e]; exact ⟨ht, rfl⟩
  · rw [if_neg e, if_neg e]; exact h.2 j (by omega)⟩
