section ZXM
variable {T : Nat → Nat} {L p n : Nat} {wd nu : Nat → Int32} {w : Nat}
theorem zx_mput_g {fl : List Nat} {nun : Nat → Int32} (hw : zx_cw T L p = w) (hw8 : w < 8) (hfl : zx_fw w = fl) (h1 : ∀ j, j < 3 * n → nun j = nu j) (h2 : ∀ j, j < fl.length → nun (3 * n + j) = nI (zx_nb T L fl (zx_we T L 100 p) j)) : zx_mput T L p n wd (upd wd n (nI w)) nu nun := by
  refine ⟨fun j hj => by unfold upd; rw [if_neg hj], by rw [hw]; unfold upd; rw [if_pos rfl], by omega, h1, fun j hj => ?_⟩
  rw [hw, hfl] at hj
  rw [h2 j hj]; unfold zx_cN; rw [hw, hfl]
end ZXM
