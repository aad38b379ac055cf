/-! ===== lN n to 2^64: shifts, and, or, masks, one bit ===== -/
theorem wb_tb (n : Nat) : (lN n).toBitVec = BitVec.ofNat 64 n := rfl
theorem wb_inj {a b : Int64} (h : a.toBitVec = b.toBitVec) : a = b := Int64.toBitVec_inj.mp h
theorem wb_tn {n : Nat} (h : n < 2 ^ 64) : (lN n).toBitVec.toNat = n := by rw [wb_tb, BitVec.toNat_ofNat, Nat.mod_eq_of_lt h]
theorem wb_of (x : Int64) : ∃ n, n < 2 ^ 64 ∧ x = lN n := ⟨x.toBitVec.toNat, x.toBitVec.isLt, wb_inj (by rw [wb_tb]; simp)⟩
theorem wb_of32 (x : Int32) : ∃ n, n < 2 ^ 32 ∧ x = nI n := ⟨x.toBitVec.toNat, x.toBitVec.isLt, Int32.toBitVec_inj.mp (by show _ = BitVec.ofNat 32 _; simp)⟩
theorem wb_c : ∀ k, k < 64 → ((nI k).toInt64 &&& 63) = lN k := by decide +kernel
theorem wb_cu : ∀ k, k < 64 → ((nI k).toInt64.toUInt64 &&& Int64.toUInt64 63) = UInt64.ofNat k := by decide +kernel
theorem wb_sm : ∀ k, k < 64 → (BitVec.ofNat 64 k).smod 64 = BitVec.ofNat 64 k := by decide +kernel
theorem wb_pw {a b : Nat} (h : a ≤ b) : 2 ^ b = 2 ^ a * 2 ^ (b - a) := by rw [← Nat.pow_add]; congr 1; omega
theorem wb_lt2 {a b : Nat} (h : a < b) : 2 ^ a < 2 ^ b := Nat.pow_lt_pow_right (by decide) h
theorem wb_mod (n : Nat) : lN n = lN (n % 2 ^ 64) := wb_inj (by rw [wb_tb, wb_tb]; apply BitVec.eq_of_toNat_eq; rw [BitVec.toNat_ofNat, BitVec.toNat_ofNat, Nat.mod_mod])
theorem wb_shr {n k : Nat} (hn : n < 2 ^ 64) (hk : k < 64) : ((lN n).toUInt64 >>> ((nI k).toInt64.toUInt64 &&& Int64.toUInt64 63)).toInt64 = lN (n / 2 ^ k) := by
  rw [wb_cu k hk]
  apply wb_inj
  apply BitVec.eq_of_toNat_eq
  show ((lN n).toUInt64 >>> UInt64.ofNat k).toNat = (BitVec.ofNat 64 _).toNat
  have h1 : (UInt64.ofNat k).toNat = k := by
    show (BitVec.ofNat 64 k).toNat = k
    rw [BitVec.toNat_ofNat, Nat.mod_eq_of_lt (by omega)]
  have h2 : (lN n).toUInt64.toNat = n := wb_tn hn
  rw [UInt64.toNat_shiftRight, h1, h2, Nat.mod_eq_of_lt hk, Nat.shiftRight_eq_div_pow, BitVec.toNat_ofNat, Nat.mod_eq_of_lt (Nat.lt_of_le_of_lt (Nat.div_le_self _ _) hn)]
theorem wb_shl (n : Nat) {k : Nat} (hk : k < 64) : lN n <<< ((nI k).toInt64 &&& 63) = lN (n * 2 ^ k) := by
  rw [wb_c k hk]
  apply wb_inj
  rw [Int64.toBitVec_shiftLeft, wb_tb, wb_tb, wb_tb, wb_sm k hk]
  apply BitVec.eq_of_toNat_eq
  rw [BitVec.shiftLeft_eq', BitVec.toNat_shiftLeft, BitVec.toNat_ofNat, BitVec.toNat_ofNat, BitVec.toNat_ofNat, Nat.mod_eq_of_lt (show k < 2 ^ 64 by omega), Nat.shiftLeft_eq, Nat.mul_mod, Nat.mod_mod, ← Nat.mul_mod]
theorem wb_and {a b : Nat} (ha : a < 2 ^ 64) (hb : b < 2 ^ 64) : lN a &&& lN b = lN (a &&& b) := by
  apply wb_inj
  rw [Int64.toBitVec_and, wb_tb, wb_tb, wb_tb]
  apply BitVec.eq_of_toNat_eq
  rw [BitVec.toNat_and, BitVec.toNat_ofNat, BitVec.toNat_ofNat, BitVec.toNat_ofNat, Nat.mod_eq_of_lt ha, Nat.mod_eq_of_lt hb, Nat.mod_eq_of_lt (Nat.and_lt_two_pow _ hb)]
theorem wb_or {a b : Nat} (ha : a < 2 ^ 64) (hb : b < 2 ^ 64) : lN a ||| lN b = lN (a ||| b) := by
  apply wb_inj
  rw [Int64.toBitVec_or, wb_tb, wb_tb, wb_tb]
  apply BitVec.eq_of_toNat_eq
  rw [BitVec.toNat_or, BitVec.toNat_ofNat, BitVec.toNat_ofNat, BitVec.toNat_ofNat, Nat.mod_eq_of_lt ha, Nat.mod_eq_of_lt hb, Nat.mod_eq_of_lt (Nat.or_lt_two_pow ha hb)]
theorem wb_mask {n k : Nat} (hn : n < 2 ^ 64) (hk : k < 64) : lN n &&& lN (2 ^ k - 1) = lN (n % 2 ^ k) := by
  rw [wb_and hn (by have := wb_lt2 hk; omega), Nat.and_two_pow_sub_one_eq_mod]
theorem wb_a1 {n : Nat} (hn : n < 2 ^ 64) : lN n &&& 1 = lN (n % 2) := wb_mask (k := 1) hn (by decide)
theorem wb_bit {n k : Nat} (hn : n < 2 ^ 64) (hk : k < 64) : ((lN n).toUInt64 >>> ((nI k).toInt64.toUInt64 &&& Int64.toUInt64 63)).toInt64 &&& 1 = lN (n / 2 ^ k % 2) := by
  rw [wb_shr hn hk, wb_a1 (Nat.lt_of_le_of_lt (Nat.div_le_self _ _) hn)]
theorem wb_xor {q k : Nat} (hk : k < 63) (h : 2 ^ k ≤ q) (h2 : q < 2 ^ (k + 1)) : lN q ^^^ lN (2 ^ k) = lN (q - 2 ^ k) := by
  obtain ⟨r, rfl⟩ : ∃ r, q = 2 ^ k + r := ⟨q - 2 ^ k, by omega⟩
  have hr : r < 2 ^ k := by rw [Nat.pow_succ] at h2; omega
  have hx : (2 ^ k + r) ^^^ 2 ^ k = r := by
    apply Nat.eq_of_testBit_eq
    intro i
    rw [Nat.testBit_xor, Nat.testBit_two_pow]
    rcases Nat.lt_trichotomy i k with h | h | h
    · rw [Nat.testBit_two_pow_add_gt h]
      simp [show ¬ k = i by omega]
    · subst h
      rw [Nat.testBit_two_pow_add_eq]
      simp
    · have a1 : 2 ^ (k + 1) ≤ 2 ^ i := Nat.pow_le_pow_right (by decide) h
      rw [Nat.testBit_lt_two_pow (show 2 ^ k + r < 2 ^ i by omega), Nat.testBit_lt_two_pow (show r < 2 ^ i by omega)]
      simp [show ¬ k = i by omega]
  have b1 := wb_lt2 (show k + 1 < 64 by omega)
  have b2 := wb_lt2 (show k < 64 by omega)
  apply wb_inj
  rw [Int64.toBitVec_xor, wb_tb, wb_tb, wb_tb]
  apply BitVec.eq_of_toNat_eq
  rw [BitVec.toNat_xor, BitVec.toNat_ofNat, BitVec.toNat_ofNat, BitVec.toNat_ofNat, Nat.mod_eq_of_lt (by omega : 2 ^ k + r < 2 ^ 64), Nat.mod_eq_of_lt b2, hx, Nat.add_sub_cancel_left, Nat.mod_eq_of_lt (by omega)]
/-! ===== lN: masks, 'or' of parts that don't overlap is a sum ===== -/
/-! the bits of a float and of a double, as numbers -/
theorem zr_td {p : Program} {l : Launch} {e : Env} {R : Room} {s : State} {m : MethodId} {args : Array Value} {below : List Frame} {meth : Method} {c : Code} {H : Heap} {locs : List Loc} {cells slots : Nat} {Q : State → Prop} {pc : Nat} {ls : Array Slot} {rest : List Value} {x y : UInt64} (h : x = y) (k : W p l e R s m args below meth c H locs cells slots Q (F0 m pc ls (.double y :: rest))) : W p l e R s m args below meth c H locs cells slots Q (F0 m pc ls (.double x :: rest)) := h ▸ k
theorem zf_Bnn {x : UInt64} {c E : Nat} (hx : x.toNat = zf_B FP.Core.b64 c E) (h1 : FP.Core.b64.tails ≤ c) (h2 : c < 2 * FP.Core.b64.tails) (h3 : 1 ≤ E) (h4 : E + 1 < 2048) : zf_D E E x := Or.inr ⟨E, hx ▸ zf_B_N h1 h2 h3 (by rw [zf_e64]; exact h4), Nat.le_refl _, Nat.le_refl _⟩
theorem zf_tail {x : UInt64} {c D : Nat} (hx : x.toNat = zf_B FP.Core.b64 c 1023) (h1 : FP.Core.b64.tails ≤ c) (h2 : c < 2 * FP.Core.b64.tails) (hD : D ≤ 52) :
    vf_n64 (FP.dsub x FP.dconst1) ∧ vf_n64 (FP.dmul (FP.dsub x FP.dconst1) (FP.l2d (lN (2 ^ D)))) ∧ FP.d2l (FP.dmul (FP.dsub x FP.dconst1) (FP.l2d (lN (2 ^ D)))) = lN ((c - FP.Core.b64.tails) / 2 ^ (52 - D)) := by
  have ht := zf_tails FP.Core.b64
  have hl : zf_D (1023 + D) (1023 + D) (FP.l2d (lN (2 ^ D))) := zf_Bnn (zf_l2dp hD) (Nat.le_refl _) (by omega) (by omega) (by omega)
  rcases zf_less1 hx h1 h2 with ⟨hc, h0⟩ | ⟨j, d, j1, j2, hd, d1, d2, hz⟩
  · rw [h0]
    refine ⟨zf_D.nn (x := 0) (lo := 1) (hi := 1) (Or.inl rfl), ?_, ?_⟩
    · exact (zf_dmul (a := 1023) (b := 1023) (x := 0) (Or.inl rfl) hl (by omega) (by omega)).nn
    · rw [zf_d2l0 (y := 0) hD, hc, Nat.sub_self, Nat.zero_div]
  · have hj : zf_D (1023 - j) (1023 - j) (FP.dsub x FP.dconst1) := zf_Bnn hz d1 d2 (by omega) (by omega)
    exact ⟨hj.nn, (zf_dmul hj hl (by omega) (by omega)).nn, zf_d2ln hz j1 j2 hd d1 d2 hD⟩
theorem zf_t32 : FP.Core.b32.tails = 2 ^ 23 := by decide
theorem zf_e32 : FP.Core.b32.exps = 256 := by decide
theorem zf_q32 : FP.Core.b32.qmin = -149 := by decide
theorem zf_f2d {x : UInt32} {lo hi : Nat} (h : zf_F lo hi x) : (x.toNat = 0 ∧ FP.f2d x = 0) ∨ ∃ c E, FP.Core.b32.tails ≤ c ∧ c < 2 * FP.Core.b32.tails ∧ x.toNat = zf_B FP.Core.b32 c E ∧ 1 ≤ E ∧ E ≤ 254 ∧ lo ≤ E ∧ E ≤ hi ∧ FP.Core.b64.tails ≤ c * 2 ^ 29 ∧ c * 2 ^ 29 < 2 * FP.Core.b64.tails ∧ (FP.f2d x).toNat = zf_B FP.Core.b64 (c * 2 ^ 29) (E + 896) := by
  rcases h with h | ⟨E, h, hlo, hhi⟩
  · left
    have e : x = 0 := UInt32.toNat_inj.mp h
    subst e
    exact ⟨rfl, by decide +kernel⟩
  · right
    obtain ⟨c, c1, c2, hc⟩ := zf_N_B h
    obtain ⟨-, -, -, h3, h4⟩ := id h
    have h5 : E ≤ 254 := by rw [zf_e32] at h4; omega
    have d1 : FP.Core.b64.tails ≤ c * 2 ^ 29 := by rw [zf_t64]; rw [zf_t32] at c1; omega
    have d2 : c * 2 ^ 29 < 2 * FP.Core.b64.tails := by rw [zf_t64]; rw [zf_t32] at c2; omega
    refine ⟨c, E, c1, c2, hc, h3, h5, hlo, hhi, d1, d2, ?_⟩
    have hd := zf_decB c1 c2 h3 h4
    have hn : FP.Core.fIsNaN x = false := by
      show decide (FP.Core.decode FP.Core.b32 x.toNat = .nan) = false
      rw [hc, hd]; exact decide_eq_false (by intro q; cases q)
    unfold FP.f2d
    rw [hn]
    show (UInt64.ofNat (FP.Core.encode FP.Core.b64 (FP.Core.round FP.Core.b64 (FP.Core.decode FP.Core.b32 x.toNat)))).toNat = _
    rw [hc, hd]
    show (UInt64.ofNat (FP.Core.encode FP.Core.b64 (FP.Core.roundRatio FP.Core.b64 false c 1 (FP.Core.b32.qmin + ((E : Int) - 1))))).toNat = _
    rw [zf_ex1 (c := c * 2 ^ 29) (j := 29) (L := FP.Core.b32.qmin + ((E : Int) - 1) - 29) (by decide) d1 d2 (Or.inr ⟨rfl, by omega⟩) (by rw [zf_q64, zf_q32]; omega) (by rw [zf_x64, zf_q32]; omega)]
    rw [zf_encB (E := E + 896) d1 (by rw [zf_q64, zf_q32]; omega) (by omega)]
    exact zf_oN (zf_B64 d2 (by omega))
theorem zf_f2dD {x : UInt32} {lo hi : Nat} (h : zf_F lo hi x) : zf_D (lo + 896) (hi + 896) (FP.f2d x) := by
  rcases zf_f2d h with ⟨-, h⟩ | ⟨c, E, -, -, -, h3, h5, hlo, hhi, d1, d2, hx⟩
  · rw [h]; exact Or.inl rfl
  · exact (zf_Bnn hx d1 d2 (by omega) (by omega)).mono (by omega) (by omega)
/-- what bitsOf makes of a double -/
def zf_bits (bias D : Nat) (v : UInt64) (R : Nat) : Prop := (v = 0 ∧ R = 0) ∨ ∃ c E, FP.Core.b64.tails ≤ c ∧ c < 2 * FP.Core.b64.tails ∧ v.toNat = zf_B FP.Core.b64 c E ∧ 1 ≤ E ∧ E ≤ 2046 ∧ 1023 ≤ bias + E ∧ R = (bias + E - 1023) * 2 ^ D + (c - FP.Core.b64.tails) / 2 ^ (52 - D)
theorem zf_bitsF {x : UInt32} {lo hi : Nat} (h : zf_F lo hi x) : zf_bits 127 23 (FP.f2d x) x.toNat := by
  rcases zf_f2d h with ⟨h0, h⟩ | ⟨c, E, c1, c2, hx0, h3, h5, hlo, hhi, d1, d2, hx⟩
  · exact Or.inl ⟨h, h0⟩
  · refine Or.inr ⟨_, _, d1, d2, hx, by omega, by omega, by omega, ?_⟩
    rw [hx0]; unfold zf_B
    rw [show 127 + (E + 896) - 1023 = E from by omega, zf_t64, zf_t32]
    rw [zf_t32] at c1
    refine congrArg (E * 2 ^ 23 + ·) ?_
    rw [show c * 2 ^ 29 - 2 ^ 52 = (c - 2 ^ 23) * 2 ^ 29 from by omega]
    exact (Nat.mul_div_cancel _ (by decide)).symm
theorem zf_bitsD {x : UInt64} {lo hi : Nat} (h : zf_D lo hi x) : zf_bits 1023 52 x x.toNat := by
  rcases h with h | ⟨E, h, hlo, hhi⟩
  · exact Or.inl ⟨UInt64.toNat_inj.mp h, h⟩
  · obtain ⟨c, c1, c2, hc⟩ := zf_N_B h
    obtain ⟨-, -, -, h3, h4⟩ := id h
    rw [zf_e64] at h4
    refine Or.inr ⟨c, E, c1, c2, hc, h3, by omega, by omega, ?_⟩
    rw [hc]; unfold zf_B
    rw [show 1023 + E - 1023 = E from by omega, Nat.sub_self, Nat.pow_zero, Nat.div_one, zf_t64]
theorem zf_cmpself {f : FP.Core.Fmt} {n lo hi : Nat} (he : 2 ≤ f.exps) (h : zf_R f lo hi n) : FP.Core.cmp f n n = some Ordering.eq := by
  have hs : ∀ a : Int, compare a a = Ordering.eq := fun a => by
    show compareOfLessAndEq a a = Ordering.eq
    unfold compareOfLessAndEq; simp
  unfold FP.Core.cmp
  rcases h with rfl | ⟨E, h, -, -⟩
  · rw [zf_dec0 f he]; exact congrArg some (hs _)
  · obtain ⟨c, -, -, hc, -⟩ := zf_dec h
    rw [hc]; exact congrArg some (hs _)
theorem zf_fself {x : UInt32} {lo hi : Nat} (h : zf_F lo hi x) : Op.cmpValue (FP.fcmp x x) CmpOp.l = nI 0 := by
  have e : FP.fcmp x x = some Ordering.eq := zf_cmpself (by decide) h
  rw [e]; decide
theorem zf_dself {x : UInt64} {lo hi : Nat} (h : zf_D lo hi x) : Op.cmpValue (FP.dcmp x x) CmpOp.l = nI 0 := by
  have e : FP.dcmp x x = some Ordering.eq := zf_cmpself (by decide) h
  rw [e]; decide
theorem zf_u32 (x : UInt32) : x.toInt32 = nI x.toNat := Int32.toBitVec_inj.mp (by show x.toBitVec = BitVec.ofNat 32 x.toNat; simp)
theorem zf_u64 (x : UInt64) : x.toInt64 = lN x.toNat := Int64.toBitVec_inj.mp (by show x.toBitVec = BitVec.ofNat 64 x.toNat; simp)
