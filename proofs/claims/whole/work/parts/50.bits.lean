/-! bits of a number: comparisons, halves, doubles -/
theorem zf_cmplt (a b : Int) : compare a b = Ordering.lt ↔ a < b := by
  show compareOfLessAndEq a b = Ordering.lt ↔ a < b
  unfold compareOfLessAndEq
  by_cases h : a < b
  · simp [h]
  · by_cases h2 : a = b <;> simp [h, h2]
theorem zf_cmpgt (a b : Int) : compare a b = Ordering.gt ↔ b < a := by
  show compareOfLessAndEq a b = Ordering.gt ↔ b < a
  unfold compareOfLessAndEq
  by_cases h : a < b
  · simp [h]; omega
  · by_cases h2 : a = b
    · simp [h2]
    · simp [h, h2]; omega
theorem zf_cmpN {f : FP.Core.Fmt} {x y E E' : Nat} (hx : zf_N f x E) (hy : zf_N f y E') (hT : y = E' * f.tails) : ∃ o, FP.Core.cmp f x y = some o ∧ (o = Ordering.lt ↔ E < E') := by
  obtain ⟨c, c1, c2, hc, -⟩ := zf_dec hx
  obtain ⟨d, d1, d2, hd, hd4⟩ := zf_dec hy
  have ht := zf_tails f
  have hdt : d = f.tails := by omega
  subst hdt
  unfold FP.Core.cmp
  rw [hc, hd]
  refine ⟨_, rfl, ?_⟩
  unfold FP.Core.signed FP.Core.inUnits
  simp only [Bool.false_eq_true, if_false]
  rw [zf_cmplt]
  rcases Nat.lt_or_ge E E' with h | h
  · refine iff_of_true ?_ h
    have e1 : (f.qmin + ((E : Int) - 1) - min (f.qmin + ((E : Int) - 1)) (f.qmin + ((E' : Int) - 1))).toNat = 0 := by omega
    have e2 : (f.qmin + ((E' : Int) - 1) - min (f.qmin + ((E : Int) - 1)) (f.qmin + ((E' : Int) - 1))).toNat = E' - E := by omega
    rw [e1, e2, Nat.pow_zero, Nat.mul_one]
    have h2 : 2 ^ 1 ≤ 2 ^ (E' - E) := Nat.pow_le_pow_right (by decide) (by omega)
    have h3 : f.tails * 2 ≤ f.tails * 2 ^ (E' - E) := Nat.mul_le_mul_left _ h2
    omega
  · refine iff_of_false ?_ (by omega)
    have e1 : (f.qmin + ((E : Int) - 1) - min (f.qmin + ((E : Int) - 1)) (f.qmin + ((E' : Int) - 1))).toNat = E - E' := by omega
    have e2 : (f.qmin + ((E' : Int) - 1) - min (f.qmin + ((E : Int) - 1)) (f.qmin + ((E' : Int) - 1))).toNat = 0 := by omega
    rw [e1, e2, Nat.pow_zero, Nat.mul_one]
    have h2 := Nat.two_pow_pos (E - E')
    have h3 : f.tails * 1 ≤ c * 2 ^ (E - E') := Nat.mul_le_mul c1 h2
    omega
theorem zf_two : zf_N FP.Core.b64 (4611686018427387904 : UInt64).toNat 1024 ∧ (4611686018427387904 : UInt64).toNat = 1024 * FP.Core.b64.tails := ⟨⟨0, by decide, by decide, by decide, by decide⟩, by decide⟩
theorem zf_one : zf_N FP.Core.b64 FP.dconst1.toNat 1023 ∧ FP.dconst1.toNat = 1023 * FP.Core.b64.tails := ⟨⟨0, by decide, by decide, by decide, by decide⟩, by decide⟩
theorem zf_cv_l {o : Ordering} : Op.cmpValue (some o) CmpOp.l < 0 ↔ o = Ordering.lt := by cases o <;> decide
theorem zf_cv_g {o : Ordering} : ¬ 0 ≤ Op.cmpValue (some o) CmpOp.g ↔ o = Ordering.lt := by cases o <;> decide
theorem zf_cv_p {o : Ordering} : 0 < Op.cmpValue (some o) CmpOp.l ↔ o = Ordering.gt := by cases o <;> decide
/-- 2 and more, below 1 -/
theorem zf_ge2 {x : UInt64} {E : Nat} (h : zf_N FP.Core.b64 x.toNat E) : Op.cmpValue (FP.dcmp x 4611686018427387904) CmpOp.l < 0 ↔ E < 1024 := by
  obtain ⟨o, h1, h2⟩ := zf_cmpN h zf_two.1 zf_two.2
  have e : FP.dcmp x 4611686018427387904 = some o := h1
  rw [e, zf_cv_l]; exact h2
theorem zf_lt1 {x : UInt64} {E : Nat} (h : zf_N FP.Core.b64 x.toNat E) : ¬ 0 ≤ Op.cmpValue (FP.dcmp x FP.dconst1) CmpOp.g ↔ E < 1023 := by
  obtain ⟨o, h1, h2⟩ := zf_cmpN h zf_one.1 zf_one.2
  have e : FP.dcmp x FP.dconst1 = some o := h1
  rw [e, zf_cv_g]; exact h2
theorem zf_gt0 {x : UInt64} {E : Nat} (h : zf_N FP.Core.b64 x.toNat E) : 0 < Op.cmpValue (FP.dcmp x FP.dconst0) CmpOp.l := by
  obtain ⟨c, c1, c2, hc, -⟩ := zf_dec h
  have ht := zf_tails FP.Core.b64
  have d0 := zf_dec0 FP.Core.b64 (by decide)
  obtain ⟨o, h1, h2⟩ : ∃ o, FP.dcmp x FP.dconst0 = some o ∧ o = Ordering.gt := by
    refine ⟨_, ?_, rfl⟩
    show FP.Core.order (FP.Core.decode FP.Core.b64 x.toNat) (FP.Core.decode FP.Core.b64 0) = _
    rw [hc, d0]
    show some _ = some _
    congr 1
    unfold FP.Core.signed FP.Core.inUnits
    simp only [Bool.false_eq_true, if_false, Nat.zero_mul]
    rw [zf_cmpgt]
    have h2 := Nat.two_pow_pos (FP.Core.b64.qmin + ((E : Int) - 1) - min (FP.Core.b64.qmin + ((E : Int) - 1)) FP.Core.b64.qmin).toNat
    have h3 := Nat.mul_le_mul c1 h2
    simp only [Nat.succ_eq_add_one, Nat.zero_add, Nat.mul_one] at h3
    omega
  rw [h1, zf_cv_p]; exact h2
theorem zf_le0 : ¬ 0 < Op.cmpValue (FP.dcmp FP.dconst0 FP.dconst0) CmpOp.l := by decide +kernel
/-- an exact quotient and product by a power of two -/
theorem zf_exq {f : FP.Core.Fmt} {s : Bool} {c : Nat} {e L : Int} (hpp : 1 ≤ f.p) (h1 : f.tails ≤ c) (h2 : c < 2 * f.tails) (hL : L = e - ((f.p : Int) - 1)) (hq : f.qmin ≤ L) (hq2 : L ≤ f.qmax) : FP.Core.roundRatio f s c f.tails e = .fin s c L := by
  have ht := zf_tails f
  have htt : f.tails = 2 ^ (f.p - 1) := rfl
  have hp : 2 ^ f.p = 2 * f.tails := by
    unfold FP.Core.Fmt.tails
    obtain ⟨k, hk⟩ : ∃ k, f.p = k + 1 := ⟨f.p - 1, by omega⟩
    rw [hk, Nat.add_sub_cancel, Nat.pow_succ, Nat.mul_comm]
  have lA : c.log2 = f.p - 1 := (Nat.log2_eq_iff (by omega)).mpr ⟨by rw [← htt]; exact h1, by rw [Nat.sub_add_cancel hpp, hp]; exact h2⟩
  have lB : f.tails.log2 = f.p - 1 := (Nat.log2_eq_iff (by omega)).mpr ⟨by rw [← htt]; exact Nat.le_refl _, by rw [Nat.sub_add_cancel hpp, hp]; omega⟩
  have hlead : FP.Core.leading c f.tails = 0 := by
    unfold FP.Core.leading
    rw [lA, lB]
    simp only [Int.sub_self, Int.toNat_zero, Int.neg_zero, Nat.pow_zero, Nat.mul_one]
    rw [if_pos h1]
  unfold FP.Core.roundRatio FP.Core.roundAt
  rw [if_neg (by omega)]
  have hqu : FP.Core.quantum f c f.tails e = L := by unfold FP.Core.quantum; rw [hlead]; omega
  rw [hqu]
  have e1 : (L - e).toNat = 0 := by omega
  have e2 : (e - L).toNat = f.p - 1 := by omega
  have hn : FP.Core.nearest (FP.Core.unitsNum c e L) (FP.Core.unitsDen f.tails e L) = c := by
    unfold FP.Core.unitsNum FP.Core.unitsDen
    rw [e1, e2, Nat.pow_zero, Nat.mul_one, ← htt]
    unfold FP.Core.nearest
    rw [Nat.mul_mod_left, Nat.mul_div_cancel _ ht, if_pos (by omega)]
  rw [hn]
  unfold FP.Core.settle FP.Core.bound
  rw [hp, if_pos h2, if_pos hq2]
/-- A times 2^k is the rounding of itself: c digits of p, A = c * 2^j or c = A * 2^j -/
theorem zf_ex1 {f : FP.Core.Fmt} {s : Bool} {A c j : Nat} {e L : Int} (hpp : 1 ≤ f.p) (h1 : f.tails ≤ c) (h2 : c < 2 * f.tails) (hA : (A = c * 2 ^ j ∧ L = e + j) ∨ (c = A * 2 ^ j ∧ L = e - j)) (hq : f.qmin ≤ L) (hq2 : L ≤ f.qmax) : FP.Core.roundRatio f s A 1 e = .fin s c L := by
  have ht := zf_tails f
  have htt : f.tails = 2 ^ (f.p - 1) := rfl
  have hp : 2 ^ f.p = 2 * f.tails := by
    unfold FP.Core.Fmt.tails
    obtain ⟨k, hk⟩ : ∃ k, f.p = k + 1 := ⟨f.p - 1, by omega⟩
    rw [hk, Nat.add_sub_cancel, Nat.pow_succ, Nat.mul_comm]
  have p2 := Nat.two_pow_pos j
  have h2' : c < 2 ^ (f.p - 1 + 1) := by rw [Nat.sub_add_cancel hpp, hp]; exact h2
  have h1' : 2 ^ (f.p - 1) ≤ c := h1
  have hA0 : A ≠ 0 := by
    rcases hA with ⟨h, -⟩ | ⟨h, -⟩
    · have := Nat.mul_le_mul h1 p2; omega
    · intro h0; rw [h0, Nat.zero_mul] at h; omega
  have key : ∃ a : Nat, 2 ^ a ≤ A ∧ A < 2 ^ (a + 1) ∧ L = a + e - ((f.p : Int) - 1) := by
    rcases hA with ⟨h, hl⟩ | ⟨h, hl⟩
    · refine ⟨f.p - 1 + j, ?_, ?_, by omega⟩
      · rw [h, Nat.pow_add]; exact Nat.mul_le_mul_right _ h1'
      · rw [h, show f.p - 1 + j + 1 = (f.p - 1 + 1) + j from by omega, Nat.pow_add _ _ j]; exact Nat.mul_lt_mul_of_pos_right h2' p2
    · have b1 := (Nat.log2_eq_iff (k := A.log2) hA0).mp rfl
      have c3 : 2 ^ (A.log2 + j) ≤ c := by rw [h, Nat.pow_add]; exact Nat.mul_le_mul_right _ b1.1
      have c4 : c < 2 ^ (A.log2 + 1 + j) := by rw [h, Nat.pow_add]; exact Nat.mul_lt_mul_of_pos_right b1.2 p2
      have l1 : c.log2 = A.log2 + j := (Nat.log2_eq_iff (by omega)).mpr ⟨c3, by rw [show A.log2 + j + 1 = A.log2 + 1 + j from by omega]; exact c4⟩
      have l2 : c.log2 = f.p - 1 := (Nat.log2_eq_iff (by omega)).mpr ⟨h1', h2'⟩
      exact ⟨A.log2, b1.1, b1.2, by omega⟩
  obtain ⟨a, k1, k2, k3⟩ := key
  unfold FP.Core.roundRatio FP.Core.roundAt
  rw [if_neg hA0]
  have hqu : FP.Core.quantum f A 1 e = L := by unfold FP.Core.quantum; rw [zf_lead1 k1 k2]; omega
  rw [hqu]
  have hn : FP.Core.nearest (FP.Core.unitsNum A e L) (FP.Core.unitsDen 1 e L) = c := by
    unfold FP.Core.unitsNum FP.Core.unitsDen
    rcases hA with ⟨h, hl⟩ | ⟨h, hl⟩
    · have e1 : (L - e).toNat = j := by omega
      have e2 : (e - L).toNat = 0 := by omega
      rw [e1, e2, Nat.pow_zero, Nat.mul_one, Nat.one_mul, h]
      unfold FP.Core.nearest
      rw [Nat.mul_mod_left, Nat.mul_div_cancel _ p2, if_pos (by omega)]
    · have e1 : (L - e).toNat = 0 := by omega
      have e2 : (e - L).toNat = j := by omega
      rw [e1, e2, Nat.pow_zero, Nat.one_mul, ← h]
      unfold FP.Core.nearest
      rw [Nat.mod_one, Nat.div_one, if_pos (by omega)]
  rw [hn]
  unfold FP.Core.settle FP.Core.bound
  rw [hp, if_pos h2, if_pos hq2]
