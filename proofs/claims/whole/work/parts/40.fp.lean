/-! floats: what a rounding of a positive number is, in the core's own words -/
def zf_N (f : FP.Core.Fmt) (n E : Nat) : Prop := ∃ T, T < f.tails ∧ n = E * f.tails + T ∧ 1 ≤ E ∧ E + 1 < f.exps
theorem zf_tails (f : FP.Core.Fmt) : 0 < f.tails := Nat.two_pow_pos _
theorem zf_dec {f : FP.Core.Fmt} {n E : Nat} (h : zf_N f n E) : ∃ c, f.tails ≤ c ∧ c < 2 * f.tails ∧ FP.Core.decode f n = .fin false c (f.qmin + ((E : Int) - 1)) ∧ n = E * f.tails + (c - f.tails) := by
  obtain ⟨T, hT, rfl, h1, h2⟩ := h
  have ht := zf_tails f
  have e1 : (E * f.tails + T) / f.tails = E := by
    rw [Nat.mul_comm, Nat.mul_add_div ht, Nat.div_eq_of_lt hT, Nat.add_zero]
  have e2 : (E * f.tails + T) % f.tails = T := by
    rw [Nat.mul_comm, Nat.mul_add_mod, Nat.mod_eq_of_lt hT]
  refine ⟨f.tails + T, by omega, by omega, ?_, by omega⟩
  unfold FP.Core.decode FP.Core.fieldE FP.Core.fieldT FP.Core.fieldS
  rw [e1, e2, Nat.mod_eq_of_lt (by omega), Nat.div_eq_of_lt (by omega), if_neg (by omega), if_neg (by omega)]
  rfl
theorem zf_enc {f : FP.Core.Fmt} {c : Nat} {q : Int} (h1 : f.tails ≤ c) (h2 : c < 2 * f.tails) (hq : f.qmin ≤ q) (hq2 : (q - f.qmin).toNat + 2 < f.exps) : zf_N f (FP.Core.encode f (.fin false c q)) ((q - f.qmin).toNat + 1) := by
  refine ⟨c - f.tails, by omega, ?_, by omega, by omega⟩
  unfold FP.Core.encode FP.Core.assemble
  simp only []
  rw [if_neg (by omega)]
  simp
/-- the rounding where the digits kept are p: num units over den -/
theorem zf_settle {f : FP.Core.Fmt} {s : Bool} {n d : Nat} {q : Int} (hp : 2 ^ f.p = 2 * f.tails) (hd : 0 < d) (h1 : d * f.tails ≤ n) (h2 : n < d * (2 * f.tails)) (hq : q + 1 ≤ f.qmax) :
    ∃ c q', FP.Core.settle f s (FP.Core.nearest n d) q = .fin s c q' ∧ f.tails ≤ c ∧ c < 2 * f.tails ∧ (q' = q ∨ q' = q + 1) := by
  have ht := zf_tails f
  have a1 : f.tails ≤ n / d := (Nat.le_div_iff_mul_le hd).mpr (by rw [Nat.mul_comm]; exact h1)
  have a2 : n / d < 2 * f.tails := (Nat.div_lt_iff_lt_mul hd).mpr (by rw [Nat.mul_comm]; exact h2)
  have b : n / d ≤ FP.Core.nearest n d ∧ FP.Core.nearest n d ≤ n / d + 1 := by
    unfold FP.Core.nearest
    split
    · omega
    · split
      · omega
      · have := Nat.mod_lt (n / d) (show 2 > 0 by decide); omega
  unfold FP.Core.settle FP.Core.bound
  rw [hp]
  by_cases hc : FP.Core.nearest n d < 2 * f.tails
  · rw [if_pos hc, if_pos (by omega)]
    exact ⟨_, _, rfl, by omega, hc, Or.inl rfl⟩
  · rw [if_neg hc, if_pos hq]
    exact ⟨_, _, rfl, Nat.le_refl _, by omega, Or.inr rfl⟩
theorem zf_lead1 {A a : Nat} (h1 : 2 ^ a ≤ A) (h2 : A < 2 ^ (a + 1)) : FP.Core.leading A 1 = a := by
  have hA : A ≠ 0 := by have := Nat.two_pow_pos a; omega
  have hl : A.log2 = a := (Nat.log2_eq_iff hA).mpr ⟨h1, h2⟩
  have h0 : Nat.log2 1 = 0 := by decide
  unfold FP.Core.leading
  rw [hl, h0]
  simp only [Int.ofNat_zero, Int.sub_zero, Int.toNat_natCast, Int.cast_ofNat_Int]
  rw [if_pos (by simpa using h1)]
/-- a whole number of 2^a and more, times 2^e, rounded -/
theorem zf_round1 {f : FP.Core.Fmt} {s : Bool} {A a : Nat} {e L : Int} (hpp : 1 ≤ f.p) (h1 : 2 ^ a ≤ A) (h2 : A < 2 ^ (a + 1)) (hL : L = a + e - ((f.p : Int) - 1)) (hq : f.qmin ≤ L) (hq2 : L + 1 ≤ f.qmax) :
    ∃ c q', FP.Core.roundRatio f s A 1 e = .fin s c q' ∧ f.tails ≤ c ∧ c < 2 * f.tails ∧ (q' = L ∨ q' = L + 1) := by
  have hp : 2 ^ f.p = 2 * f.tails := by
    unfold FP.Core.Fmt.tails
    obtain ⟨k, hk⟩ : ∃ k, f.p = k + 1 := ⟨f.p - 1, by omega⟩
    rw [hk, Nat.add_sub_cancel, Nat.pow_succ, Nat.mul_comm]
  have hA : A ≠ 0 := by have := Nat.two_pow_pos a; omega
  unfold FP.Core.roundRatio FP.Core.roundAt
  rw [if_neg hA]
  have hqu : FP.Core.quantum f A 1 e = L := by
    unfold FP.Core.quantum
    rw [zf_lead1 h1 h2]; omega
  rw [hqu]
  have htt : f.tails = 2 ^ (f.p - 1) := rfl
  refine zf_settle hp ?_ ?_ ?_ hq2
  · unfold FP.Core.unitsDen; exact Nat.mul_pos (by decide) (Nat.two_pow_pos _)
  · unfold FP.Core.unitsDen FP.Core.unitsNum
    rw [Nat.one_mul, htt, ← Nat.pow_add]
    by_cases hc : f.p - 1 ≤ a
    · have e1 : (L - e).toNat + (f.p - 1) = a := by omega
      have e2 : (e - L).toNat = 0 := by omega
      rw [e1, e2, Nat.pow_zero, Nat.mul_one]; exact h1
    · have e1 : (L - e).toNat = 0 := by omega
      have e2 : (e - L).toNat + a = f.p - 1 := by omega
      rw [e1, Nat.zero_add, ← e2, Nat.pow_add, Nat.mul_comm]; exact Nat.mul_le_mul_right _ h1
  · unfold FP.Core.unitsDen FP.Core.unitsNum
    have htt2 : 2 * f.tails = 2 ^ f.p := hp.symm
    rw [Nat.one_mul, htt2, ← Nat.pow_add]
    by_cases hc : f.p - 1 ≤ a
    · have e1 : (L - e).toNat + f.p = a + 1 := by omega
      have e2 : (e - L).toNat = 0 := by omega
      rw [e1, e2, Nat.pow_zero, Nat.mul_one]; exact h2
    · have e1 : (L - e).toNat = 0 := by omega
      have e2 : (a + 1) + (e - L).toNat = f.p := by omega
      rw [e1, Nat.zero_add, ← e2, Nat.pow_add]; exact Nat.mul_lt_mul_of_pos_right h2 (Nat.two_pow_pos _)
/-- a quotient of two significands of p digits -/
theorem zf_roundq {f : FP.Core.Fmt} {s : Bool} {A B : Nat} {e : Int} (hpp : 1 ≤ f.p) (hA1 : f.tails ≤ A) (hA2 : A < 2 * f.tails) (hB1 : f.tails ≤ B) (hB2 : B < 2 * f.tails) (hq : f.qmin ≤ e - (f.p : Int)) (hq2 : e - (f.p : Int) + 2 ≤ f.qmax) :
    ∃ c q', FP.Core.roundRatio f s A B e = .fin s c q' ∧ f.tails ≤ c ∧ c < 2 * f.tails ∧ e - (f.p : Int) ≤ q' ∧ q' ≤ e - (f.p : Int) + 2 := by
  have ht := zf_tails f
  have htt : f.tails = 2 ^ (f.p - 1) := rfl
  have hp : 2 ^ f.p = 2 * f.tails := by
    unfold FP.Core.Fmt.tails
    obtain ⟨k, hk⟩ : ∃ k, f.p = k + 1 := ⟨f.p - 1, by omega⟩
    rw [hk, Nat.add_sub_cancel, Nat.pow_succ, Nat.mul_comm]
  have lA : A.log2 = f.p - 1 := (Nat.log2_eq_iff (by omega)).mpr ⟨by rw [← htt]; exact hA1, by rw [Nat.sub_add_cancel hpp, hp]; exact hA2⟩
  have lB : B.log2 = f.p - 1 := (Nat.log2_eq_iff (by omega)).mpr ⟨by rw [← htt]; exact hB1, by rw [Nat.sub_add_cancel hpp, hp]; exact hB2⟩
  unfold FP.Core.roundRatio FP.Core.roundAt
  rw [if_neg (by omega)]
  have hlead : FP.Core.leading A B = if B ≤ A then 0 else -1 := by
    unfold FP.Core.leading
    rw [lA, lB]
    simp only [Int.sub_self, Int.toNat_zero, Int.neg_zero, Nat.pow_zero, Nat.mul_one]
    split <;> rfl
  by_cases hc : B ≤ A
  · have hqu : FP.Core.quantum f A B e = e - (f.p : Int) + 1 := by
      unfold FP.Core.quantum
      rw [hlead, if_pos hc]; omega
    rw [hqu]
    have e1 : (e - (f.p : Int) + 1 - e).toNat = 0 := by omega
    have e2 : (e - (e - (f.p : Int) + 1)).toNat = f.p - 1 := by omega
    obtain ⟨c, q', h1, h2, h3, h4⟩ := zf_settle (f := f) (s := s) (n := FP.Core.unitsNum A e (e - (f.p : Int) + 1)) (d := FP.Core.unitsDen B e (e - (f.p : Int) + 1)) (q := e - (f.p : Int) + 1) hp
      (by unfold FP.Core.unitsDen; rw [e1]; omega)
      (by unfold FP.Core.unitsDen FP.Core.unitsNum; rw [e1, e2, Nat.pow_zero, Nat.mul_one, ← htt]; exact Nat.mul_le_mul_right _ hc)
      (by unfold FP.Core.unitsDen FP.Core.unitsNum; rw [e1, e2, Nat.pow_zero, Nat.mul_one, ← htt]
          have : A * f.tails < (B * 2) * f.tails := Nat.mul_lt_mul_of_pos_right (by omega) ht
          rw [Nat.mul_assoc] at this; exact this) (by omega)
    exact ⟨c, q', h1, h2, h3, by omega, by omega⟩
  · have hqu : FP.Core.quantum f A B e = e - (f.p : Int) := by
      unfold FP.Core.quantum
      rw [hlead, if_neg hc]; omega
    rw [hqu]
    have e1 : (e - (f.p : Int) - e).toNat = 0 := by omega
    have e2 : (e - (e - (f.p : Int))).toNat = f.p := by omega
    obtain ⟨c, q', h1, h2, h3, h4⟩ := zf_settle (f := f) (s := s) (n := FP.Core.unitsNum A e (e - (f.p : Int))) (d := FP.Core.unitsDen B e (e - (f.p : Int))) (q := e - (f.p : Int)) hp
      (by unfold FP.Core.unitsDen; rw [e1]; omega)
      (by unfold FP.Core.unitsDen FP.Core.unitsNum; rw [e1, e2, Nat.pow_zero, Nat.mul_one, hp, ← Nat.mul_assoc]; exact Nat.mul_le_mul_right _ (by omega))
      (by unfold FP.Core.unitsDen FP.Core.unitsNum; rw [e1, e2, Nat.pow_zero, Nat.mul_one, hp]; exact Nat.mul_lt_mul_of_pos_right (by omega) (by omega)) (by omega)
    exact ⟨c, q', h1, h2, h3, by omega, by omega⟩
