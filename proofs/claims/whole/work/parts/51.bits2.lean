/-! the bits as numbers: exponent E, significand c -/
def zf_B (f : FP.Core.Fmt) (c E : Nat) : Nat := E * f.tails + (c - f.tails)
theorem zf_B_N {f : FP.Core.Fmt} {c E : Nat} (h1 : f.tails ≤ c) (h2 : c < 2 * f.tails) (h3 : 1 ≤ E) (h4 : E + 1 < f.exps) : zf_N f (zf_B f c E) E := ⟨c - f.tails, by omega, rfl, h3, h4⟩
theorem zf_N_B {f : FP.Core.Fmt} {n E : Nat} (h : zf_N f n E) : ∃ c, f.tails ≤ c ∧ c < 2 * f.tails ∧ n = zf_B f c E := by
  obtain ⟨c, h1, h2, -, h4⟩ := zf_dec h
  exact ⟨c, h1, h2, h4⟩
theorem zf_decB {f : FP.Core.Fmt} {c E : Nat} (h1 : f.tails ≤ c) (h2 : c < 2 * f.tails) (h3 : 1 ≤ E) (h4 : E + 1 < f.exps) : FP.Core.decode f (zf_B f c E) = .fin false c (f.qmin + ((E : Int) - 1)) := by
  obtain ⟨d, d1, d2, d3, d4⟩ := zf_dec (zf_B_N h1 h2 h3 h4)
  have : d = c := by unfold zf_B at d4; omega
  rw [d3, this]
theorem zf_encB {f : FP.Core.Fmt} {c E : Nat} {q : Int} (h1 : f.tails ≤ c) (hq : q = f.qmin + ((E : Int) - 1)) (h3 : 1 ≤ E) : FP.Core.encode f (.fin false c q) = zf_B f c E := by
  have e : (q - f.qmin).toNat + 1 = E := by omega
  unfold FP.Core.encode FP.Core.assemble zf_B
  simp only []
  rw [if_neg (by omega), e]
  simp
theorem zf_B64 {c E : Nat} (h2 : c < 2 * FP.Core.b64.tails) (h4 : E + 1 < 2048) : zf_B FP.Core.b64 c E < 2 ^ 63 := by
  have e1 : FP.Core.b64.tails = 4503599627370496 := by decide
  unfold zf_B; rw [e1] at h2 ⊢; omega
theorem zf_oN {n : Nat} (h : n < 2 ^ 63) : (UInt64.ofNat n).toNat = n := UInt64.toNat_ofNat_of_lt' (by show n < 2 ^ 64; omega)
theorem zf_t64 : FP.Core.b64.tails = 2 ^ 52 := by decide
theorem zf_q64 : FP.Core.b64.qmin = -1074 := by decide
theorem zf_x64 : FP.Core.b64.qmax = 971 := by decide
theorem zf_e64 : FP.Core.b64.exps = 2048 := by decide
theorem zf_p64 : FP.Core.b64.p = 53 := by decide
theorem zf_two_d : FP.Core.decode FP.Core.b64 (4611686018427387904 : UInt64).toNat = .fin false FP.Core.b64.tails (-51) := by decide +kernel
theorem zf_one_d : FP.Core.decode FP.Core.b64 FP.dconst1.toNat = .fin false FP.Core.b64.tails (-52) := by decide +kernel
theorem zf_halve {x : UInt64} {c E : Nat} (hx : x.toNat = zf_B FP.Core.b64 c E) (h1 : FP.Core.b64.tails ≤ c) (h2 : c < 2 * FP.Core.b64.tails) (h3 : 2 ≤ E) (h4 : E + 1 < 2048) : (FP.ddiv x 4611686018427387904).toNat = zf_B FP.Core.b64 c (E - 1) := by
  have ht := zf_tails FP.Core.b64
  show (UInt64.ofNat (FP.Core.encode FP.Core.b64 (FP.Core.quotient FP.Core.b64 (FP.Core.decode FP.Core.b64 x.toNat) (FP.Core.decode FP.Core.b64 (4611686018427387904 : UInt64).toNat)))).toNat = _
  rw [zf_two_d, hx, zf_decB h1 h2 (by omega) (by rw [zf_e64]; exact h4)]
  unfold FP.Core.quotient
  simp only []
  rw [if_neg (by omega), zf_exq (L := FP.Core.b64.qmin + ((E : Int) - 1) - (-51) - 52) (by decide) h1 h2 (by rw [zf_p64]; omega) (by rw [zf_q64]; omega) (by rw [zf_x64, zf_q64]; omega)]
  show (UInt64.ofNat (FP.Core.encode FP.Core.b64 (.fin false c _))).toNat = _
  rw [zf_encB (E := E - 1) h1 (by rw [zf_q64]; omega) (by omega)]
  exact zf_oN (zf_B64 h2 (by omega))
theorem zf_double {x : UInt64} {c E : Nat} (hx : x.toNat = zf_B FP.Core.b64 c E) (h1 : FP.Core.b64.tails ≤ c) (h2 : c < 2 * FP.Core.b64.tails) (h3 : 1 ≤ E) (h4 : E + 2 < 2048) : (FP.dmul x 4611686018427387904).toNat = zf_B FP.Core.b64 c (E + 1) := by
  show (UInt64.ofNat (FP.Core.encode FP.Core.b64 (FP.Core.round FP.Core.b64 (FP.Core.exactProduct (FP.Core.decode FP.Core.b64 x.toNat) (FP.Core.decode FP.Core.b64 (4611686018427387904 : UInt64).toNat))))).toNat = _
  rw [zf_two_d, hx, zf_decB h1 h2 (by omega) (by rw [zf_e64]; omega)]
  show (UInt64.ofNat (FP.Core.encode FP.Core.b64 (FP.Core.roundRatio FP.Core.b64 (false != false) (c * FP.Core.b64.tails) 1 (FP.Core.b64.qmin + ((E : Int) - 1) + (-51))))).toNat = _
  rw [zf_ex1 (c := c) (j := 52) (L := FP.Core.b64.qmin + ((E : Int) - 1) + (-51) + 52) (by decide) h1 h2 (Or.inl ⟨by rw [zf_t64], by omega⟩) (by rw [zf_q64]; omega) (by rw [zf_x64, zf_q64]; omega)]
  show (UInt64.ofNat (FP.Core.encode FP.Core.b64 (.fin false c _))).toNat = _
  rw [zf_encB (E := E + 1) h1 (by rw [zf_q64]; omega) (by omega)]
  exact zf_oN (zf_B64 h2 (by omega))
/-- what lies behind the leading digit: 0, or a number of its own -/
theorem zf_less1 {x : UInt64} {c : Nat} (hx : x.toNat = zf_B FP.Core.b64 c 1023) (h1 : FP.Core.b64.tails ≤ c) (h2 : c < 2 * FP.Core.b64.tails) :
    (c = FP.Core.b64.tails ∧ FP.dsub x FP.dconst1 = 0) ∨ ∃ j d, 1 ≤ j ∧ j ≤ 52 ∧ d = (c - FP.Core.b64.tails) * 2 ^ j ∧ FP.Core.b64.tails ≤ d ∧ d < 2 * FP.Core.b64.tails ∧ (FP.dsub x FP.dconst1).toNat = zf_B FP.Core.b64 d (1023 - j) := by
  have e0 : FP.dsub x FP.dconst1 = UInt64.ofNat (FP.Core.encode FP.Core.b64 (FP.Core.round FP.Core.b64 (FP.Core.exactSum (FP.Core.decode FP.Core.b64 x.toNat) (FP.Core.negate (FP.Core.decode FP.Core.b64 FP.dconst1.toNat))))) := rfl
  have hq : FP.Core.b64.qmin + (((1023 : Nat) : Int) - 1) = -52 := by rw [zf_q64]; rfl
  have hs : FP.Core.exactSum (.fin false c (-52)) (FP.Core.negate (.fin false FP.Core.b64.tails (-52))) = .fin false (c - FP.Core.b64.tails) (-52) := by
    unfold FP.Core.negate FP.Core.exactSum FP.Core.sumUnits FP.Core.signed FP.Core.inUnits FP.Core.sumSign
    simp only [Int.min_self, Int.sub_self, Int.toNat_zero, Nat.pow_zero, Nat.mul_one, Bool.not_false, Bool.false_eq_true, if_false, if_true, Bool.false_and]
    have e : (c : Int) + -((FP.Core.b64.tails : Nat) : Int) = ((c - FP.Core.b64.tails : Nat) : Int) := by omega
    rw [e, Int.natAbs_natCast]
    have e2 : (if ((c - FP.Core.b64.tails : Nat) : Int) = 0 then false else decide (((c - FP.Core.b64.tails : Nat) : Int) < 0)) = false := by
      split
      · rfl
      · exact decide_eq_false (Int.not_lt.mpr (Int.natCast_nonneg _))
    rw [e2]
  rw [zf_one_d, hx, zf_decB h1 h2 (by omega) (by rw [zf_e64]; omega), hq, hs] at e0
  have e1 : FP.Core.round FP.Core.b64 (.fin false (c - FP.Core.b64.tails) (-52)) = FP.Core.roundRatio FP.Core.b64 false (c - FP.Core.b64.tails) 1 (-52) := rfl
  rw [e1] at e0
  by_cases h0 : c - FP.Core.b64.tails = 0
  · left
    refine ⟨by omega, ?_⟩
    rw [e0, h0]; decide +kernel
  · right
    have b1 := (Nat.log2_eq_iff (k := (c - FP.Core.b64.tails).log2) h0).mp rfl
    obtain ⟨a, ha⟩ : ∃ a, a = (c - FP.Core.b64.tails).log2 := ⟨_, rfl⟩
    rw [← ha] at b1
    have ha2 : a < 52 := by
      rcases Nat.lt_or_ge a 52 with h | h
      · exact h
      · have := Nat.pow_le_pow_right (n := 2) (by decide) h
        rw [zf_t64] at h2 b1; omega
    have d1 : FP.Core.b64.tails ≤ (c - FP.Core.b64.tails) * 2 ^ (52 - a) := by
      have := Nat.mul_le_mul_right (2 ^ (52 - a)) b1.1
      rw [← Nat.pow_add, show a + (52 - a) = 52 from by omega] at this
      rw [zf_t64] at this ⊢; exact this
    have d2 : (c - FP.Core.b64.tails) * 2 ^ (52 - a) < 2 * FP.Core.b64.tails := by
      have := Nat.mul_lt_mul_of_pos_right b1.2 (Nat.two_pow_pos (52 - a))
      rw [← Nat.pow_add, show a + 1 + (52 - a) = 53 from by omega] at this
      rw [zf_t64] at this ⊢; exact this
    refine ⟨52 - a, _, by omega, by omega, rfl, d1, d2, ?_⟩
    rw [e0, zf_ex1 (c := (c - FP.Core.b64.tails) * 2 ^ (52 - a)) (j := 52 - a) (L := -52 - ((52 - a : Nat) : Int)) (by decide) d1 d2 (Or.inr ⟨rfl, rfl⟩) (by rw [zf_q64]; omega) (by rw [zf_x64]; omega)]
    rw [zf_encB (E := 1023 - (52 - a)) d1 (by rw [zf_q64]; omega) (by omega)]
    exact zf_oN (zf_B64 d2 (by omega))
theorem zf_l2dp {D : Nat} (hD : D ≤ 52) : (FP.l2d (lN (2 ^ D))).toNat = zf_B FP.Core.b64 FP.Core.b64.tails (1023 + D) := by
  have hlt : 2 ^ D < 2 ^ 63 := Nat.pow_lt_pow_right (by decide) (by omega)
  show (UInt64.ofNat (FP.Core.fromInt FP.Core.b64 (lN (2 ^ D)).toInt)).toNat = _
  rw [pk_lT hlt]
  unfold FP.Core.fromInt FP.Core.ofInt
  have e1 : decide (((2 ^ D : Nat) : Int) < 0) = false := decide_eq_false (Int.not_lt.mpr (Int.natCast_nonneg _))
  rw [e1, Int.natAbs_natCast]
  show (UInt64.ofNat (FP.Core.encode FP.Core.b64 (FP.Core.roundRatio FP.Core.b64 false (2 ^ D) 1 0))).toNat = _
  rw [zf_ex1 (c := FP.Core.b64.tails) (j := 52 - D) (L := 0 - ((52 - D : Nat) : Int)) (by decide) (Nat.le_refl _) (by have := zf_tails FP.Core.b64; omega) (Or.inr ⟨by rw [zf_t64, ← Nat.pow_add]; congr 1; omega, rfl⟩) (by rw [zf_q64]; omega) (by rw [zf_x64]; omega)]
  rw [zf_encB (E := 1023 + D) (Nat.le_refl _) (by rw [zf_q64]; omega) (by omega)]
  exact zf_oN (zf_B64 (by have := zf_tails FP.Core.b64; omega) (by omega))
theorem zf_d2l0 {y : UInt64} {D : Nat} (hD : D ≤ 52) : FP.d2l (FP.dmul 0 (FP.l2d (lN (2 ^ D)))) = lN 0 := by
  have ht := zf_tails FP.Core.b64
  have e : FP.dmul 0 (FP.l2d (lN (2 ^ D))) = 0 := by
    show UInt64.ofNat (FP.Core.encode FP.Core.b64 (FP.Core.round FP.Core.b64 (FP.Core.exactProduct (FP.Core.decode FP.Core.b64 0) (FP.Core.decode FP.Core.b64 (FP.l2d (lN (2 ^ D))).toNat)))) = 0
    rw [zf_l2dp hD, zf_decB (Nat.le_refl _) (by omega) (by omega) (by rw [zf_e64]; omega), zf_dec0 FP.Core.b64 (by decide)]
    show UInt64.ofNat (FP.Core.encode FP.Core.b64 (FP.Core.roundRatio FP.Core.b64 (false != false) (0 * FP.Core.b64.tails) 1 _)) = 0
    rw [Nat.zero_mul]
    unfold FP.Core.roundRatio; rw [if_pos rfl]
    show UInt64.ofNat (FP.Core.encode FP.Core.b64 (.fin false 0 _)) = 0
    rw [zf_enc0]; rfl
  rw [e]; decide +kernel
theorem zf_d2ln {z : UInt64} {T d j D : Nat} (hz : z.toNat = zf_B FP.Core.b64 d (1023 - j)) (hj1 : 1 ≤ j) (hj : j ≤ 52) (hd : d = T * 2 ^ j) (h1 : FP.Core.b64.tails ≤ d) (h2 : d < 2 * FP.Core.b64.tails) (hD : D ≤ 52) : FP.d2l (FP.dmul z (FP.l2d (lN (2 ^ D)))) = lN (T / 2 ^ (52 - D)) := by
  have ht := zf_tails FP.Core.b64
  have e : (FP.dmul z (FP.l2d (lN (2 ^ D)))).toNat = zf_B FP.Core.b64 d (1023 - j + D) := by
    show (UInt64.ofNat (FP.Core.encode FP.Core.b64 (FP.Core.round FP.Core.b64 (FP.Core.exactProduct (FP.Core.decode FP.Core.b64 z.toNat) (FP.Core.decode FP.Core.b64 (FP.l2d (lN (2 ^ D))).toNat))))).toNat = _
    rw [zf_l2dp hD, zf_decB (Nat.le_refl _) (by omega) (by omega) (by rw [zf_e64]; omega), hz, zf_decB h1 h2 (by omega) (by rw [zf_e64]; omega)]
    show (UInt64.ofNat (FP.Core.encode FP.Core.b64 (FP.Core.roundRatio FP.Core.b64 (false != false) (d * FP.Core.b64.tails) 1 (FP.Core.b64.qmin + (((1023 - j : Nat) : Int) - 1) + (FP.Core.b64.qmin + (((1023 + D : Nat) : Int) - 1)))))).toNat = _
    rw [zf_ex1 (c := d) (j := 52) (L := FP.Core.b64.qmin + (((1023 - j : Nat) : Int) - 1) + (FP.Core.b64.qmin + (((1023 + D : Nat) : Int) - 1)) + 52) (by decide) h1 h2 (Or.inl ⟨by rw [zf_t64], by omega⟩) (by rw [zf_q64]; omega) (by rw [zf_x64, zf_q64]; omega)]
    show (UInt64.ofNat (FP.Core.encode FP.Core.b64 (.fin false d _))).toNat = _
    rw [zf_encB (E := 1023 - j + D) h1 (by rw [zf_q64]; omega) (by omega)]
    exact zf_oN (zf_B64 h2 (by omega))
  show FP.Core.toL (FP.Core.decode FP.Core.b64 (FP.dmul z (FP.l2d (lN (2 ^ D)))).toNat) = _
  rw [e, zf_decB h1 h2 (by omega) (by rw [zf_e64]; omega)]
  unfold FP.Core.toL FP.Core.toInt FP.Core.truncate FP.Core.signed
  simp only [Bool.false_eq_true, if_false]
  have q1 : (FP.Core.b64.qmin + (((1023 - j + D : Nat) : Int) - 1)).toNat = 0 := by rw [zf_q64]; omega
  have q2 : (-(FP.Core.b64.qmin + (((1023 - j + D : Nat) : Int) - 1))).toNat = (52 - D) + j := by rw [zf_q64]; omega
  rw [q1, q2, Nat.pow_zero, Nat.mul_one, hd, Nat.pow_add, Nat.mul_div_mul_right _ _ (Nat.two_pow_pos j)]
  have hT : T / 2 ^ (52 - D) < 2 ^ 53 := by
    have p := Nat.two_pow_pos j
    have : T ≤ d := by rw [hd]; exact Nat.le_mul_of_pos_right _ p
    have h3 := Nat.div_le_self T (2 ^ (52 - D))
    rw [zf_t64] at h2; omega
  have hmm : max (-2 ^ 63 : Int) (min (2 ^ 63 - 1) ((T / 2 ^ (52 - D) : Nat) : Int)) = ((T / 2 ^ (52 - D) : Nat) : Int) := by
    obtain ⟨V, hV⟩ : ∃ V, V = T / 2 ^ (52 - D) := ⟨_, rfl⟩
    rw [← hV] at hT ⊢
    have h3 : (V : Int) ≤ 2 ^ 63 - 1 := by omega
    have h4 : (-2 ^ 63 : Int) ≤ (V : Int) := by omega
    rw [Int.min_eq_right h3, Int.max_eq_right h4]
  rw [hmm]; rfl
