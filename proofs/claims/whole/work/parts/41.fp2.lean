/-! the four operations on positive numbers, by their exponents -/
def zf_G (f : FP.Core.Fmt) (em : Nat) : Prop := 1 ≤ f.p ∧ f.qmin = 2 - (em : Int) - f.p ∧ f.qmax = (em : Int) - f.p + 1 ∧ f.exps = 2 * em + 2
theorem zf_G32 : zf_G FP.Core.b32 127 := by unfold zf_G; decide
theorem zf_G64 : zf_G FP.Core.b64 1023 := by unfold zf_G; decide
theorem zf_tt {f : FP.Core.Fmt} {em : Nat} (h : zf_G f em) : 2 ^ f.p = 2 * f.tails := by
  unfold FP.Core.Fmt.tails
  obtain ⟨k, hk⟩ : ∃ k, f.p = k + 1 := ⟨f.p - 1, by have := h.1; omega⟩
  rw [hk, Nat.add_sub_cancel, Nat.pow_succ, Nat.mul_comm]
theorem zf_prod {t c d k : Nat} (ht : t * t = 2 ^ k) (c1 : t ≤ c) (c2 : c < 2 * t) (d1 : t ≤ d) (d2 : d < 2 * t) : ∃ a : Nat, 2 ^ a ≤ c * d ∧ c * d < 2 ^ (a + 1) ∧ (a = k ∨ a = k + 1) := by
  have m1 : t * t ≤ c * d := Nat.mul_le_mul c1 d1
  have m2 : c * d < (2 * t) * (2 * t) := Nat.mul_lt_mul'' c2 d2
  have e : (2 * t) * (2 * t) = 2 ^ (k + 2) := by
    rw [Nat.mul_mul_mul_comm, ht, Nat.pow_add, Nat.mul_comm]
  rw [e] at m2
  rw [ht] at m1
  by_cases h : c * d < 2 ^ (k + 1)
  · exact ⟨k, m1, h, Or.inl rfl⟩
  · exact ⟨k + 1, Nat.le_of_not_lt h, m2, Or.inr rfl⟩
theorem zf_mul {f : FP.Core.Fmt} {em x y E1 E2 : Nat} (hf : zf_G f em) (hx : zf_N f x E1) (hy : zf_N f y E2) (h1 : em + 1 ≤ E1 + E2) (h2 : E1 + E2 + 3 ≤ 3 * em) : ∃ E, zf_N f (FP.Core.mul f x y) E ∧ E1 + E2 ≤ E + em ∧ E + em ≤ E1 + E2 + 2 := by
  obtain ⟨g1, g2, g3, g4⟩ := id hf
  obtain ⟨c, c1, c2, hc, -⟩ := zf_dec hx
  obtain ⟨d, d1, d2, hd, -⟩ := zf_dec hy
  have htt : f.tails * f.tails = 2 ^ (2 * (f.p - 1)) := by
    show 2 ^ (f.p - 1) * 2 ^ (f.p - 1) = _
    rw [← Nat.pow_add]; congr 1; omega
  obtain ⟨a, k1, k2, k3⟩ := zf_prod htt c1 c2 d1 d2
  obtain ⟨e, he⟩ : ∃ e : Int, e = f.qmin + ((E1 : Int) - 1) + (f.qmin + ((E2 : Int) - 1)) := ⟨_, rfl⟩
  have hm : FP.Core.mul f x y = FP.Core.encode f (FP.Core.roundRatio f (false != false) (c * d) 1 e) := by
    unfold FP.Core.mul
    rw [hc, hd, he]
    rfl
  obtain ⟨z, q', r1, r2, r3, r4⟩ := zf_round1 (f := f) (s := (false != false)) (A := c * d) (a := a) (e := e) (L := a + e - ((f.p : Int) - 1)) g1 k1 k2 rfl (by clear hm k1 k2 htt; omega) (by clear hm k1 k2 htt; omega)
  rw [hm, r1]
  clear hm r1 k1 k2 htt
  exact ⟨_, zf_enc r2 r3 (by omega) (by omega), by omega, by omega⟩
theorem zf_div {f : FP.Core.Fmt} {em x y E1 E2 : Nat} (hf : zf_G f em) (hx : zf_N f x E1) (hy : zf_N f y E2) (h1 : E2 + 2 ≤ E1 + em) (h2 : E1 + 2 ≤ E2 + em) : ∃ E, zf_N f (FP.Core.div f x y) E ∧ E1 + em ≤ E + E2 + 1 ∧ E + E2 ≤ E1 + em + 1 := by
  obtain ⟨g1, g2, g3, g4⟩ := id hf
  obtain ⟨c, c1, c2, hc, -⟩ := zf_dec hx
  obtain ⟨d, d1, d2, hd, -⟩ := zf_dec hy
  have ht := zf_tails f
  unfold FP.Core.div FP.Core.quotient
  rw [hc, hd]
  simp only []
  rw [if_neg (by omega)]
  obtain ⟨z, q', r1, r2, r3, r4, r5⟩ := zf_roundq (f := f) (s := (false != false)) (A := c) (B := d) (e := f.qmin + (↑E1 - 1) - (f.qmin + (↑E2 - 1))) g1 c1 c2 d1 d2 (by omega) (by omega)
  rw [r1]
  exact ⟨_, zf_enc r2 r3 (by omega) (by omega), by omega, by omega⟩
/-- a sum of two that aren't below 0; the greater exponent is M -/
theorem zf_sum {f : FP.Core.Fmt} {em c d : Nat} {q r M : Int} (hf : zf_G f em) (hc : c < 2 * f.tails) (hd : d < 2 * f.tails) (hM : (M = q ∧ f.tails ≤ c ∧ (r ≤ q ∨ d = 0)) ∨ (M = r ∧ f.tails ≤ d ∧ (q ≤ r ∨ c = 0))) (hq0 : f.qmin ≤ q) (hr0 : f.qmin ≤ r) (hq : f.qmin ≤ M) (hq2 : M + 2 ≤ f.qmax) :
    ∃ E, zf_N f (FP.Core.encode f (FP.Core.round f (FP.Core.exactSum (.fin false c q) (.fin false d r)))) E ∧ M - f.qmin + 1 ≤ E ∧ (E : Int) ≤ M - f.qmin + 3 := by
  obtain ⟨g1, g2, g3, g4⟩ := id hf
  have ht := zf_tails f
  have htt : f.tails = 2 ^ (f.p - 1) := rfl
  have hp := zf_tt hf
  obtain ⟨A, hA⟩ : ∃ A : Nat, A = c * 2 ^ (q - min q r).toNat + d * 2 ^ (r - min q r).toNat := ⟨_, rfl⟩
  have hs : FP.Core.exactSum (.fin false c q) (.fin false d r) = .fin false A (min q r) := by
    unfold FP.Core.exactSum FP.Core.sumUnits FP.Core.signed FP.Core.inUnits FP.Core.sumSign
    simp only [Bool.false_eq_true, if_false, Bool.and_false]
    have e : ((c * 2 ^ (q - min q r).toNat : Nat) : Int) + ((d * 2 ^ (r - min q r).toNat : Nat) : Int) = (A : Int) := by rw [hA]; omega
    rw [e]
    have e2 : (if (A : Int) = 0 then false else decide ((A : Int) < 0)) = false := by
      split
      · rfl
      · exact decide_eq_false (by omega)
    rw [e2, Int.natAbs_natCast]
  rw [hs]
  show ∃ E, zf_N f (FP.Core.encode f (FP.Core.roundRatio f false A 1 (min q r))) E ∧ _
  -- how large A is
  have hb : f.tails * 2 ^ (M - min q r).toNat ≤ A ∧ A < 4 * f.tails * 2 ^ (M - min q r).toNat := by
    have p1 := Nat.two_pow_pos (q - min q r).toNat
    have p2 := Nat.two_pow_pos (r - min q r).toNat
    rcases hM with ⟨rfl, m1, m2⟩ | ⟨rfl, m1, m2⟩
    · have u1 : f.tails * 2 ^ (M - min M r).toNat ≤ c * 2 ^ (M - min M r).toNat := Nat.mul_le_mul_right _ m1
      have u2 : c * 2 ^ (M - min M r).toNat < 2 * f.tails * 2 ^ (M - min M r).toNat := Nat.mul_lt_mul_of_pos_right hc p1
      have u3 : d * 2 ^ (r - min M r).toNat ≤ 2 * f.tails * 2 ^ (M - min M r).toNat := by
        rcases m2 with m2 | m2
        · exact Nat.mul_le_mul (by omega) (Nat.pow_le_pow_right (by decide) (by omega))
        · rw [m2]; simp
      have e : 4 * f.tails * 2 ^ (M - min M r).toNat = 2 * f.tails * 2 ^ (M - min M r).toNat + 2 * f.tails * 2 ^ (M - min M r).toNat := by rw [← Nat.add_mul]; congr 1; omega
      omega
    · have u1 : f.tails * 2 ^ (M - min q M).toNat ≤ d * 2 ^ (M - min q M).toNat := Nat.mul_le_mul_right _ m1
      have u2 : d * 2 ^ (M - min q M).toNat < 2 * f.tails * 2 ^ (M - min q M).toNat := Nat.mul_lt_mul_of_pos_right hd p2
      have u3 : c * 2 ^ (q - min q M).toNat ≤ 2 * f.tails * 2 ^ (M - min q M).toNat := by
        rcases m2 with m2 | m2
        · exact Nat.mul_le_mul (by omega) (Nat.pow_le_pow_right (by decide) (by omega))
        · rw [m2]; simp
      have e : 4 * f.tails * 2 ^ (M - min q M).toNat = 2 * f.tails * 2 ^ (M - min q M).toNat + 2 * f.tails * 2 ^ (M - min q M).toNat := by rw [← Nat.add_mul]; congr 1; omega
      omega
  have hMm : min q r ≤ M := by rcases hM with ⟨rfl, -, -⟩ | ⟨rfl, -, -⟩ <;> omega
  have w1 : f.tails * 2 ^ (M - min q r).toNat = 2 ^ (f.p - 1 + (M - min q r).toNat) := by rw [htt, ← Nat.pow_add]
  have w2 : 4 * f.tails * 2 ^ (M - min q r).toNat = 2 ^ (f.p - 1 + (M - min q r).toNat + 2) := by rw [Nat.mul_assoc, w1, Nat.pow_add _ _ 2, Nat.mul_comm]
  rw [w1, w2] at hb
  have key : ∃ a : Nat, 2 ^ a ≤ A ∧ A < 2 ^ (a + 1) ∧ (a = f.p - 1 + (M - min q r).toNat ∨ a = f.p - 1 + (M - min q r).toNat + 1) := by
    by_cases h : A < 2 ^ (f.p - 1 + (M - min q r).toNat + 1)
    · exact ⟨_, hb.1, h, Or.inl rfl⟩
    · exact ⟨_, by omega, hb.2, Or.inr rfl⟩
  obtain ⟨a, k1, k2, k3⟩ := key
  obtain ⟨z, q', r1, r2, r3, r4⟩ := zf_round1 (f := f) (s := false) (A := A) (a := a) (e := min q r) (L := a + min q r - ((f.p : Int) - 1)) g1 k1 k2 rfl (by omega) (by omega)
  rw [r1]
  exact ⟨_, zf_enc r2 r3 (by omega) (by omega), by omega, by omega⟩
theorem zf_dec0 (f : FP.Core.Fmt) (h : 2 ≤ f.exps) : FP.Core.decode f 0 = .fin false 0 f.qmin := by
  unfold FP.Core.decode FP.Core.fieldE FP.Core.fieldT FP.Core.fieldS
  rw [Nat.zero_div, Nat.zero_mod, if_neg (by omega), if_pos rfl, Nat.zero_div, Nat.zero_mod]
  rfl
theorem zf_enc0 (f : FP.Core.Fmt) (q : Int) : FP.Core.encode f (.fin false 0 q) = 0 := by
  unfold FP.Core.encode FP.Core.assemble
  simp [zf_tails]
/-- 0, or a number between two exponents -/
def zf_R (f : FP.Core.Fmt) (lo hi n : Nat) : Prop := n = 0 ∨ ∃ E, zf_N f n E ∧ lo ≤ E ∧ E ≤ hi
theorem zf_R_mono {f : FP.Core.Fmt} {lo hi lo' hi' n : Nat} (h : zf_R f lo hi n) (h1 : lo' ≤ lo) (h2 : hi ≤ hi') : zf_R f lo' hi' n := by
  rcases h with h | ⟨E, a, b, c⟩
  · exact Or.inl h
  · exact Or.inr ⟨E, a, by omega, by omega⟩
theorem zf_R_mul {f : FP.Core.Fmt} {em x y a b c d : Nat} (hf : zf_G f em) (hx : zf_R f a b x) (hy : zf_R f c d y) (h1 : em + 1 ≤ a + c) (h2 : b + d + 3 ≤ 3 * em) (hem : 1 ≤ em) : zf_R f (a + c - em) (b + d + 2 - em) (FP.Core.mul f x y) := by
  have g4 := hf.2.2.2
  have d0 := zf_dec0 f (by omega)
  rcases hx with rfl | ⟨E1, x1, x2, x3⟩
  · left
    rcases hy with rfl | ⟨E2, y1, y2, y3⟩
    · unfold FP.Core.mul; rw [d0]; show FP.Core.encode f (FP.Core.roundRatio f (false != false) (0 * 0) 1 _) = 0
      unfold FP.Core.roundRatio; rw [if_pos (by omega)]; exact zf_enc0 f _
    · obtain ⟨k, -, -, hk, -⟩ := zf_dec y1
      unfold FP.Core.mul; rw [d0, hk]; show FP.Core.encode f (FP.Core.roundRatio f (false != false) (0 * k) 1 _) = 0
      unfold FP.Core.roundRatio; rw [if_pos (by omega)]; exact zf_enc0 f _
  · rcases hy with rfl | ⟨E2, y1, y2, y3⟩
    · left
      obtain ⟨k, -, -, hk, -⟩ := zf_dec x1
      unfold FP.Core.mul; rw [d0, hk]; show FP.Core.encode f (FP.Core.roundRatio f (false != false) (k * 0) 1 _) = 0
      unfold FP.Core.roundRatio; rw [if_pos (by omega)]; exact zf_enc0 f _
    · right
      obtain ⟨E, e1, e2, e3⟩ := zf_mul hf x1 y1 (by omega) (by omega)
      exact ⟨E, e1, by omega, by omega⟩
theorem zf_R_div {f : FP.Core.Fmt} {em x y a b E2 : Nat} (hf : zf_G f em) (hx : zf_R f a b x) (hy : zf_N f y E2) (h1 : E2 + 2 ≤ a + em) (h2 : b + 2 ≤ E2 + em) : zf_R f (a + em - E2 - 1) (b + em + 1 - E2) (FP.Core.div f x y) := by
  have g4 := hf.2.2.2
  rcases hx with rfl | ⟨E1, x1, x2, x3⟩
  · left
    have ht := zf_tails f
    obtain ⟨k, k1, -, hk, -⟩ := zf_dec hy
    obtain ⟨-, -, -, w1, w2⟩ := id hy
    unfold FP.Core.div FP.Core.quotient; rw [zf_dec0 f (by omega), hk]
    simp only []
    rw [if_neg (by omega)]
    unfold FP.Core.roundRatio; rw [if_pos rfl]; exact zf_enc0 f _
  · right
    obtain ⟨E, e1, e2, e3⟩ := zf_div hf x1 hy (by omega) (by omega)
    exact ⟨E, e1, by omega, by omega⟩
theorem zf_R_add {f : FP.Core.Fmt} {em x y a b c d : Nat} (hf : zf_G f em) (hx : zf_R f a b x) (hy : zf_R f c d y) (h2 : b + 3 ≤ 2 * em) (h3 : d + 3 ≤ 2 * em) (hem : 1 ≤ em) : zf_R f (min a c) (max b d + 2) (FP.Core.add f x y) := by
  obtain ⟨g1, g2, g3, g4⟩ := id hf
  have d0 := zf_dec0 f (by omega)
  have ht := zf_tails f
  unfold FP.Core.add
  rcases hx with rfl | ⟨E1, x1, x2, x3⟩
  · rcases hy with rfl | ⟨E2, y1, y2, y3⟩
    · left
      rw [d0]
      have hs : FP.Core.exactSum (.fin false 0 f.qmin) (.fin false 0 f.qmin) = .fin false 0 f.qmin := by
        unfold FP.Core.exactSum FP.Core.sumUnits FP.Core.signed FP.Core.inUnits FP.Core.sumSign
        simp
      rw [hs]
      show FP.Core.encode f (FP.Core.roundRatio f false 0 1 _) = 0
      unfold FP.Core.roundRatio; rw [if_pos rfl]; exact zf_enc0 f _
    · right
      obtain ⟨k, k1, k2, hk, -⟩ := zf_dec y1
      rw [d0, hk]
      obtain ⟨E, e1, e2, e3⟩ := zf_sum (c := 0) (d := k) (q := f.qmin) (r := f.qmin + ((E2 : Int) - 1)) (M := f.qmin + ((E2 : Int) - 1)) hf (by omega) k2 (Or.inr ⟨rfl, k1, Or.inr rfl⟩) (by omega) (by obtain ⟨-, -, -, w1, w2⟩ := id y1; omega) (by obtain ⟨-, -, -, w1, w2⟩ := id y1; omega) (by omega)
      exact ⟨E, e1, by omega, by omega⟩
  · obtain ⟨-, -, -, v1, v2⟩ := id x1
    obtain ⟨j, j1, j2, hj, -⟩ := zf_dec x1
    rcases hy with rfl | ⟨E2, y1, y2, y3⟩
    · right
      rw [d0, hj]
      obtain ⟨E, e1, e2, e3⟩ := zf_sum (c := j) (d := 0) (q := f.qmin + ((E1 : Int) - 1)) (r := f.qmin) (M := f.qmin + ((E1 : Int) - 1)) hf j2 (by omega) (Or.inl ⟨rfl, j1, Or.inr rfl⟩) (by omega) (by omega) (by omega) (by omega)
      exact ⟨E, e1, by omega, by omega⟩
    · right
      obtain ⟨-, -, -, w1, w2⟩ := id y1
      obtain ⟨k, k1, k2, hk, -⟩ := zf_dec y1
      rw [hj, hk]
      rcases Nat.le_total E1 E2 with hle | hle
      · obtain ⟨E, e1, e2, e3⟩ := zf_sum (c := j) (d := k) (q := f.qmin + ((E1 : Int) - 1)) (r := f.qmin + ((E2 : Int) - 1)) (M := f.qmin + ((E2 : Int) - 1)) hf j2 k2 (Or.inr ⟨rfl, k1, Or.inl (by omega)⟩) (by omega) (by omega) (by omega) (by omega)
        exact ⟨E, e1, by omega, by omega⟩
      · obtain ⟨E, e1, e2, e3⟩ := zf_sum (c := j) (d := k) (q := f.qmin + ((E1 : Int) - 1)) (r := f.qmin + ((E2 : Int) - 1)) (M := f.qmin + ((E1 : Int) - 1)) hf j2 k2 (Or.inl ⟨rfl, j1, Or.inl (by omega)⟩) (by omega) (by omega) (by omega) (by omega)
        exact ⟨E, e1, by omega, by omega⟩
theorem zf_R_int {f : FP.Core.Fmt} {em n k : Nat} (hf : zf_G f em) (hn : n < 2 ^ k) (hk : k + 2 ≤ em) (hem : (f.p : Nat) + 1 ≤ em) : zf_R f em (em + k) (FP.Core.fromInt f (n : Int)) := by
  obtain ⟨g1, g2, g3, g4⟩ := id hf
  unfold FP.Core.fromInt FP.Core.ofInt
  have e1 : decide ((n : Int) < 0) = false := decide_eq_false (by omega)
  rw [e1, Int.natAbs_natCast]
  show zf_R f em (em + k) (FP.Core.encode f (FP.Core.roundRatio f false n 1 0))
  by_cases h0 : n = 0
  · left; subst h0
    unfold FP.Core.roundRatio; rw [if_pos rfl]; exact zf_enc0 f _
  · right
    have b1 := (Nat.log2_eq_iff (k := n.log2) h0).mp rfl
    have b2 : n.log2 < k := by
      rcases Nat.lt_or_ge n.log2 k with h | h
      · exact h
      · have := Nat.pow_le_pow_right (n := 2) (by decide) h; omega
    obtain ⟨z, q', r1, r2, r3, r4⟩ := zf_round1 (f := f) (s := false) (A := n) (a := n.log2) (e := 0) (L := n.log2 + 0 - ((f.p : Int) - 1)) g1 b1.1 b1.2 rfl (by omega) (by omega)
    rw [r1]
    exact ⟨_, zf_enc r2 r3 (by omega) (by omega), by omega, by omega⟩
