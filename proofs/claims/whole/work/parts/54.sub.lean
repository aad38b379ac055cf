/-! differences: a number and its sign; squares of them -/
theorem zf_decneg {f : FP.Core.Fmt} {n c : Nat} {q : Int} (hn : n < f.exps * f.tails) (h : FP.Core.decode f n = .fin false c q) : FP.Core.decode f (f.exps * f.tails + n) = .fin true c q := by
  have ht := zf_tails f
  have he : 0 < f.exps := Nat.two_pow_pos _
  have hlt : n / f.tails < f.exps := (Nat.div_lt_iff_lt_mul ht).mpr hn
  have e1 : (f.exps * f.tails + n) / f.tails = f.exps + n / f.tails := by rw [Nat.mul_comm, Nat.mul_add_div ht]
  have e2 : (f.exps * f.tails + n) % f.tails = n % f.tails := by rw [Nat.mul_comm, Nat.mul_add_mod]
  have e3 : (f.exps + n / f.tails) % f.exps = n / f.tails := by rw [Nat.add_mod_left, Nat.mod_eq_of_lt hlt]
  have e4 : (f.exps + n / f.tails) / f.exps = 1 := by rw [Nat.add_div_left _ he, Nat.div_eq_of_lt hlt]
  have e5 : n / f.tails % f.exps = n / f.tails := Nat.mod_eq_of_lt hlt
  unfold FP.Core.decode FP.Core.fieldE FP.Core.fieldT FP.Core.fieldS at h ⊢
  rw [e1, e2, e3, e4]
  rw [e5] at h
  by_cases a : n / f.tails = f.exps - 1
  · rw [if_pos a] at h
    split at h <;> cases h
  · rw [if_neg a] at h ⊢
    by_cases b : n / f.tails = 0
    · rw [if_pos b] at h ⊢
      injection h with h1 h2 h3
      rw [h2, h3]; rfl
    · rw [if_neg b] at h ⊢
      injection h with h1 h2 h3
      rw [h2, h3]; rfl
theorem zf_encneg {f : FP.Core.Fmt} {c : Nat} {q : Int} : FP.Core.encode f (.fin true c q) = f.exps * f.tails + FP.Core.encode f (.fin false c q) := by
  unfold FP.Core.encode FP.Core.assemble
  simp only [Bool.toNat_true, Bool.toNat_false, Nat.one_mul, Nat.zero_mul, Nat.zero_add, Nat.add_zero]
  split
  · rfl
  · rw [Nat.add_mul]; omega
theorem zf_sgn {f : FP.Core.Fmt} {em A lo hi : Nat} {s : Bool} {m : Int} (hf : zf_G f em) (h0 : A ≠ 0) (h1 : f.qmin ≤ (A.log2 : Int) + m - ((f.p : Int) - 1)) (h2 : (A.log2 : Int) + m - ((f.p : Int) - 1) + 1 ≤ f.qmax) (hlo : (lo : Int) ≤ (A.log2 : Int) + m - ((f.p : Int) - 1) - f.qmin + 1) (hhi : (A.log2 : Int) + m - ((f.p : Int) - 1) - f.qmin + 2 ≤ hi) :
    ∃ n, zf_R f lo hi n ∧ (FP.Core.encode f (FP.Core.round f (.fin s A m)) = n ∨ FP.Core.encode f (FP.Core.round f (.fin s A m)) = f.exps * f.tails + n) := by
  obtain ⟨g1, g2, g3, g4⟩ := id hf
  have b1 := (Nat.log2_eq_iff (k := A.log2) h0).mp rfl
  obtain ⟨z, q', r1, r2, r3, r4⟩ := zf_round1 (f := f) (s := s) (A := A) (a := A.log2) (e := m) (L := A.log2 + m - ((f.p : Int) - 1)) g1 b1.1 b1.2 rfl h1 h2
  show ∃ n, zf_R f lo hi n ∧ (FP.Core.encode f (FP.Core.roundRatio f s A 1 m) = n ∨ FP.Core.encode f (FP.Core.roundRatio f s A 1 m) = f.exps * f.tails + n)
  rw [r1]
  refine ⟨FP.Core.encode f (.fin false z q'), Or.inr ⟨_, zf_enc r2 r3 (by omega) (by omega), by omega, by omega⟩, ?_⟩
  cases s
  · exact Or.inl rfl
  · exact Or.inr zf_encneg
theorem zf_sgn0 {f : FP.Core.Fmt} {s : Bool} {m : Int} {lo hi : Nat} : ∃ n, zf_R f lo hi n ∧ (FP.Core.encode f (FP.Core.round f (.fin s 0 m)) = n ∨ FP.Core.encode f (FP.Core.round f (.fin s 0 m)) = f.exps * f.tails + n) := by
  show ∃ n, zf_R f lo hi n ∧ (FP.Core.encode f (FP.Core.roundRatio f s 0 1 m) = n ∨ FP.Core.encode f (FP.Core.roundRatio f s 0 1 m) = f.exps * f.tails + n)
  unfold FP.Core.roundRatio
  rw [if_pos rfl]
  refine ⟨0, Or.inl rfl, ?_⟩
  cases s
  · exact Or.inl (zf_enc0 f _)
  · right; rw [zf_encneg, zf_enc0]
theorem zf_l2b {A a b : Nat} (h1 : 2 ^ a ≤ A) (h2 : A < 2 ^ (b + 1)) : a ≤ A.log2 ∧ A.log2 ≤ b := by
  have h0 : A ≠ 0 := by have := Nat.two_pow_pos a; omega
  have b1 := (Nat.log2_eq_iff (k := A.log2) h0).mp rfl
  constructor
  · rcases Nat.lt_or_ge A.log2 a with h | h
    · have := Nat.pow_le_pow_right (n := 2) (by decide) (Nat.succ_le_of_lt h); omega
    · exact h
  · rcases Nat.lt_or_ge b A.log2 with h | h
    · have := Nat.pow_le_pow_right (n := 2) (by decide) (Nat.succ_le_of_lt h); omega
    · exact h
theorem zf_R_sub {f : FP.Core.Fmt} {em x y a b c d : Nat} (hf : zf_G f em) (hx : zf_R f a b x) (hy : zf_R f c d y) (h1 : f.p + 1 ≤ a) (h1' : f.p + 1 ≤ c) (h2 : b + 3 ≤ 2 * em) (h3 : d + 3 ≤ 2 * em) (hem : 1 ≤ em) :
    ∃ n, zf_R f (min a c - f.p) (max b d + 2) n ∧ (FP.Core.sub f x y = n ∨ FP.Core.sub f x y = f.exps * f.tails + n) := by
  obtain ⟨g1, g2, g3, g4⟩ := id hf
  have d0 := zf_dec0 f (by omega)
  have ht := zf_tails f
  have htt : f.tails = 2 ^ (f.p - 1) := rfl
  have hp := zf_tt hf
  unfold FP.Core.sub
  have up : ∀ {c E : Nat}, c < 2 * f.tails → c * 2 ^ E < 2 ^ (f.p - 1 + E + 1) := by
    intro c E hc
    have := Nat.mul_lt_mul_of_pos_right hc (Nat.two_pow_pos E)
    rw [htt, Nat.mul_comm 2, ← Nat.pow_succ, ← Nat.pow_add] at this
    rw [show f.p - 1 + E + 1 = (f.p - 1).succ + E from by omega]; exact this
  have dn : ∀ {c E : Nat}, f.tails ≤ c → 2 ^ (f.p - 1 + E) ≤ c * 2 ^ E := by
    intro c E hc
    rw [Nat.pow_add]; exact Nat.mul_le_mul_right _ hc
  rcases hx with rfl | ⟨E1, x1, x2, x3⟩
  · rcases hy with rfl | ⟨E2, y1, y2, y3⟩
    · rw [d0]
      have : FP.Core.exactSum (.fin false 0 f.qmin) (FP.Core.negate (.fin false 0 f.qmin)) = .fin (FP.Core.sumSign false true (FP.Core.sumUnits false 0 f.qmin true 0 f.qmin (min f.qmin f.qmin))) 0 (min f.qmin f.qmin) := by
        unfold FP.Core.negate FP.Core.exactSum
        simp only [Bool.not_false]
        congr 1
        unfold FP.Core.sumUnits FP.Core.signed FP.Core.inUnits
        simp
      rw [this]; exact zf_sgn0
    · obtain ⟨k, k1, k2, hk, -⟩ := zf_dec y1
      obtain ⟨-, -, -, w1, w2⟩ := id y1
      rw [d0, hk]
      have em' : min f.qmin (f.qmin + ((E2 : Int) - 1)) = f.qmin := by omega
      have e1 : (f.qmin + ((E2 : Int) - 1) - f.qmin).toNat = E2 - 1 := by omega
      have : FP.Core.exactSum (.fin false 0 f.qmin) (FP.Core.negate (.fin false k (f.qmin + ((E2 : Int) - 1)))) = .fin (FP.Core.sumSign false true (FP.Core.sumUnits false 0 f.qmin true k (f.qmin + ((E2 : Int) - 1)) f.qmin)) (k * 2 ^ (E2 - 1)) f.qmin := by
        unfold FP.Core.negate FP.Core.exactSum
        simp only [Bool.not_false]
        rw [em']
        congr 1
        unfold FP.Core.sumUnits FP.Core.signed FP.Core.inUnits
        rw [e1]
        simp only [Nat.zero_mul, Bool.false_eq_true, if_false, if_true]
        omega
      rw [this]
      obtain ⟨l1, l2⟩ := zf_l2b (dn (E := E2 - 1) k1) (up (E := E2 - 1) k2)
      have p2 := Nat.two_pow_pos (E2 - 1)
      have hA0 : k * 2 ^ (E2 - 1) ≠ 0 := Nat.mul_ne_zero (by omega) (by omega)
      exact zf_sgn hf hA0 (by omega) (by omega) (by omega) (by omega)
  · obtain ⟨-, -, -, v1, v2⟩ := id x1
    obtain ⟨j, j1, j2, hj, -⟩ := zf_dec x1
    rcases hy with rfl | ⟨E2, y1, y2, y3⟩
    · rw [d0, hj]
      have em' : min (f.qmin + ((E1 : Int) - 1)) f.qmin = f.qmin := by omega
      have e1 : (f.qmin + ((E1 : Int) - 1) - f.qmin).toNat = E1 - 1 := by omega
      have : FP.Core.exactSum (.fin false j (f.qmin + ((E1 : Int) - 1))) (FP.Core.negate (.fin false 0 f.qmin)) = .fin (FP.Core.sumSign false true (FP.Core.sumUnits false j (f.qmin + ((E1 : Int) - 1)) true 0 f.qmin f.qmin)) (j * 2 ^ (E1 - 1)) f.qmin := by
        unfold FP.Core.negate FP.Core.exactSum
        simp only [Bool.not_false]
        rw [em']
        congr 1
        unfold FP.Core.sumUnits FP.Core.signed FP.Core.inUnits
        rw [e1]
        simp only [Nat.zero_mul, Bool.false_eq_true, if_false, if_true]
        omega
      rw [this]
      obtain ⟨l1, l2⟩ := zf_l2b (dn (E := E1 - 1) j1) (up (E := E1 - 1) j2)
      have p2 := Nat.two_pow_pos (E1 - 1)
      have hA0 : j * 2 ^ (E1 - 1) ≠ 0 := Nat.mul_ne_zero (by omega) (by omega)
      exact zf_sgn hf hA0 (by omega) (by omega) (by omega) (by omega)
    · obtain ⟨-, -, -, w1, w2⟩ := id y1
      obtain ⟨k, k1, k2, hk, -⟩ := zf_dec y1
      rw [hj, hk]
      obtain ⟨m, hm⟩ : ∃ m : Nat, m = min E1 E2 := ⟨_, rfl⟩
      obtain ⟨M, hM⟩ : ∃ M : Nat, M = max E1 E2 := ⟨_, rfl⟩
      have em' : min (f.qmin + ((E1 : Int) - 1)) (f.qmin + ((E2 : Int) - 1)) = f.qmin + ((m : Int) - 1) := by omega
      have e1 : (f.qmin + ((E1 : Int) - 1) - (f.qmin + ((m : Int) - 1))).toNat = E1 - m := by omega
      have e2 : (f.qmin + ((E2 : Int) - 1) - (f.qmin + ((m : Int) - 1))).toNat = E2 - m := by omega
      obtain ⟨A, hA⟩ : ∃ A : Nat, A = (((j * 2 ^ (E1 - m) : Nat) : Int) + -((k * 2 ^ (E2 - m) : Nat) : Int)).natAbs := ⟨_, rfl⟩
      have : FP.Core.exactSum (.fin false j (f.qmin + ((E1 : Int) - 1))) (FP.Core.negate (.fin false k (f.qmin + ((E2 : Int) - 1)))) = .fin (FP.Core.sumSign false true (FP.Core.sumUnits false j (f.qmin + ((E1 : Int) - 1)) true k (f.qmin + ((E2 : Int) - 1)) (f.qmin + ((m : Int) - 1)))) A (f.qmin + ((m : Int) - 1)) := by
        unfold FP.Core.negate FP.Core.exactSum
        simp only [Bool.not_false]
        rw [em']
        congr 1
        unfold FP.Core.sumUnits FP.Core.signed FP.Core.inUnits
        rw [e1, e2, hA]
        simp only [Bool.false_eq_true, if_false, if_true]
      rw [this]
      have u1 := up (E := E1 - m) j2
      have u2 := up (E := E2 - m) k2
      have u3 : 2 ^ (f.p - 1 + (E1 - m) + 1) ≤ 2 ^ (f.p - 1 + (M - m) + 1) := Nat.pow_le_pow_right (by decide) (by omega)
      have u4 : 2 ^ (f.p - 1 + (E2 - m) + 1) ≤ 2 ^ (f.p - 1 + (M - m) + 1) := Nat.pow_le_pow_right (by decide) (by omega)
      have hAl : A < 2 ^ (f.p - 1 + (M - m) + 1) := by omega
      by_cases hA0 : A = 0
      · rw [hA0]; exact zf_sgn0
      · obtain ⟨l1, l2⟩ := zf_l2b (a := 0) (by rw [Nat.pow_zero]; omega) hAl
        clear hAl u1 u2 u3 u4 hA this
        exact zf_sgn hf hA0 (by omega) (by omega) (by omega) (by omega)
/-- a double of either sign, its size between two exponents -/
def zf_S (lo hi : Nat) (z : UInt64) : Prop := ∃ n, zf_R FP.Core.b64 lo hi n ∧ (z.toNat = n ∨ z.toNat = 9223372036854775808 + n)
theorem zf_S.nn {lo hi : Nat} {z : UInt64} (h : zf_S lo hi z) : vf_n64 z := by
  obtain ⟨n, h1, h2⟩ := h
  have h3 := zf_lt64 h1
  unfold vf_n64
  rw [UInt64.le_iff_toNat_le, UInt64.toNat_and]
  show z.toNat &&& (2 ^ 63 - 1) ≤ 9218868437227405312
  rw [Nat.and_two_pow_sub_one_eq_mod]
  rcases h2 with h2 | h2 <;> rw [h2] <;> omega
theorem zf_dsub {x y : UInt64} {a b c d : Nat} (hx : zf_D a b x) (hy : zf_D c d y) (h1 : 54 ≤ a) (h1' : 54 ≤ c) (h2 : b ≤ 2043) (h3 : d ≤ 2043) : zf_S (min a c - 53) (max b d + 2) (FP.dsub x y) := by
  obtain ⟨n, hn, h⟩ := zf_R_sub zf_G64 hx hy h1 h1' (by omega) (by omega) (by decide)
  have h4 := zf_lt64 hn
  have e : FP.Core.b64.exps * FP.Core.b64.tails = 9223372036854775808 := by decide
  rw [e] at h
  refine ⟨n, hn, ?_⟩
  have hz : (FP.dsub x y).toNat = FP.Core.sub FP.Core.b64 x.toNat y.toNat := UInt64.toNat_ofNat_of_lt' (by show _ < 2 ^ 64; omega)
  rw [hz]; exact h
theorem zf_dsq {z : UInt64} {lo hi : Nat} (h : zf_S lo hi z) (h1 : 1024 ≤ lo + lo) (h2 : hi + hi ≤ 3066) : zf_D (lo + lo - 1023) (hi + hi + 2 - 1023) (FP.dmul z z) := by
  obtain ⟨n, hn, h⟩ := h
  have h4 := zf_lt64 hn
  have key : FP.Core.mul FP.Core.b64 z.toNat z.toNat = FP.Core.mul FP.Core.b64 n n := by
    rcases h with h | h
    · rw [h]
    · have e : FP.Core.b64.exps * FP.Core.b64.tails = 9223372036854775808 := by decide
      have hd : ∃ c q, FP.Core.decode FP.Core.b64 n = .fin false c q := by
        rcases hn with rfl | ⟨E, hE, -, -⟩
        · exact ⟨_, _, zf_dec0 FP.Core.b64 (by decide)⟩
        · obtain ⟨c, -, -, hc, -⟩ := zf_dec hE
          exact ⟨_, _, hc⟩
      obtain ⟨c, q, hc⟩ := hd
      have hng := zf_decneg (f := FP.Core.b64) (n := n) (by rw [e]; omega) hc
      rw [e] at hng
      unfold FP.Core.mul
      rw [h, hng, hc]
      rfl
  have := zf_D_of (zf_R_mul zf_G64 hn hn h1 (by omega) (by decide))
  show zf_D _ _ (UInt64.ofNat (FP.Core.mul FP.Core.b64 z.toNat z.toNat))
  rw [key]; exact this
/-- the spread -/
def zf_ds (u : Nat → UInt32) : Nat → UInt64 | 0 => FP.dconst0 | i + 1 => FP.dadd (zf_ds u i) (FP.f2d (u i))
def zf_mean (u : Nat → UInt32) (n : Nat) : UInt64 := FP.ddiv (zf_ds u n) (FP.i2d (nI n))
def zf_off (u : Nat → UInt32) (n i : Nat) : UInt64 := FP.dsub (FP.f2d (u i)) (zf_mean u n)
def zf_dv (u : Nat → UInt32) (n : Nat) : Nat → UInt64 | 0 => FP.dconst0 | i + 1 => FP.dadd (zf_dv u n i) (FP.dmul (zf_off u n i) (zf_off u n i))
def zf_spread (u : Nat → UInt32) (n : Nat) : UInt64 := FP.ddiv (zf_dv u n n) (FP.i2d (nI n))
theorem zf_i2dN {n : Nat} (h : n = 4 ∨ n = 6) : zf_N FP.Core.b64 (FP.i2d (nI n)).toNat 1025 := by
  rcases h with rfl | rfl
  · exact ⟨0, by decide, by decide +kernel, by decide, by decide⟩
  · exact ⟨2251799813685248, by decide, by decide +kernel, by decide, by decide⟩
theorem zf_dsD {u : Nat → UInt32} : ∀ i, i ≤ 6 → (∀ j, j < i → zf_F 120 150 (u j)) → zf_D 1016 (1046 + 2 * i) (zf_ds u i)
  | 0, _, _ => zf_D0
  | i + 1, hi, h => (zf_dadd (zf_dsD i (by omega) (fun j hj => h j (by omega))) (zf_f2dD (h i (by omega))) (by omega) (by omega)).mono (by omega) (by omega)
theorem zf_meanD {u : Nat → UInt32} {n : Nat} (hn : n = 4 ∨ n = 6) (h : ∀ j, j < n → zf_F 120 150 (u j)) : zf_D 1013 1057 (zf_mean u n) :=
  (zf_ddiv (zf_dsD n (by omega) h) (zf_i2dN hn) (by omega) (by omega)).mono (by omega) (by omega)
theorem zf_offS {u : Nat → UInt32} {n i : Nat} (hn : n = 4 ∨ n = 6) (h : ∀ j, j < n → zf_F 120 150 (u j)) (hi : i < n) : zf_S 960 1059 (zf_off u n i) :=
  zf_dsub (zf_f2dD (h i hi)) (zf_meanD hn h) (by decide) (by decide) (by decide) (by decide)
theorem zf_dvD {u : Nat → UInt32} {n : Nat} (hn : n = 4 ∨ n = 6) (h : ∀ j, j < n → zf_F 120 150 (u j)) : ∀ i, i ≤ n → zf_D 897 (1097 + 2 * i) (zf_dv u n i)
  | 0, _ => zf_D0
  | i + 1, hi => (zf_dadd (zf_dvD hn h i (by omega)) (zf_dsq (zf_offS hn h (by omega)) (by omega) (by omega)) (by omega) (by omega)).mono (by omega) (by omega)
theorem zf_spreadD {u : Nat → UInt32} {n : Nat} (hn : n = 4 ∨ n = 6) (h : ∀ j, j < n → zf_F 120 150 (u j)) : zf_D 894 1108 (zf_spread u n) :=
  (zf_ddiv (zf_dvD hn h n (Nat.le_refl _)) (zf_i2dN hn) (by omega) (by omega)).mono (by omega) (by omega)
