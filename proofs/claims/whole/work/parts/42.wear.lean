/-! wear and cost, as floats -/
theorem zf_lt32 {lo hi n : Nat} (h : zf_R FP.Core.b32 lo hi n) : n < 2139095040 := by
  rcases h with rfl | ⟨E, ⟨T, h1, rfl, h3, h4⟩, -, -⟩
  · decide
  · have e1 : FP.Core.b32.tails = 8388608 := by decide
    have e2 : FP.Core.b32.exps = 256 := by decide
    rw [e1] at h1 ⊢
    rw [e2] at h4
    omega
theorem zf_lt64 {lo hi n : Nat} (h : zf_R FP.Core.b64 lo hi n) : n < 9218868437227405312 := by
  rcases h with rfl | ⟨E, ⟨T, h1, rfl, h3, h4⟩, -, -⟩
  · decide
  · have e1 : FP.Core.b64.tails = 4503599627370496 := by decide
    have e2 : FP.Core.b64.exps = 2048 := by decide
    rw [e1] at h1 ⊢
    rw [e2] at h4
    omega
theorem zf_n32 {x : UInt32} (h : x.toNat < 2139095040) : vf_n32 x := by
  unfold vf_n32
  rw [UInt32.le_iff_toNat_le, UInt32.toNat_and]
  refine Nat.le_trans Nat.and_le_left ?_
  show x.toNat ≤ 2139095040
  omega
theorem zf_n64 {x : UInt64} (h : x.toNat < 9218868437227405312) : vf_n64 x := by
  unfold vf_n64
  rw [UInt64.le_iff_toNat_le, UInt64.toNat_and]
  refine Nat.le_trans Nat.and_le_left ?_
  show x.toNat ≤ 9218868437227405312
  omega
/-- a float that is 0 or a number between two exponents -/
def zf_F (lo hi : Nat) (x : UInt32) : Prop := zf_R FP.Core.b32 lo hi x.toNat
def zf_D (lo hi : Nat) (x : UInt64) : Prop := zf_R FP.Core.b64 lo hi x.toNat
theorem zf_F.nn {lo hi : Nat} {x : UInt32} (h : zf_F lo hi x) : vf_n32 x := zf_n32 (zf_lt32 h)
theorem zf_D.nn {lo hi : Nat} {x : UInt64} (h : zf_D lo hi x) : vf_n64 x := zf_n64 (zf_lt64 h)
theorem zf_F.mono {lo hi lo' hi' : Nat} {x : UInt32} (h : zf_F lo hi x) (h1 : lo' ≤ lo) (h2 : hi ≤ hi') : zf_F lo' hi' x := zf_R_mono h h1 h2
theorem zf_D.mono {lo hi lo' hi' : Nat} {x : UInt64} (h : zf_D lo hi x) (h1 : lo' ≤ lo) (h2 : hi ≤ hi') : zf_D lo' hi' x := zf_R_mono h h1 h2
theorem zf_F_of {lo hi n : Nat} (h : zf_R FP.Core.b32 lo hi n) : zf_F lo hi (UInt32.ofNat n) := by
  have := zf_lt32 h
  unfold zf_F
  rw [UInt32.toNat_ofNat_of_lt' (by show n < 2 ^ 32; omega)]
  exact h
theorem zf_D_of {lo hi n : Nat} (h : zf_R FP.Core.b64 lo hi n) : zf_D lo hi (UInt64.ofNat n) := by
  have := zf_lt64 h
  unfold zf_D
  rw [UInt64.toNat_ofNat_of_lt' (by show n < 2 ^ 64; omega)]
  exact h
theorem zf_fmul {x y : UInt32} {a b c d : Nat} (hx : zf_F a b x) (hy : zf_F c d y) (h1 : 128 ≤ a + c) (h2 : b + d ≤ 378) : zf_F (a + c - 127) (b + d + 2 - 127) (FP.fmul x y) := zf_F_of (zf_R_mul zf_G32 hx hy h1 (by omega) (by decide))
theorem zf_fadd {x y : UInt32} {a b c d : Nat} (hx : zf_F a b x) (hy : zf_F c d y) (h1 : b ≤ 251) (h2 : d ≤ 251) : zf_F (min a c) (max b d + 2) (FP.fadd x y) := zf_F_of (zf_R_add zf_G32 hx hy (by omega) (by omega) (by decide))
theorem zf_fdiv {x y : UInt32} {a b E : Nat} (hx : zf_F a b x) (hy : zf_N FP.Core.b32 y.toNat E) (h1 : E ≤ a + 125) (h2 : b ≤ E + 125) : zf_F (a + 127 - E - 1) (b + 127 + 1 - E) (FP.fdiv x y) := zf_F_of (zf_R_div zf_G32 hx hy (by omega) (by omega))
theorem zf_dmul {x y : UInt64} {a b c d : Nat} (hx : zf_D a b x) (hy : zf_D c d y) (h1 : 1024 ≤ a + c) (h2 : b + d ≤ 3066) : zf_D (a + c - 1023) (b + d + 2 - 1023) (FP.dmul x y) := zf_D_of (zf_R_mul zf_G64 hx hy h1 (by omega) (by decide))
theorem zf_dadd {x y : UInt64} {a b c d : Nat} (hx : zf_D a b x) (hy : zf_D c d y) (h1 : b ≤ 2043) (h2 : d ≤ 2043) : zf_D (min a c) (max b d + 2) (FP.dadd x y) := zf_D_of (zf_R_add zf_G64 hx hy (by omega) (by omega) (by decide))
theorem zf_ddiv {x y : UInt64} {a b E : Nat} (hx : zf_D a b x) (hy : zf_N FP.Core.b64 y.toNat E) (h1 : E ≤ a + 1021) (h2 : b ≤ E + 1021) : zf_D (a + 1023 - E - 1) (b + 1023 + 1 - E) (FP.ddiv x y) := zf_D_of (zf_R_div zf_G64 hx hy (by omega) (by omega))
theorem zf_i2f {n k : Nat} (hn : n < 2 ^ k) (hk : k ≤ 30) : zf_F 127 (127 + k) (FP.i2f (nI n)) := by
  have h : n < 2 ^ 31 := Nat.lt_of_lt_of_le hn (Nat.pow_le_pow_right (by decide) (by omega))
  show zf_F 127 (127 + k) (UInt32.ofNat (FP.Core.fromInt FP.Core.b32 (nI n).toInt))
  rw [nI_toInt h]
  exact zf_F_of (zf_R_int zf_G32 hn (by omega) (by decide))
theorem zf_i2d {n k : Nat} (hn : n < 2 ^ k) (hk : k ≤ 30) : zf_D 1023 (1023 + k) (FP.i2d (nI n)) := by
  have h : n < 2 ^ 31 := Nat.lt_of_lt_of_le hn (Nat.pow_le_pow_right (by decide) (by omega))
  show zf_D 1023 (1023 + k) (UInt64.ofNat (FP.Core.fromInt FP.Core.b64 (nI n).toInt))
  rw [nI_toInt h]
  exact zf_D_of (zf_R_int zf_G64 hn (by omega) (by decide))
theorem zf_F0 {a b : Nat} : zf_F a b FP.fconst0 := Or.inl rfl
theorem zf_D0 {a b : Nat} : zf_D a b FP.dconst0 := Or.inl rfl
theorem zf_F1 {x : UInt32} {E : Nat} (h : zf_N FP.Core.b32 x.toNat E) : zf_F E E x := Or.inr ⟨E, h, Nat.le_refl _, Nat.le_refl _⟩
theorem zf_c75 : zf_N FP.Core.b32 (1061158912 : UInt32).toNat 126 := ⟨4194304, by decide, by decide, by decide, by decide⟩
theorem zf_c3 : zf_N FP.Core.b32 (1077936128 : UInt32).toNat 128 := ⟨4194304, by decide, by decide, by decide, by decide⟩
theorem zf_c10 : zf_N FP.Core.b32 (1092616192 : UInt32).toNat 130 := ⟨2097152, by decide, by decide, by decide, by decide⟩
/-- the wear behind so many rounds -/
def zf_wear (w : Nat → Nat) : Nat → UInt32 | 0 => FP.fconst0 | i + 1 => FP.fadd (FP.fmul (zf_wear w i) 1061158912) (FP.fdiv (FP.i2f (nI (w i))) 1077936128)
theorem zf_way {n : Nat} (h : n ≤ 198) : zf_F 125 135 (FP.fdiv (FP.i2f (nI n)) 1077936128) := (zf_fdiv (zf_i2f (k := 8) (by omega) (by decide)) zf_c3 (by decide) (by decide)).mono (by decide) (by decide)
theorem zf_wearF {w : Nat → Nat} : ∀ (i : Nat), i ≤ 5 → (∀ j, j < i → w j ≤ 198) → zf_F (125 - i) (135 + 3 * i) (zf_wear w i)
  | 0, _, _ => zf_F0
  | i + 1, hi, h => by
    have ih := zf_wearF i (by omega) (fun j hj => h j (by omega))
    exact (zf_fadd (zf_fmul ih (zf_F1 zf_c75) (by omega) (by omega)) (zf_way (h i (by omega))) (by omega) (by omega)).mono (by omega) (by omega)
theorem zf_wear075 {w : Nat → Nat} {i : Nat} (hi : i ≤ 4) (h : ∀ j, j < i → w j ≤ 198) : zf_F (124 - i) (137 + 3 * i) (FP.fmul (zf_wear w i) 1061158912) := (zf_fmul (zf_wearF i (by omega) h) (zf_F1 zf_c75) (by omega) (by omega)).mono (by omega) (by omega)
/-- a part of the cost, the cost -/
def zf_part (r n : Nat) : UInt32 := FP.fmul (FP.fdiv (FP.i2f (nI r)) 1092616192) (FP.i2f (nI n))
theorem zf_rate {r : Nat} (h : r ≤ 99) : zf_F 123 132 (FP.fdiv (FP.i2f (nI r)) 1092616192) := (zf_fdiv (zf_i2f (k := 7) (by omega) (by decide)) zf_c10 (by decide) (by decide)).mono (by decide) (by decide)
theorem zf_partF {r n : Nat} (h : r ≤ 99) (hn : n ≤ 8191) : zf_F 123 147 (zf_part r n) := (zf_fmul (zf_rate h) (zf_i2f (k := 13) (by omega) (by decide)) (by decide) (by decide)).mono (by decide) (by decide)
def zf_cost (R : Nat → Nat) (b v c m : Nat) : UInt32 := FP.fadd (FP.fadd (FP.fadd (zf_part (R 0) b) (zf_part (R 1) v)) (zf_part (R 2) c)) (zf_part (R 3) m)
theorem zf_cost1 {R : Nat → Nat} {b v : Nat} (hR : ∀ k, k < 4 → R k ≤ 99) (hb : b ≤ 8191) (hv : v ≤ 8191) : zf_F 123 149 (FP.fadd (zf_part (R 0) b) (zf_part (R 1) v)) := zf_fadd (zf_partF (hR 0 (by decide)) hb) (zf_partF (hR 1 (by decide)) hv) (by decide) (by decide)
theorem zf_cost2 {R : Nat → Nat} {b v c : Nat} (hR : ∀ k, k < 4 → R k ≤ 99) (hb : b ≤ 8191) (hv : v ≤ 8191) (hc : c ≤ 8191) : zf_F 123 151 (FP.fadd (FP.fadd (zf_part (R 0) b) (zf_part (R 1) v)) (zf_part (R 2) c)) := zf_fadd (zf_cost1 hR hb hv) (zf_partF (hR 2 (by decide)) hc) (by decide) (by decide)
theorem zf_costF {R : Nat → Nat} {b v c m : Nat} (hR : ∀ k, k < 4 → R k ≤ 99) (hb : b ≤ 8191) (hv : v ≤ 8191) (hc : c ≤ 8191) (hm : m ≤ 8191) : zf_F 123 153 (zf_cost R b v c m) := zf_fadd (zf_cost2 hR hb hv hc) (zf_partF (hR 3 (by decide)) hm) (by decide) (by decide)
