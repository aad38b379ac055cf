/-! steps: the cost of a plan, what a deed makes of it, the best deed -/
def zm_cost (R : Nat → Nat) (B : Nat → Nat → Nat) (X Y : Nat → Nat) (N : Nat) (G P : Nat → Nat → Nat) : UInt32 := zf_cost R (zm_brs N P) (zm_vio N G B) (zm_car N G P) (zm_amiles N G P X Y)
def zm_opG (d : Nat) (G : Nat → Nat → Nat) (a b : Nat) : Nat → Nat → Nat := if d = 0 then zm_sw G a b else if d = 1 then zm_tuG G a b else zm_exG G a b
def zm_opP (d : Nat) (P : Nat → Nat → Nat) (a b : Nat) : Nat → Nat → Nat := if d = 0 then zm_sw P a b else if d = 1 then zm_tuP P a b else zm_exP P a b
/-- how far the first number goes, where the second begins, how far it goes -/
def zm_ends (d N : Nat) : Nat := if d = 2 then N else N - 1
def zm_first (d a : Nat) : Nat := if d = 1 then 0 else a + 1
def zm_last (d N : Nat) : Nat := if d = 1 then N / 2 else zm_ends d N
def zm_best (d : Nat) (R : Nat → Nat) (B : Nat → Nat → Nat) (X Y : Nat → Nat) (N : Nat) (G P : Nat → Nat → Nat) : UInt32 × Int32 × Int32 :=
  zb_out (fun a b => zm_cost R B X Y N (zm_opG d G a b) (zm_opP d P a b)) (zm_first d) (fun _ => zm_last d N) (zm_ends d N) 0 (zm_cost R B X Y N G P, -1, -1)
/-- a pair that was found, or none -/
def zm_val (d N : Nat) (x y : Int32) : Prop := x = -1 ∨ ∃ a b : Nat, x = nI a ∧ y = nI b ∧ a < zm_ends d N ∧ b < zm_last d N
def zm_step (d : Nat) (R : Nat → Nat) (B : Nat → Nat → Nat) (X Y : Nat → Nat) (N : Nat) (G P : Nat → Nat → Nat) : Option (Nat × Nat) :=
  if (zm_best d R B X Y N G P).2.1 = -1 then none else some ((zm_best d R B X Y N G P).2.1.toNatClampNeg, (zm_best d R B X Y N G P).2.2.toNatClampNeg)
theorem zb_one_t {c : UInt32} {a b : Int32} {s : UInt32 × Int32 × Int32} (h : 0 ≤ Op.cmpValue (FP.fcmp c s.1) CmpOp.g) : zb_one c a b s = s := if_pos h
theorem zb_one_f {c : UInt32} {a b : Int32} {s : UInt32 × Int32 × Int32} (h : ¬ 0 ≤ Op.cmpValue (FP.fcmp c s.1) CmpOp.g) : zb_one c a b s = (c, a, b) := if_neg h
theorem zb_in_s {f : Nat → UInt32} {a b e : Nat} {s : UInt32 × Int32 × Int32} (h : b < e) : zb_in f a (e - b) b s = zb_in f a (e - (b + 1)) (b + 1) (zb_one (f b) (nI a) (nI b) s) := by
  rw [show e - b = (e - (b + 1)) + 1 from by omega]; rfl
theorem zb_in_e {f : Nat → UInt32} {a b e : Nat} {s : UInt32 × Int32 × Int32} (h : e ≤ b) : zb_in f a (e - b) b s = s := by
  rw [show e - b = 0 from by omega]; rfl
theorem zb_out_s {f : Nat → Nat → UInt32} {fi la : Nat → Nat} {a e : Nat} {s : UInt32 × Int32 × Int32} (h : a < e) : zb_out f fi la (e - a) a s = zb_out f fi la (e - (a + 1)) (a + 1) (zb_in (f a) a (la a - fi a) (fi a) s) := by
  rw [show e - a = (e - (a + 1)) + 1 from by omega]; rfl
theorem zb_out_e {f : Nat → Nat → UInt32} {fi la : Nat → Nat} {a e : Nat} {s : UInt32 × Int32 × Int32} (h : e ≤ a) : zb_out f fi la (e - a) a s = s := by
  rw [show e - a = 0 from by omega]; rfl
theorem zm_step_n {d : Nat} {R : Nat → Nat} {B : Nat → Nat → Nat} {X Y : Nat → Nat} {N : Nat} {G P : Nat → Nat → Nat} {c : UInt32} {y : Int32} (h : zm_best d R B X Y N G P = (c, -1, y)) : zm_step d R B X Y N G P = none := by
  unfold zm_step; rw [h]; rfl
theorem zn_ne1 {a : Nat} (h : a < 2 ^ 31) : nI a ≠ -1 := fun e => by
  have h2 := congrArg Int32.toInt e
  rw [nI_toInt h] at h2
  have h3 : (-1 : Int32).toInt = -1 := by decide
  omega
theorem zm_step_s {d : Nat} {R : Nat → Nat} {B : Nat → Nat → Nat} {X Y : Nat → Nat} {N : Nat} {G P : Nat → Nat → Nat} {c : UInt32} {a b : Nat} (ha : a < 2 ^ 31) (hb : b < 2 ^ 31) (h : zm_best d R B X Y N G P = (c, nI a, nI b)) : zm_step d R B X Y N G P = some (a, b) := by
  unfold zm_step; rw [h]
  rw [if_neg (zn_ne1 ha)]
  show some ((nI a).toNatClampNeg, (nI b).toNatClampNeg) = _
  rw [nI_clamp ha, nI_clamp hb]
theorem zv_g_eq {N : Nat} {G P G' P' : Nat → Nat → Nat} {w : Nat → Int32} (h : zv_g N G P w) (e1 : G = G') (e2 : P = P') : zv_g N G' P' w := e1 ▸ e2 ▸ h
theorem zm_pl_eq {N : Nat} {G P G' P' : Nat → Nat → Nat} {hm aw rv sd gm : Nat → Int32} (h : zm_pl N G P hm aw rv sd gm) (e1 : G = G') (e2 : P = P') : zm_pl N G' P' hm aw rv sd gm := e1 ▸ e2 ▸ h
theorem zv_b_off {B : Nat → Nat → Nat} {w w' : Nat → Int32} (h : zv_b B w) (o : zv_off w w') : zv_b B w' := ⟨fun t r ht hr => ⟨(h.1 t r ht hr).1, by rw [o _ (by omega)]; exact (h.1 t r ht hr).2⟩, h.2⟩
theorem zv_xy_off {X Y : Nat → Nat} {w w' : Nat → Int32} (h : zv_xy X Y w) (o : zv_off w w') : zv_xy X Y w' := fun t ht => by
  obtain ⟨a, b, c, d⟩ := h t ht
  exact ⟨a, b, by rw [o _ (by omega)]; exact c, by rw [o _ (by omega)]; exact d⟩
theorem zv_r_off {R : Nat → Nat} {w w' : Nat → Int32} (h : zv_r R w) (o : zv_off w w') : zv_r R w' := fun k hk => by
  obtain ⟨a, b⟩ := h k hk
  exact ⟨a, by rw [o _ (by omega)]; exact b⟩
/-- the answer of a step and the plan behind it -/
def zm_stepR (d : Nat) (R : Nat → Nat) (B : Nat → Nat → Nat) (X Y : Nat → Nat) (N : Nat) (G P : Nat → Nat → Nat) (zv : Int32) (K : (Nat → Nat → Nat) → (Nat → Nat → Nat) → Prop) : Prop :=
  (zm_step d R B X Y N G P = none ∧ zv = nI 0 ∧ K G P) ∨ ∃ a b : Nat, zm_step d R B X Y N G P = some (a, b) ∧ zv = nI 1 ∧ K (zm_opG d G a b) (zm_opP d P a b)
