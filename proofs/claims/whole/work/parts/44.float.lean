/-! quotients of whole numbers as floats are no NaN -/
section FLT
theorem b32c : FP.Core.b32.tails = 8388608 ∧ FP.Core.b32.exps = 256 ∧ FP.Core.b32.qmin = -149 ∧ FP.Core.b32.qmax = 104 ∧ 2 ^ FP.Core.b32.p = 16777216 := by decide +kernel
theorem b64c : FP.Core.b64.tails = 4503599627370496 ∧ FP.Core.b64.exps = 2048 ∧ FP.Core.b64.qmin = -1074 ∧ FP.Core.b64.qmax = 971 ∧ 2 ^ FP.Core.b64.p = 9007199254740992 := by decide +kernel
def okD (f : FP.Core.Fmt) (d : FP.Core.Datum) : Prop := d ≠ .nan ∧ ∀ s c q, d = .fin s c q → c < 2 ^ f.p ∧ q ≤ f.qmax
theorem okD_bound {f : FP.Core.Fmt} {s : Bool} {c : Nat} {q : Int} (hc : c < 2 ^ f.p) : okD f (FP.Core.bound f s c q) := by
  unfold FP.Core.bound
  by_cases h : q ≤ f.qmax
  · rw [if_pos h]
    exact ⟨fun z => (by cases z), fun s2 c2 q2 z => by cases z; exact ⟨hc, h⟩⟩
  · rw [if_neg h]
    exact ⟨fun z => (by cases z), fun s2 c2 q2 z => by cases z⟩
theorem okD_settle {f : FP.Core.Fmt} (ht : f.tails < 2 ^ f.p) {s : Bool} {c : Nat} {q : Int} : okD f (FP.Core.settle f s c q) := by
  unfold FP.Core.settle
  by_cases h : c < 2 ^ f.p
  · rw [if_pos h]; exact okD_bound h
  · rw [if_neg h]; exact okD_bound ht
theorem okD_rr {f : FP.Core.Fmt} (ht : f.tails < 2 ^ f.p) (hq : f.qmin ≤ f.qmax) {s : Bool} {n d : Nat} {e : Int} : okD f (FP.Core.roundRatio f s n d e) := by
  unfold FP.Core.roundRatio
  by_cases h : n = 0
  · rw [if_pos h]
    exact ⟨fun z => (by cases z), fun s2 c2 q2 z => by cases z; exact ⟨Nat.two_pow_pos _, hq⟩⟩
  · rw [if_neg h]; exact okD_settle ht
theorem okD_enc32 {d : FP.Core.Datum} (h : okD FP.Core.b32 d) : ∃ (s : Bool) (e t : Nat), FP.Core.encode FP.Core.b32 d = (s.toNat * 256 + e) * 8388608 + t ∧ t < 8388608 ∧ (e < 255 ∨ e = 255 ∧ t = 0) ∧ (∀ s2 c q, d = .fin s2 c q → e < 255 ∧ (c ≠ 0 → e ≠ 0 ∨ t ≠ 0)) := by
  obtain ⟨c1, c2, c3, c4, c5⟩ := b32c
  cases d with
  | nan => exact absurd rfl h.1
  | inf s => exact ⟨s, 255, 0, by unfold FP.Core.encode FP.Core.assemble; rw [c1, c2], by omega, Or.inr ⟨rfl, rfl⟩, fun s2 c q z => by cases z⟩
  | fin s c q =>
    obtain ⟨h1, h2⟩ := h.2 s c q rfl
    rw [c5] at h1
    rw [c4] at h2
    by_cases z : c < 8388608
    · refine ⟨s, 0, c, ?_, z, Or.inl (by omega), fun s2 c2 q2 y => ?_⟩
      · unfold FP.Core.encode FP.Core.assemble; simp only [c1, c2, if_pos z]
      · cases y; exact ⟨by omega, fun w => Or.inr w⟩
    · refine ⟨s, (q - (-149)).toNat + 1, c - 8388608, ?_, by omega, Or.inl (by omega), fun s2 c2 q2 y => ⟨by omega, fun w => Or.inl (by omega)⟩⟩
      unfold FP.Core.encode FP.Core.assemble; simp only [c1, c2, c3, if_neg z]
theorem okD_enc64 {d : FP.Core.Datum} (h : okD FP.Core.b64 d) : ∃ (s : Bool) (e t : Nat), FP.Core.encode FP.Core.b64 d = (s.toNat * 2048 + e) * 4503599627370496 + t ∧ t < 4503599627370496 ∧ (e < 2047 ∨ e = 2047 ∧ t = 0) := by
  obtain ⟨c1, c2, c3, c4, c5⟩ := b64c
  cases d with
  | nan => exact absurd rfl h.1
  | inf s => exact ⟨s, 2047, 0, by unfold FP.Core.encode FP.Core.assemble; rw [c1, c2], by omega, Or.inr ⟨rfl, rfl⟩⟩
  | fin s c q =>
    obtain ⟨h1, h2⟩ := h.2 s c q rfl
    rw [c5] at h1
    rw [c4] at h2
    by_cases z : c < 4503599627370496
    · refine ⟨s, 0, c, ?_, z, Or.inl (by omega)⟩
      unfold FP.Core.encode FP.Core.assemble; simp only [c1, c2, if_pos z]
    · refine ⟨s, (q - (-1074)).toNat + 1, c - 4503599627370496, ?_, by omega, Or.inl (by omega)⟩
      unfold FP.Core.encode FP.Core.assemble; simp only [c1, c2, c3, if_neg z]
theorem s_le1 (s : Bool) : s.toNat ≤ 1 := by cases s <;> decide
theorem n32_of {d : FP.Core.Datum} (h : okD FP.Core.b32 d) : vf_n32 (UInt32.ofNat (FP.Core.encode FP.Core.b32 d)) := by
  obtain ⟨s, e, t, h1, h2, h3, -⟩ := okD_enc32 h
  have hs := s_le1 s
  unfold vf_n32
  rw [UInt32.le_iff_toNat_le, UInt32.toNat_and, UInt32.toNat_ofNat', h1, show (2147483647 : UInt32).toNat = 2 ^ 31 - 1 from rfl, Nat.and_two_pow_sub_one_eq_mod, show (2139095040 : UInt32).toNat = 2139095040 from rfl]
  rcases (show s.toNat = 0 ∨ s.toNat = 1 by omega) with z | z <;> rw [z] <;> rcases h3 with h3 | ⟨h3, h4⟩ <;> omega
theorem n64_of {d : FP.Core.Datum} (h : okD FP.Core.b64 d) : vf_n64 (UInt64.ofNat (FP.Core.encode FP.Core.b64 d)) := by
  obtain ⟨s, e, t, h1, h2, h3⟩ := okD_enc64 h
  have hs := s_le1 s
  unfold vf_n64
  rw [UInt64.le_iff_toNat_le, UInt64.toNat_and, UInt64.toNat_ofNat', h1, show (9223372036854775807 : UInt64).toNat = 2 ^ 63 - 1 from rfl, Nat.and_two_pow_sub_one_eq_mod, show (9218868437227405312 : UInt64).toNat = 9218868437227405312 from rfl]
  rcases (show s.toNat = 0 ∨ s.toNat = 1 by omega) with z | z <;> rw [z] <;> rcases h3 with h3 | ⟨h3, h4⟩ <;> omega
theorem fl_dec {bits : Nat} {s : Bool} {e t : Nat} (hb : bits = (s.toNat * 256 + e) * 8388608 + t) (he : e < 255) (ht : t < 8388608) : ∃ s' c q, FP.Core.decode FP.Core.b32 bits = .fin s' c q ∧ (e ≠ 0 ∨ t ≠ 0 → c ≠ 0) := by
  obtain ⟨c1, c2, c3, c4, c5⟩ := b32c
  have hs := s_le1 s
  have f1 : FP.Core.fieldE FP.Core.b32 bits = e := by unfold FP.Core.fieldE; rw [c1, c2, hb]; omega
  have f2 : FP.Core.fieldT FP.Core.b32 bits = t := by unfold FP.Core.fieldT; rw [c1, hb]; omega
  unfold FP.Core.decode
  rw [f1, f2, c2, if_neg (by omega)]
  by_cases z : e = 0
  · rw [if_pos z]; exact ⟨_, _, _, rfl, fun y => by omega⟩
  · rw [if_neg z, c1]; exact ⟨_, _, _, rfl, fun y => by omega⟩
theorem near_ge {n d : Nat} : n / d ≤ FP.Core.nearest n d := by
  unfold FP.Core.nearest
  by_cases h1 : 2 * (n % d) < d
  · rw [if_pos h1]; exact Nat.le_refl _
  · rw [if_neg h1]
    by_cases h2 : d < 2 * (n % d)
    · rw [if_pos h2]; omega
    · rw [if_neg h2]; omega
theorem lead1 {n : Nat} (h : n ≠ 0) : FP.Core.leading n 1 = (n.log2 : Int) := by
  have h1 := Nat.log2_self_le h
  unfold FP.Core.leading
  have e1 : Nat.log2 1 = 0 := by decide
  simp only [e1]
  rw [show ((n.log2 : Int) - ((0 : Nat) : Int)).toNat = n.log2 by omega, show (-((n.log2 : Int) - ((0 : Nat) : Int))).toNat = 0 by omega, if_pos (by omega)]
  omega
theorem i2f_dec (v : Int32) : ∃ s c q, FP.Core.decode FP.Core.b32 (FP.i2f v).toNat = .fin s c q ∧ (v.toInt ≠ 0 → c ≠ 0) := by
  obtain ⟨c1, c2, c3, c4, c5⟩ := b32c
  have hp : FP.Core.b32.p = 24 := rfl
  have hv : v.toInt.natAbs < 2 ^ 32 := by have h1 := Int32.toInt_lt v; have h2 := Int32.le_toInt v; omega
  have key : ∃ s c q, FP.Core.round FP.Core.b32 (FP.Core.ofInt v.toInt) = .fin s c q ∧ (v.toInt ≠ 0 → c ≠ 0) := by
    unfold FP.Core.ofInt FP.Core.round FP.Core.roundRatio
    by_cases z : v.toInt.natAbs = 0
    · simp only [if_pos z]; exact ⟨_, _, _, rfl, fun y => by omega⟩
    · simp only [if_neg z]
      have hl : v.toInt.natAbs.log2 < 32 := (Nat.log2_lt z).mpr hv
      have hge := Nat.log2_self_le z
      generalize v.toInt.natAbs = n at *
      unfold FP.Core.roundAt FP.Core.quantum
      rw [lead1 z, c3, hp]
      have eq : max (-149 : Int) ((n.log2 : Int) + 0 - (((24 : Nat) : Int) - 1)) = (n.log2 : Int) - 23 := by omega
      rw [eq]
      have hc : FP.Core.nearest (FP.Core.unitsNum n 0 ((n.log2 : Int) - 23)) (FP.Core.unitsDen 1 0 ((n.log2 : Int) - 23)) ≠ 0 := by
        refine Nat.ne_of_gt (Nat.lt_of_lt_of_le ?_ near_ge)
        unfold FP.Core.unitsNum FP.Core.unitsDen
        rw [Nat.one_mul]
        refine Nat.div_pos ?_ (Nat.two_pow_pos _)
        by_cases y : n.log2 ≤ 23
        · rw [show ((n.log2 : Int) - 23 - 0).toNat = 0 by omega]
          have := Nat.two_pow_pos (0 - ((n.log2 : Int) - 23)).toNat
          exact Nat.le_trans (by omega) (Nat.mul_le_mul (show 1 ≤ n by omega) this)
        · rw [show (0 - ((n.log2 : Int) - 23)).toNat = 0 by omega, show ((n.log2 : Int) - 23 - 0).toNat = n.log2 - 23 by omega, Nat.pow_zero, Nat.mul_one]
          exact Nat.le_trans (Nat.pow_le_pow_right (by omega) (by omega)) hge
      unfold FP.Core.settle FP.Core.bound
      generalize FP.Core.nearest (FP.Core.unitsNum n 0 ((n.log2 : Int) - 23)) (FP.Core.unitsDen 1 0 ((n.log2 : Int) - 23)) = cc at *
      rw [c4, c1, c5]
      by_cases y : cc < 16777216
      · rw [if_pos y, if_pos (by omega)]; exact ⟨_, _, _, rfl, fun _ => hc⟩
      · rw [if_neg y, if_pos (by omega)]; exact ⟨_, _, _, rfl, fun _ => by omega⟩
  have hok : okD FP.Core.b32 (FP.Core.round FP.Core.b32 (FP.Core.ofInt v.toInt)) := by
    unfold FP.Core.ofInt FP.Core.round
    exact okD_rr (by rw [c1, c5]; omega) (by rw [c3, c4]; omega)
  obtain ⟨s, c, q, hr, hnz⟩ := key
  obtain ⟨s2, e, t, h1, h2, h3, h4⟩ := okD_enc32 hok
  obtain ⟨h5, h6⟩ := h4 s c q hr
  have hs := s_le1 s2
  have hbits : (FP.i2f v).toNat = (s2.toNat * 256 + e) * 8388608 + t := by
    show (UInt32.ofNat (FP.Core.encode FP.Core.b32 (FP.Core.round FP.Core.b32 (FP.Core.ofInt v.toInt)))).toNat = _
    rw [UInt32.toNat_ofNat', h1]
    exact Nat.mod_eq_of_lt (by omega)
  obtain ⟨s3, c3', q3, g1, g2⟩ := fl_dec hbits h5 h2
  exact ⟨s3, c3', q3, g1, fun y => g2 (h6 (hnz y))⟩
theorem fdiv_ok (x y : Int32) (hy : y ≠ 0) : vf_n32 (FP.fdiv (FP.i2f x) (FP.i2f y)) := by
  obtain ⟨c1, c2, c3, c4, c5⟩ := b32c
  obtain ⟨s, c, q, h1, -⟩ := i2f_dec x
  obtain ⟨s2, c2', q2, h2, h3⟩ := i2f_dec y
  have hne : c2' ≠ 0 := h3 (fun z => hy (Int32.toInt_inj.mp z))
  refine n32_of (d := FP.Core.quotient FP.Core.b32 (FP.Core.decode FP.Core.b32 (FP.i2f x).toNat) (FP.Core.decode FP.Core.b32 (FP.i2f y).toNat)) ?_
  rw [h1, h2]
  unfold FP.Core.quotient
  simp only [if_neg hne]
  exact okD_rr (by rw [c1, c5]; omega) (by rw [c3, c4]; omega)
theorem f2d_ok {x : UInt32} (h : vf_n32 x) : vf_n64 (FP.f2d x) := by
  obtain ⟨c1, c2, c3, c4, c5⟩ := b32c
  obtain ⟨d1, d2, d3, d4, d5⟩ := b64c
  unfold vf_n32 at h
  rw [UInt32.le_iff_toNat_le, UInt32.toNat_and, show (2147483647 : UInt32).toNat = 2 ^ 31 - 1 from rfl, Nat.and_two_pow_sub_one_eq_mod, show (2139095040 : UInt32).toNat = 2139095040 from rfl] at h
  have hx := x.toNat_lt
  have nn : FP.Core.decode FP.Core.b32 x.toNat ≠ .nan := by
    unfold FP.Core.decode FP.Core.fieldE FP.Core.fieldT
    rw [c1, c2]
    by_cases z : x.toNat / 8388608 % 256 = 256 - 1
    · rw [if_pos z, if_pos (by omega)]; exact fun y => by cases y
    · rw [if_neg z]
      by_cases w : x.toNat / 8388608 % 256 = 0
      · rw [if_pos w]; exact fun y => by cases y
      · rw [if_neg w]; exact fun y => by cases y
  have e1 : FP.f2d x = UInt64.ofNat (FP.Core.encode FP.Core.b64 (FP.Core.round FP.Core.b64 (FP.Core.decode FP.Core.b32 x.toNat))) := by
    unfold FP.f2d FP.Core.fIsNaN FP.Core.isNaN
    rw [if_neg (by simp [nn])]
    rfl
  rw [e1]
  refine n64_of ?_
  cases hd : FP.Core.decode FP.Core.b32 x.toNat with
  | nan => exact absurd hd nn
  | inf s => exact ⟨fun z => (by cases z), fun s2 c q z => by cases z⟩
  | fin s c q => exact okD_rr (by rw [d1, d5]; omega) (by rw [d3, d4]; omega)
/-- what is no NaN equals itself -/
theorem dcmp_self' {x : UInt64} (h : vf_n64 x) : FP.dcmp x x = some .eq := by
  obtain ⟨d1, d2, d3, d4, d5⟩ := b64c
  unfold vf_n64 at h
  rw [UInt64.le_iff_toNat_le, UInt64.toNat_and, show (9223372036854775807 : UInt64).toNat = 2 ^ 63 - 1 from rfl, Nat.and_two_pow_sub_one_eq_mod, show (9218868437227405312 : UInt64).toNat = 9218868437227405312 from rfl] at h
  have hx := x.toNat_lt
  have nn : FP.Core.decode FP.Core.b64 x.toNat ≠ .nan := by
    unfold FP.Core.decode FP.Core.fieldE FP.Core.fieldT
    rw [d1, d2]
    by_cases z : x.toNat / 4503599627370496 % 2048 = 2048 - 1
    · rw [if_pos z, if_pos (by omega)]; exact fun y => by cases y
    · rw [if_neg z]
      by_cases w : x.toNat / 4503599627370496 % 2048 = 0
      · rw [if_pos w]; exact fun y => by cases y
      · rw [if_neg w]; exact fun y => by cases y
  show FP.Core.order (FP.Core.decode FP.Core.b64 x.toNat) (FP.Core.decode FP.Core.b64 x.toNat) = some .eq
  cases hd : FP.Core.decode FP.Core.b64 x.toNat with
  | nan => exact absurd hd nn
  | inf s => unfold FP.Core.order; simp [compare, compareOfLessAndEq]
  | fin s c q => unfold FP.Core.order; simp [compare, compareOfLessAndEq]
end FLT
