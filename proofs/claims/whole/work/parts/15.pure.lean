theorem lN_toI {n : Nat} (h : n < 2 ^ 63) : (lN n).toInt = (n : Int) := lg_ofNat_toInt (by omega)
theorem lN_div {a b : Nat} (ha : a < 2 ^ 31) (h0 : 0 < b) (hb : b < 2 ^ 31) : lN a / lN b = lN (a / b) := by
  have h1 : a / b ≤ a := Nat.div_le_self a b
  rw [← Int64.toInt_inj, Int64.toInt_div_of_ne_right _ _ (fun z => by have y := congrArg Int64.toInt z; rw [lN_toInt hb] at y; rw [show (-1 : Int64).toInt = -1 from by decide] at y; omega), lN_toInt ha, lN_toInt hb, lN_toInt (by omega)]
  exact (Int.ofNat_tdiv a b).symm
theorem shS_nat {a : Nat → Int32} (hW : WU a) (q : Int32) : ∃ S, shS a q = nI S ∧ S ≤ 1188 ∧ ∀ u, 1 ≤ u → u < nu a → a (10 + u) = q → zN (a (22 + u)) ≤ S ∧ 1 ≤ S := by
  obtain ⟨w1, w2, w3, w4, w5, w6⟩ := hW
  refine ⟨sumN (fun k => if k = 0 then 0 else if a (10 + k) = q then zN (a (22 + k)) else 0) (nu a), sumI_nat (fun k hk => ?_), ?_, fun u h1 h2 h3 => ?_⟩
  · by_cases h0 : k = 0
    · rw [if_pos h0, if_pos h0]; rfl
    · obtain ⟨s, s1, s2, s3⟩ := w6 k (by omega) hk
      rw [if_neg h0, if_neg h0]
      by_cases h1 : a (10 + k) = q
      · rw [if_pos h1, if_pos h1, s3, zN, nI_clamp (by omega)]
      · rw [if_neg h1, if_neg h1]; rfl
  · have := sumN_mul (f := fun k => if k = 0 then 0 else if a (10 + k) = q then zN (a (22 + k)) else 0) (n := nu a) (b := 99) (fun k hk => ?_)
    · omega
    · by_cases h0 : k = 0
      · simp [h0]
      · obtain ⟨s, s1, s2, s3⟩ := w6 k (by omega) hk
        simp only [if_neg h0]
        by_cases h1 : a (10 + k) = q
        · rw [if_pos h1, s3, zN, nI_clamp (by omega)]; exact s2
        · rw [if_neg h1]; omega
  · have h := sumN_le (f := fun k => if k = 0 then 0 else if a (10 + k) = q then zN (a (22 + k)) else 0) h2
    obtain ⟨s, s1, s2, s3⟩ := w6 u h1 h2
    have h4 : zN (a (22 + u)) = s := by rw [s3, zN, nI_clamp (by omega)]
    simp only [if_neg (show ¬ u = 0 by omega), if_pos h3] at h
    omega
theorem bse_ok {a : Nat → Int32} (hW : WU a) : ∀ n u, u ≤ n → u < nu a → (∃ B, B ≤ 1000000 ∧ bse a u = nI B) ∧ ∀ f, u ≤ f → bseF a f u = bse a u := by
  intro n
  induction n with
  | zero =>
    intro u hu _
    have : u = 0 := by omega
    subst this
    refine ⟨⟨1000000, by omega, rfl⟩, fun f _ => ?_⟩
    cases f with
    | zero => rfl
    | succ f => rfl
  | succ n ih =>
    intro u hu hn
    by_cases h0 : u ≤ n
    · exact ih u h0 hn
    obtain ⟨v, rfl⟩ : ∃ v, u = v + 1 := ⟨u - 1, by omega⟩
    obtain ⟨q, hq, hpq⟩ := hW.2.2.2.2.1 (v + 1) (by omega) hn
    obtain ⟨s, s1, s2, s3⟩ := hW.2.2.2.2.2 (v + 1) (by omega) hn
    obtain ⟨S, hS, hS2, hS3⟩ := shS_nat hW (nI q)
    obtain ⟨hS4, hS5⟩ := hS3 (v + 1) (by omega) hn hpq
    rw [s3, zN, nI_clamp (by omega)] at hS4
    have hu12 := hW.2.2.1
    obtain ⟨⟨B, hB, hB2⟩, hf⟩ := ih q (by omega) (by omega)
    have key : ∀ f, v ≤ f → bseF a (f + 1) (v + 1) = nI (B * s / S) := by
      intro f hfv
      rw [bseF, if_neg (by omega), hpq, zN, nI_clamp (by omega), hf f (by omega), hB2, s3, hS, nI_l (by omega), nI_l (by omega), nI_l (by omega), lN_mul, lN_div (Nat.lt_of_le_of_lt (Nat.mul_le_mul hB s2) (by decide)) hS5 (by omega), lN_i]
    refine ⟨⟨B * s / S, ?_, key v (Nat.le_refl _)⟩, fun f hf1 => ?_⟩
    · exact Nat.le_trans (Nat.div_le_of_le_mul (by rw [Nat.mul_comm S B]; exact Nat.mul_le_mul_left B hS4)) hB
    · obtain ⟨g, rfl⟩ : ∃ g, f = g + 1 := ⟨f - 1, by omega⟩
      rw [key g (by omega)]
      exact (key v (Nat.le_refl _)).symm
theorem bse_0 {a : Nat → Int32} : bse a 0 = 1000000 := rfl
theorem bse_step {a : Nat → Int32} (hW : WU a) {u q : Nat} (h1 : 1 ≤ u) (hn : u < nu a) (hpq : a (10 + u) = nI q) (hq : q < u) : ∃ B s S, bse a q = nI B ∧ a (22 + u) = nI s ∧ shS a (nI q) = nI S ∧ 1 ≤ s ∧ s ≤ 99 ∧ s ≤ S ∧ S ≤ 1188 ∧ B ≤ 1000000 ∧ bse a u = nI (B * s / S) := by
  obtain ⟨v, rfl⟩ : ∃ v, u = v + 1 := ⟨u - 1, by omega⟩
  obtain ⟨s, s1, s2, s3⟩ := hW.2.2.2.2.2 (v + 1) (by omega) hn
  obtain ⟨S, hS, hS2, hS3⟩ := shS_nat hW (nI q)
  obtain ⟨hS4, hS5⟩ := hS3 (v + 1) (by omega) hn hpq
  rw [s3, zN, nI_clamp (by omega)] at hS4
  have hu12 := hW.2.2.1
  obtain ⟨⟨B, hB, hB2⟩, hf⟩ := bse_ok hW q q (Nat.le_refl _) (by omega)
  refine ⟨B, s, S, hB2, s3, hS, s1, s2, hS4, hS2, hB, ?_⟩
  show bseF a (v + 1) (v + 1) = _
  rw [bseF, if_neg (by omega), hpq, zN, nI_clamp (by omega), hf v (by omega), hB2, s3, hS, nI_l (by omega), nI_l (by omega), nI_l (by omega), lN_mul, lN_div (Nat.lt_of_le_of_lt (Nat.mul_le_mul hB s2) (by decide)) hS5 (by omega), lN_i]
/-- rows of the same tree -/
def TE (a b : Nat → Int32) : Prop := ∀ i, (i = 4 ∨ 10 ≤ i ∧ i < 34) → b i = a i
theorem te_nu {a b : Nat → Int32} (h : TE a b) : nu b = nu a := by show zN (b 4) = zN (a 4); rw [h 4 (Or.inl rfl)]
theorem te_WU {a b : Nat → Int32} (h : TE a b) (hW : WU a) : WU b := by
  obtain ⟨w1, w2, w3, w4, w5, w6⟩ := hW
  unfold WU
  rw [te_nu h]
  refine ⟨by rw [h 4 (Or.inl rfl)]; exact w1, w2, w3, by rw [h 10 (Or.inr (by omega))]; exact w4, fun u h1 h2 => ?_, fun u h1 h2 => ?_⟩
  · rw [h (10 + u) (Or.inr (by omega))]; exact w5 u h1 h2
  · rw [h (22 + u) (Or.inr (by omega))]; exact w6 u h1 h2
theorem te_chS {a b : Nat → Int32} (h : TE a b) (h12 : nu a ≤ 12) (u : Int32) : chS b u = chS a u := by
  unfold chS
  rw [te_nu h]
  exact sumI_cong fun k hk => by rw [h (10 + k) (Or.inr (by omega))]
theorem te_lfS {a b : Nat → Int32} (h : TE a b) (h12 : nu a ≤ 12) (u : Nat) : lfS b u ↔ lfS a u := by
  unfold lfS
  rw [te_chS h h12]
theorem te_shS {a b : Nat → Int32} (h : TE a b) (h12 : nu a ≤ 12) (u : Int32) : shS b u = shS a u := by
  unfold shS
  rw [te_nu h]
  exact sumI_cong fun k hk => by rw [h (10 + k) (Or.inr (by omega)), h (22 + k) (Or.inr (by omega))]
theorem te_bse {a b : Nat → Int32} (h : TE a b) (hW : WU a) : ∀ f u, u < nu a → bseF b f u = bseF a f u := by
  intro f
  have h12 := hW.2.2.1
  induction f with
  | zero => intro u _; rfl
  | succ f ih =>
    intro u hu
    rw [bseF, bseF]
    by_cases h0 : u = 0
    · rw [if_pos h0, if_pos h0]
    · obtain ⟨q, hq, hpq⟩ := hW.2.2.2.2.1 u (by omega) hu
      rw [if_neg h0, if_neg h0, h (10 + u) (Or.inr (by omega)), h (22 + u) (Or.inr (by omega)), te_shS h h12, ih _ (by rw [hpq, zN, nI_clamp (by omega)]; omega)]
theorem te_bel {a b : Nat → Int32} (h : TE a b) (hW : WU a) (t : Int32) : ∀ f x, bel b t f x = bel a t f x := by
  intro f
  have h12 := hW.2.2.1
  induction f with
  | zero => intro x; rfl
  | succ f ih =>
    intro x
    rw [bel, bel, h 4 (Or.inl rfl)]
    by_cases h0 : 0 ≤ x ∧ x < a 4
    · rw [if_pos h0, if_pos h0]
      obtain ⟨j, hj, rfl⟩ := nI_of (x := x) (by rw [Int32.not_lt]; exact h0.1)
      have h1 := h0.2
      rw [hW.1, nI_ltI hj (by omega)] at h1
      rw [zN, nI_clamp hj, h (10 + j) (Or.inr (by omega)), ih]
    · rw [if_neg h0, if_neg h0]
theorem upd_eq {f : Nat → Int32} {k : Nat} {x : Int32} : upd f k x k = x := if_pos rfl
theorem upd_ne {f : Nat → Int32} {k j : Nat} {x : Int32} (h : j ≠ k) : upd f k x j = f j := if_neg h
