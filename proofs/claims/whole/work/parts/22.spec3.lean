theorem sumI_ch {f g : Nat → Int32} {n j : Nat} (hj : j < n) (h : ∀ k, k < n → k ≠ j → g k = f k) : sumI g n = sumI f n - f j + g j := by
  induction n with
  | zero => omega
  | succ n ih =>
    rw [sumI, sumI]
    by_cases hn : j = n
    · subst hn
      rw [sumI_cong (g := f) (fun k hk => h k (by omega) (by omega))]
      grind
    · rw [ih (by omega) (fun k hk => h k (by omega)), h n (by omega) (fun z => hn z.symm)]
      grind
theorem sumI_0 {n : Nat} : sumI (fun _ => 0) n = 0 := by
  induction n with
  | zero => rfl
  | succ n ih => rw [sumI, ih]; rfl
theorem sumI_add {f g : Nat → Int32} {n : Nat} : sumI (fun k => f k + g k) n = sumI f n + sumI g n := by
  induction n with
  | zero => rfl
  | succ n ih => rw [sumI, sumI, sumI, ih]; grind
def loS (a : Nat → Int32) (u : Nat) : Int32 := sumI (fun j => if jb a j 3 = 1 ∧ jb a j 0 = nI u then 1 else 0) (nj a)
def waS (a : Nat → Int32) (u : Nat) : Int32 := sumI (fun j => if jb a j 3 = 0 ∧ jb a j 0 = nI u then 1 else 0) (nj a)
def buS (a : Nat → Int32) (m : Nat) : Int32 := sumI (fun j => if jb a j 3 = 1 ∧ jb a j 4 = nI m then 1 else 0) (nj a)
def itS (a : Nat → Int32) (l : Nat) : Int32 := if a 0 < duS a l then ln a l 2 else - ln a l 2
def tkR (a : Nat → Int32) (u : Nat) : Int32 := bse a u + sumI (fun l => (if ln a l 1 = nI u then itS a l else 0) - (if ln a l 0 = nI u then itS a l else 0)) (nl a)
def tkS (a : Nat → Int32) (u : Nat) : Int32 := if 0 < tkR a u then tkR a u else 0
def woS (t us k : Int32) : Int64 := if 0 < (1000 + us.toInt64) * k.toInt64 then t.toInt64 * 1000 / ((1000 + us.toInt64) * k.toInt64) else 0
def wnS (a : Nat → Int32) (u : Nat) : Int64 := woS (tkS a u) (a (34 + u)) (loS a u + 1)
def wwS (a : Nat → Int32) (u : Nat) : Int64 := woS (tkS a u) (a (34 + u)) (loS a u)
/-- the scale of a place is right -/
def QC (M : Nat → Nat → Int32) (L : Nat → Nat → Int64) (p : Nat) (a : Nat → Int32) : Prop := (∀ u, u < nu a → M (p + 24) u = loS a u ∧ M (p + 26) u = tkS a u ∧ L (p + 28) u = wnS a u ∧ L (p + 29) u = wwS a u) ∧ (∀ m, m < nm a → M (p + 27) m = buS a m)
theorem loS_nat (a : Nat → Int32) (u : Nat) : ∃ n, n ≤ nj a ∧ loS a u = nI n := by
  refine ⟨sumN (fun j => if jb a j 3 = 1 ∧ jb a j 0 = nI u then 1 else 0) (nj a), ?_, sumI_nat (fun k hk => ?_)⟩
  · have := sumN_mul (f := fun j => if jb a j 3 = 1 ∧ jb a j 0 = nI u then 1 else 0) (n := nj a) (b := 1) (fun k hk => by by_cases h : jb a k 3 = 1 ∧ jb a k 0 = nI u <;> simp [h])
    omega
  · by_cases h : jb a k 3 = 1 ∧ jb a k 0 = nI u
    · rw [if_pos h, if_pos h]; rfl
    · rw [if_neg h, if_neg h]; rfl
theorem fr_Lr {lo hi : Nat} {L : Nat → Nat → Int64} : FrL lo hi L L := fun _ _ => rfl
theorem fr_Lu {lo hi c : Nat} {L L' : Nat → Nat → Int64} {r : Nat → Int64} (h : FrL lo hi L L') (hc : lo ≤ c ∧ c < hi) : FrL lo hi L (mL L' c r) := fun b hb => by
  rw [mL_n (fun z => hb (by rw [z]; exact hc)), h b hb]
theorem fr_Lt {lo hi : Nat} {L L1 L2 : Nat → Nat → Int64} (h : FrL lo hi L L1) (h2 : FrL lo hi L1 L2) : FrL lo hi L L2 := fun b hb => (h2 b hb).trans (h b hb)
theorem fr_Lw {lo hi lo' hi' : Nat} {L L1 : Nat → Nat → Int64} (h : FrL lo hi L L1) (h1 : lo' ≤ lo) (h2 : hi ≤ hi') : FrL lo' hi' L L1 := fun b hb => h b (by omega)
theorem lg_le {x y : Int64} : lg_cmp x y ≤ 0 ↔ x ≤ y := by
  unfold lg_cmp
  grind
theorem m_absL {I : a_I} {pc uc us : Nat} {ls st : List Value} {Q : a_Q} {M : Nat → Nat → Int32} {L : Nat → Nat → Int64} {dd : UInt64} (P : (Nat → Nat → Int32) → (Nat → Nat → Int64) → Prop) (hp : P M L) (k : ∀ M2 L2, P M2 L2 → AW I pc ls st (hS M2 L2 dd) uc us Q) : AW I pc ls st (hS M L dd) uc us Q := k M L hp
theorem qp_f2 {M M' : Nat → Nat → Int32} {p : Nat} {a : Nat → Int32} (h : Fr (p + 24) (p + 28) M M') (hQ : QP M p a) : QP M' p a :=
  ⟨rt_fr hQ.1 h (by omega), qb_f h (by omega) hQ.2.1, ql_f h (by omega) hQ.2.2.1, qm_f h (by omega) hQ.2.2.2.1, qj_f h (by omega) hQ.2.2.2.2.1, qs_f h (by omega) hQ.2.2.2.2.2⟩
