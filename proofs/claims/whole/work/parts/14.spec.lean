/-! THE PICTURE: a place as the check's own row of numbers a: the sizes, the fields, what is worked out of them. -/
abbrev zN (x : Int32) : Nat := x.toNatClampNeg
abbrev nu (a : Nat → Int32) : Nat := zN (a 4)
abbrev nm (a : Nat → Int32) : Nat := zN (a 5)
abbrev nj (a : Nat → Int32) : Nat := zN (a 6)
abbrev nl (a : Nat → Int32) : Nat := zN (a 7)
abbrev jb (a : Nat → Int32) (j f : Nat) : Int32 := a (58 + 7 * j + f)
abbrev ln (a : Nat → Int32) (l f : Nat) : Int32 := a (268 + 5 * l + f)
def chS (a : Nat → Int32) (u : Int32) : Int32 := sumI (fun k => if a (10 + k) = u then 1 else 0) (nu a)
abbrev lfS (a : Nat → Int32) (k : Nat) : Prop := chS a (nI k) = 0
def shS (a : Nat → Int32) (q : Int32) : Int32 := sumI (fun k => if k = 0 then 0 else if a (10 + k) = q then a (22 + k) else 0) (nu a)
def bel (a : Nat → Int32) (t : Int32) : Nat → Int32 → Bool
  | 0, _ => false
  | f + 1, x => if 0 ≤ x ∧ x < a 4 then (if x = t then true else bel a t f (a (10 + zN x))) else false
def sbS (a : Nat → Int32) (t : Int32) (r : Nat → Int32) : Int32 := sumI (fun k => if lfS a k ∧ bel a t 12 (nI k) = true then r k else 0) (nu a)
def bseF (a : Nat → Int32) : Nat → Nat → Int32
  | 0, _ => 1000000
  | f + 1, u => if u = 0 then 1000000 else ((bseF a f (zN (a (10 + u)))).toInt64 * (a (22 + u)).toInt64 / (shS a (a (10 + u))).toInt64).toInt32
abbrev bse (a : Nat → Int32) (u : Nat) : Int32 := bseF a u u
/-- the tree of a row is a tree -/
def WU (a : Nat → Int32) : Prop := a 4 = nI (nu a) ∧ 1 ≤ nu a ∧ nu a ≤ 12 ∧ a 10 = -1 ∧ (∀ u, 1 ≤ u → u < nu a → ∃ q, q < u ∧ a (10 + u) = nI q) ∧ (∀ u, 1 ≤ u → u < nu a → ∃ s, 1 ≤ s ∧ s ≤ 99 ∧ a (22 + u) = nI s)
def sumN (f : Nat → Nat) : Nat → Nat
  | 0 => 0
  | n + 1 => sumN f n + f n
theorem sumN_cong {f g : Nat → Nat} {n : Nat} (h : ∀ k, k < n → f k = g k) : sumN f n = sumN g n := by
  induction n with
  | zero => rfl
  | succ n ih => rw [sumN, sumN, ih (fun k hk => h k (by omega)), h n (by omega)]
theorem sumN_le {f : Nat → Nat} {n k : Nat} (h : k < n) : f k ≤ sumN f n := by
  induction n with
  | zero => omega
  | succ n ih =>
    rw [sumN]
    by_cases hk : k = n
    · subst hk; omega
    · have := ih (by omega); omega
theorem sumN_mul {f : Nat → Nat} {n b : Nat} (h : ∀ k, k < n → f k ≤ b) : sumN f n ≤ n * b := by
  induction n with
  | zero => simp [sumN]
  | succ n ih => rw [sumN, Nat.succ_mul]; have := ih (fun k hk => h k (by omega)); have := h n (by omega); omega
theorem sumI_nat {f : Nat → Int32} {g : Nat → Nat} {n : Nat} (h : ∀ k, k < n → f k = nI (g k)) : sumI f n = nI (sumN g n) := by
  induction n with
  | zero => rfl
  | succ n ih => rw [sumI, sumN, ih (fun k hk => h k (by omega)), h n (by omega), nI_add]
theorem sumN_mono {f g : Nat → Nat} {n : Nat} (h : ∀ k, k < n → f k ≤ g k) : sumN f n ≤ sumN g n := by
  induction n with
  | zero => exact Nat.le_refl _
  | succ n ih => rw [sumN, sumN]; have := ih (fun k hk => h k (by omega)); have := h n (by omega); omega
/-- uses: whole numbers, all together at most 30000 for each tick -/
def WUse (a : Nat → Int32) : Prop := (∀ u, u < nu a → a (34 + u) = nI (zN (a (34 + u)))) ∧ sumN (fun u => zN (a (34 + u))) (nu a) ≤ 30000 * zN (a 0)
def WM (a : Nat → Int32) : Prop := a 5 = nI (nm a) ∧ nm a ≤ 6 ∧ (∀ m, m < nm a → ∃ s, 1 ≤ s ∧ s ≤ 4 ∧ a (46 + m) = nI s) ∧ (∀ m, m < nm a → a (52 + m) = 0 ∨ a (52 + m) = 1)
def WJ (a : Nat → Int32) : Prop := a 6 = nI (nj a) ∧ nj a ≤ 30 ∧ (∀ j, j < nj a → ∃ u, u < nu a ∧ jb a j 0 = nI u ∧ lfS a u) ∧ (∀ j, j < nj a → jb a j 3 = 0 ∨ jb a j 3 = 1 ∨ jb a j 3 = 2 ∨ jb a j 3 = 3) ∧ (∀ j, j < nj a → jb a j 3 = 1 → ∃ m, m < nm a ∧ jb a j 4 = nI m)
def WL (a : Nat → Int32) : Prop := a 7 = nI (nl a) ∧ nl a ≤ 8 ∧ (∀ l, l < nl a → ∃ f t b q : Nat, f < nu a ∧ t < nu a ∧ f ≠ t ∧ lfS a f ∧ lfS a t ∧ ln a l 0 = nI f ∧ ln a l 1 = nI t ∧ ln a l 3 = nI b ∧ b ≤ zN (a 0) ∧ ln a l 4 = nI q ∧ 1 ≤ q ∧ q ≤ 50) ∧ (∀ l, l < nl a → ∃ s, 1 ≤ s ∧ s ≤ 500000 ∧ ln a l 2 = nI s)
def WS (T : Nat) (a : Nat → Int32) : Prop := a 0 = nI (zN (a 0)) ∧ zN (a 0) ≤ T ∧ T ≤ 10399 ∧ a 1 = nI (zN (a 1)) ∧ 1 ≤ zN (a 1) ∧ zN (a 1) ≤ 50 ∧ a 2 = nI (zN (a 2)) ∧ zN (a 2) ≤ 400 ∧ a 3 = nI (zN (a 3)) ∧ 1 ≤ zN (a 3) ∧ zN (a 3) ≤ 20
/-- running jobs run on machines that are up -/
def WV (a : Nat → Int32) : Prop := ∀ j m, j < nj a → jb a j 3 = 1 → m < nm a → jb a j 4 = nI m → a (52 + m) = 1
def WF (T : Nat) (a : Nat → Int32) : Prop := WU a ∧ WUse a ∧ WM a ∧ WJ a ∧ WL a ∧ WS T a
/-- a place of the class shows a row -/
def QT (M : Nat → Nat → Int32) (p : Nat) (a : Nat → Int32) : Prop := M (p + 1) 0 = a 4 ∧ ∀ k, k < nu a → M (p + 2) k = a (10 + k) ∧ M (p + 3) k = a (22 + k) ∧ M (p + 4) k = a (34 + k)
def QB (M : Nat → Nat → Int32) (p : Nat) (a : Nat → Int32) : Prop := ∀ k, k < nu a → M (p + 5) k = bse a k
def QL (M : Nat → Nat → Int32) (p : Nat) (a : Nat → Int32) : Prop := M (p + 6) 0 = a 7 ∧ ∀ l, l < nl a → M (p + 7) l = ln a l 0 ∧ M (p + 8) l = ln a l 1 ∧ M (p + 9) l = ln a l 2 ∧ M (p + 10) l = ln a l 3 ∧ M (p + 11) l = ln a l 4
def QM (M : Nat → Nat → Int32) (p : Nat) (a : Nat → Int32) : Prop := M (p + 12) 0 = a 5 ∧ ∀ m, m < nm a → M (p + 13) m = a (46 + m) ∧ M (p + 14) m = a (52 + m)
def QJ (M : Nat → Nat → Int32) (p : Nat) (a : Nat → Int32) : Prop := M (p + 15) 0 = a 6 ∧ ∀ j, j < nj a → M (p + 16) j = jb a j 0 ∧ M (p + 17) j = jb a j 1 ∧ M (p + 18) j = jb a j 2 ∧ M (p + 19) j = jb a j 3 ∧ M (p + 20) j = jb a j 4 ∧ M (p + 21) j = jb a j 5 ∧ M (p + 22) j = jb a j 6
def QS (M : Nat → Nat → Int32) (p : Nat) (a : Nat → Int32) : Prop := M (p + 30) 0 = a 1 ∧ M (p + 30) 1 = a 2 ∧ M (p + 30) 2 = a 3 ∧ M p 6 = a 0 ∧ M p 7 = a 8 ∧ M p 8 = a 9
def QP (M : Nat → Nat → Int32) (p : Nat) (a : Nat → Int32) : Prop := QT M p a ∧ QB M p a ∧ QL M p a ∧ QM M p a ∧ QJ M p a ∧ QS M p a
/-- the rest of the heap -/
def Fr (lo hi : Nat) (M M' : Nat → Nat → Int32) : Prop := ∀ c, ¬ (lo ≤ c ∧ c < hi) → M' c = M c
def FrL (lo hi : Nat) (L L' : Nat → Nat → Int64) : Prop := ∀ c, ¬ (lo ≤ c ∧ c < hi) → L' c = L c
theorem nI_z {x : Int32} (h : 0 ≤ x) : x = nI (zN x) := by
  obtain ⟨j, hj, rfl⟩ := nI_of (x := x) (by rw [Int32.not_lt]; exact h)
  rw [zN, nI_clamp hj]
