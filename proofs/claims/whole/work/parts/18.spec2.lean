def anyB (P : Nat → Bool) : Nat → Bool
  | 0 => false
  | n + 1 => anyB P n || P n
theorem anyB_t {P : Nat → Bool} {n k : Nat} (hk : k < n) (h : P k = true) : anyB P n = true := by
  induction n with
  | zero => omega
  | succ n ih =>
    rw [anyB]
    by_cases hn : k = n
    · subst hn; rw [h, Bool.or_true]
    · rw [ih (by omega), Bool.true_or]
theorem anyB_e {P : Nat → Bool} {n : Nat} (h : anyB P n = true) : ∃ k, k < n ∧ P k = true := by
  induction n with
  | zero => exact (Bool.false_ne_true h).elim
  | succ n ih =>
    rw [anyB, Bool.or_eq_true] at h
    rcases h with h | h
    · obtain ⟨k, h1, h2⟩ := ih h; exact ⟨k, by omega, h2⟩
    · exact ⟨n, by omega, h⟩
theorem anyB_f {P : Nat → Bool} {n k : Nat} (h : anyB P n = false) (hk : k < n) : P k = false := by
  cases e : P k with
  | false => rfl
  | true => rw [anyB_t hk e] at h; exact absurd h (by decide)
abbrev anL (a : Nat → Int32) (u : Int32) : Bool := anyB (fun l => decide (ln a l 0 = u ∨ ln a l 1 = u)) (nl a)
abbrev anJ (a : Nat → Int32) (u : Int32) : Bool := anyB (fun j => decide (jb a j 0 = u)) (nj a)
abbrev gnS (a : Nat → Int32) (l : Nat) : Int32 := ln a l 3 + 2 * ln a l 4
abbrev duS (a : Nat → Int32) (l : Nat) : Int32 := ln a l 3 + ln a l 4
def inS (a : Nat → Int32) (w : Int32) : Int32 := sumI (fun j => if jb a j 3 = w then 1 else 0) (nj a)
abbrev layJ (a : Nat → Int32) (j f : Nat) (v : Int32) : Nat → Int32 := upd a (58 + 7 * j + f) v
def runS (a : Nat → Int32) (j : Nat) (m : Int32) : Nat → Int32 := layJ (layJ a j 3 1) j 4 m
def endS (a : Nat → Int32) (j : Nat) (st : Int32) : Nat → Int32 := layJ (layJ (layJ a j 3 st) j 4 (-1)) j 5 (a 0)
def intS (a : Nat → Int32) (j : Nat) : Nat → Int32 := upd (upd (layJ (layJ (layJ a j 2 (jb a j 2 - jb a j 2 % a 3)) j 3 0) j 4 (-1)) 8 (a 8 + 1)) 9 (a 9 + jb a j 2 % a 3)
def adM (a : Nat → Int32) (s : Int32) : Nat → Int32 := upd (upd (upd a (46 + nm a) s) (52 + nm a) 1) 5 (a 5 + 1)
def adJ (a : Nat → Int32) (u len : Int32) : Nat → Int32 := upd (layJ (layJ (layJ (layJ (layJ (layJ (layJ a (nj a) 0 u) (nj a) 1 len) (nj a) 2 0) (nj a) 3 0) (nj a) 4 (-1)) (nj a) 5 (-1)) (nj a) 6 0) 6 (a 6 + 1)
abbrev layL (a : Nat → Int32) (l f : Nat) (v : Int32) : Nat → Int32 := upd a (268 + 5 * l + f) v
def adL (a : Nat → Int32) (u v t q : Int32) : Nat → Int32 := upd (layL (layL (layL (layL (layL a (nl a) 0 u) (nl a) 1 v) (nl a) 2 t) (nl a) 3 (a 0)) (nl a) 4 q) 7 (a 7 + 1)
/-- one more balance of a loan: what the user gains by it -/
def blI (a : Nat → Int32) (l : Nat) : Int32 := ((if a 0 < duS a l then duS a l - a 0 else 0) - (if a 0 < duS a l then ln a l 4 else gnS a l - a 0)) * ln a l 2
def blS (a : Nat → Int32) (u : Int32) : Int32 := sumI (fun l => if ln a l 1 = u then blI a l else if ln a l 0 = u then - blI a l else 0) (nl a)
/-- loans that are over go -/
def erL (a : Nat → Int32) (l : Nat) : Nat → Int32 := fun i => if i = 7 then a 7 - 1 else if 268 + 5 * l ≤ i ∧ i < 268 + 5 * (nl a - 1) then a (i + 5) else a i
def drD : Nat → (Nat → Int32) → (Nat → Int32)
  | 0, a => a
  | l + 1, a => drD l (if a 0 < gnS a l then a else erL a l)
def drS (a : Nat → Int32) : Nat → Int32 := drD (nl a) a
abbrev lnT (a : Nat → Int32) (l : Nat) : Int32 × Int32 × Int32 × Int32 × Int32 := (ln a l 0, ln a l 1, ln a l 2, ln a l 3, ln a l 4)
def lnL (a : Nat → Int32) (n : Nat) : List (Int32 × Int32 × Int32 × Int32 × Int32) := (List.range n).map (lnT a)
def lvT (t : Int32) (x : Int32 × Int32 × Int32 × Int32 × Int32) : Bool := decide (t < x.2.2.2.1 + 2 * x.2.2.2.2)
theorem drL_ok {α : Type} (P : α → Bool) (f : Nat → List α → List α) (f0 : ∀ xs, f 0 xs = xs) (fs : ∀ l xs, f (l + 1) xs = f l (match xs[l]? with
    | some x => if P x then xs else xs.eraseIdx l
    | none => xs)) : ∀ n xs, n ≤ xs.length → f n xs = (xs.take n).filter P ++ xs.drop n := by
  intro n
  induction n with
  | zero => intro xs _; rw [f0]; simp
  | succ n ih =>
    intro xs hn
    have hn1 : n < xs.length := by omega
    rw [fs, List.getElem?_eq_getElem hn1]
    simp only
    rw [List.take_succ_eq_append_getElem hn1, List.filter_append]
    by_cases hp : P xs[n] = true
    · rw [if_pos hp, ih xs (by omega), List.drop_eq_getElem_cons hn1]
      simp [hp]
    · rw [if_neg hp, ih _ (by rw [List.length_eraseIdx_of_lt hn1]; omega), List.eraseIdx_eq_take_drop_succ]
      simp [hp, List.take_append_of_le_length, List.drop_append_of_le_length, Nat.min_eq_left (Nat.le_of_lt hn1)]
theorem nj_lay {a : Nat → Int32} {j f : Nat} {v : Int32} : nj (layJ a j f v) = nj a := congrArg zN (show upd a (58 + 7 * j + f) v 6 = a 6 from upd_ne (by omega))
section QC
variable {M M' : Nat → Nat → Int32} {p lo hi : Nat} {a b : Nat → Int32}
theorem qt_c (h : ∀ i, (i = 4 ∨ 10 ≤ i ∧ i < 46) → b i = a i) (h12 : nu a ≤ 12) (hT : QT M p a) : QT M p b := by
  have e4 := h 4 (Or.inl rfl)
  refine ⟨by rw [e4]; exact hT.1, fun k hk => ?_⟩
  have hk2 : k < nu a := by rw [nu, e4] at hk; exact hk
  rw [h (10 + k) (by omega), h (22 + k) (by omega), h (34 + k) (by omega)]
  exact hT.2 k hk2
theorem qb_c (h : TE a b) (hW : WU a) (hB : QB M p a) : QB M p b := by
  intro k hk
  rw [te_nu h] at hk
  rw [hB k hk]
  exact (te_bse h hW k k hk).symm
theorem ql_c (h : ∀ i, (i = 7 ∨ 268 ≤ i ∧ i < 308) → b i = a i) (h8 : nl a ≤ 8) (hL : QL M p a) : QL M p b := by
  have e4 := h 7 (Or.inl rfl)
  refine ⟨by rw [e4]; exact hL.1, fun k hk => ?_⟩
  have hk2 : k < nl a := by rw [nl, e4] at hk; exact hk
  simp only [ln]
  rw [h (268 + 5 * k + 0) (by omega), h (268 + 5 * k + 1) (by omega), h (268 + 5 * k + 2) (by omega), h (268 + 5 * k + 3) (by omega), h (268 + 5 * k + 4) (by omega)]
  exact hL.2 k hk2
theorem qm_c (h : ∀ i, (i = 5 ∨ 46 ≤ i ∧ i < 58) → b i = a i) (h8 : nm a ≤ 6) (hL : QM M p a) : QM M p b := by
  have e4 := h 5 (Or.inl rfl)
  refine ⟨by rw [e4]; exact hL.1, fun k hk => ?_⟩
  have hk2 : k < nm a := by rw [nm, e4] at hk; exact hk
  rw [h (46 + k) (by omega), h (52 + k) (by omega)]
  exact hL.2 k hk2
theorem qj_c (h : ∀ i, (i = 6 ∨ 58 ≤ i ∧ i < 268) → b i = a i) (h8 : nj a ≤ 30) (hL : QJ M p a) : QJ M p b := by
  have e4 := h 6 (Or.inl rfl)
  refine ⟨by rw [e4]; exact hL.1, fun k hk => ?_⟩
  have hk2 : k < nj a := by rw [nj, e4] at hk; exact hk
  simp only [jb]
  rw [h (58 + 7 * k + 0) (by omega), h (58 + 7 * k + 1) (by omega), h (58 + 7 * k + 2) (by omega), h (58 + 7 * k + 3) (by omega), h (58 + 7 * k + 4) (by omega), h (58 + 7 * k + 5) (by omega), h (58 + 7 * k + 6) (by omega)]
  exact hL.2 k hk2
theorem qs_c (h : ∀ i, (i < 4 ∨ i = 8 ∨ i = 9) → b i = a i) (hL : QS M p a) : QS M p b := by
  unfold QS
  rw [h 1 (by omega), h 2 (by omega), h 3 (by omega), h 0 (by omega), h 8 (by omega), h 9 (by omega)]
  exact hL
theorem qb_f (h : Fr lo hi M M') (h1 : p + 6 ≤ lo ∨ hi ≤ p + 5) (hQ : QB M p a) : QB M' p a := by
  unfold QB
  rw [h (p + 5) (by omega)]
  exact hQ
theorem ql_f (h : Fr lo hi M M') (h1 : p + 12 ≤ lo ∨ hi ≤ p + 6) (hQ : QL M p a) : QL M' p a := by
  unfold QL
  rw [h (p + 6) (by omega), h (p + 7) (by omega), h (p + 8) (by omega), h (p + 9) (by omega), h (p + 10) (by omega), h (p + 11) (by omega)]
  exact hQ
theorem qm_f (h : Fr lo hi M M') (h1 : p + 15 ≤ lo ∨ hi ≤ p + 12) (hQ : QM M p a) : QM M' p a := by
  unfold QM
  rw [h (p + 12) (by omega), h (p + 13) (by omega), h (p + 14) (by omega)]
  exact hQ
theorem qj_f (h : Fr lo hi M M') (h1 : p + 23 ≤ lo ∨ hi ≤ p + 15) (hQ : QJ M p a) : QJ M' p a := by
  unfold QJ
  rw [h (p + 15) (by omega), h (p + 16) (by omega), h (p + 17) (by omega), h (p + 18) (by omega), h (p + 19) (by omega), h (p + 20) (by omega), h (p + 21) (by omega), h (p + 22) (by omega)]
  exact hQ
theorem qs_f (h : Fr lo hi M M') (h1 : p + 31 ≤ lo ∨ (p + 1 ≤ lo ∧ hi ≤ p + 30) ∨ hi ≤ p) (hQ : QS M p a) : QS M' p a := by
  unfold QS
  rw [h (p + 30) (by omega), h p (by omega)]
  exact hQ
theorem qp_f (h : Fr lo hi M M') (h1 : p + 31 ≤ lo ∨ hi ≤ p) (hQ : QP M p a) : QP M' p a :=
  ⟨rt_fr hQ.1 h (by omega), qb_f h (by omega) hQ.2.1, ql_f h (by omega) hQ.2.2.1, qm_f h (by omega) hQ.2.2.2.1, qj_f h (by omega) hQ.2.2.2.2.1, qs_f h (by omega) hQ.2.2.2.2.2⟩
/-- one field of a job -/
theorem qj_lay {j : Nat} (f : Nat) {v : Int32} (hQ : QJ M p a) (hj : j < nj a) (h30 : nj a ≤ 30) (hf : f < 7) : QJ (mU M (p + 16 + f) (upd (M (p + 16 + f)) j v)) p (layJ a j f v) := by
  have e6 : layJ a j f v 6 = a 6 := upd_ne (by omega)
  refine ⟨by rw [mU_n (by omega), e6]; exact hQ.1, fun k hk => ?_⟩
  have hk2 : k < nj a := by rw [nj, e6] at hk; exact hk
  have key : ∀ g, g < 7 → (M (p + 16 + g) k = jb a k g) → mU M (p + 16 + f) (upd (M (p + 16 + f)) j v) (p + 16 + g) k = jb (layJ a j f v) k g := by
    intro g hg h0
    by_cases hfg : g = f
    · subst hfg
      rw [mU_s]
      by_cases hkj : k = j
      · subst hkj; rw [upd_eq]; exact upd_eq.symm
      · rw [upd_ne hkj, h0]; exact (show upd a (58 + 7 * j + g) v (58 + 7 * k + g) = a (58 + 7 * k + g) from upd_ne (by omega)).symm
    · rw [mU_n (by omega), h0]; exact (show upd a (58 + 7 * j + f) v (58 + 7 * k + g) = a (58 + 7 * k + g) from upd_ne (by omega)).symm
  obtain ⟨t0, t1, t2, t3, t4, t5, t6⟩ := hQ.2 k hk2
  exact ⟨key 0 (by omega) t0, key 1 (by omega) t1, key 2 (by omega) t2, key 3 (by omega) t3, key 4 (by omega) t4, key 5 (by omega) t5, key 6 (by omega) t6⟩
end QC
