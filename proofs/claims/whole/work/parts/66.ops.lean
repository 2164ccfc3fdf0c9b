/-! WHAT THE OPERATIONS PROMISE, without a machine -/
section OPS
variable {a : Row} {R : List Row} {T : Nat}
def OK9 (a : Row) : Prop := WF 9999 a ∧ WV a
theorem ht_user {u w : Int32} : thU a u w = 0 ∨ thU a u w = 1 ∨ thU a u w = 2 := by
  generalize hv : thU a u w = v; unfold thU at hv; (repeat' split at hv) <;> subst hv <;> decide
theorem ht_loan {u w : Int32} : thL a u w = 0 ∨ thL a u w = 1 ∨ thL a u w = 2 := by
  generalize hv : thL a u w = v; unfold thL at hv; (repeat' split at hv) <;> subst hv <;> decide
theorem ht_balance {u : Int32} : thB a u = 0 ∨ thB a u = 1 := by
  generalize hv : thB a u = v; unfold thB at hv; (repeat' split at hv) <;> subst hv <;> decide
theorem ht_worth {u w : Int32} : thW a u w = 0 ∨ thW a u w = 1 ∨ thW a u w = 2 ∨ thW a u w = 3 := by
  generalize hv : thW a u w = v; unfold thW at hv; (repeat' split at hv) <;> subst hv <;> decide
theorem ht_machine {u w : Int32} : thM a u w = 0 ∨ thM a u w = 1 ∨ thM a u w = 2 := by
  generalize hv : thM a u w = v; unfold thM at hv; (repeat' split at hv) <;> subst hv <;> decide
theorem ht_job {u w : Int32} : thJ a u w = 0 ∨ thJ a u w = 1 ∨ thJ a u w = 2 := by
  generalize hv : thJ a u w = v; unfold thJ at hv; (repeat' split at hv) <;> subst hv <;> decide
theorem ht_first : thF a = 0 ∨ thF a = 1 := by
  generalize hv : thF a = v; unfold thF at hv; (repeat' split at hv) <;> subst hv <;> decide
theorem ht_count {w : Int32} : thC w = 0 ∨ thC w = 1 := by
  generalize hv : thC w = v; unfold thC at hv; (repeat' split at hv) <;> subst hv <;> decide
theorem ht_ranked {w : Int32} : thR a w = 0 ∨ thR a w = 1 := by
  generalize hv : thR a w = v; unfold thR at hv; (repeat' split at hv) <;> subst hv <;> decide
theorem ht_addUser {u w : Int32} : thAU a u w = 0 ∨ thAU a u w = 1 ∨ thAU a u w = 2 ∨ thAU a u w = 3 := by
  generalize hv : thAU a u w = v; unfold thAU at hv; (repeat' split at hv) <;> subst hv <;> decide
theorem ht_setShares {u w : Int32} : thSS a u w = 0 ∨ thSS a u w = 1 ∨ thSS a u w = 2 := by
  generalize hv : thSS a u w = v; unfold thSS at hv; (repeat' split at hv) <;> subst hv <;> decide
theorem ht_lend {f t s q : Int32} : thLe a f t s q = 0 ∨ thLe a f t s q = 1 ∨ thLe a f t s q = 2 ∨ thLe a f t s q = 3 := by
  generalize hv : thLe a f t s q = v; unfold thLe at hv; (repeat' split at hv) <;> subst hv <;> decide
theorem ht_submit {u w : Int32} : thSb a u w = 0 ∨ thSb a u w = 1 ∨ thSb a u w = 2 ∨ thSb a u w = 3 := by
  generalize hv : thSb a u w = v; unfold thSb at hv; (repeat' split at hv) <;> subst hv <;> decide
theorem ht_cancel {j : Int32} : thCa a j = 0 ∨ thCa a j = 1 ∨ thCa a j = 2 := by
  generalize hv : thCa a j = v; unfold thCa at hv; (repeat' split at hv) <;> subst hv <;> decide
theorem ht_setUp {m : Int32} : thSU a m = 0 ∨ thSU a m = 1 := by
  generalize hv : thSU a m = v; unfold thSU at hv; (repeat' split at hv) <;> subst hv <;> decide
theorem ht_set {w v : Int32} : thSt w v = 0 ∨ thSt w v = 1 := by
  generalize hv : thSt w v = x; unfold thSt at hv; (repeat' split at hv) <;> subst hv <;> decide
theorem ht_undo : thUn R = 0 ∨ thUn R = 1 := by
  generalize hv : thUn R = x; unfold thUn at hv; (repeat' split at hv) <;> subst hv <;> decide
theorem ht_tick {n : Int32} : thT a n = 0 ∨ thT a n = 1 ∨ thT a n = 2 := by
  generalize hv : thT a n = x; unfold thT at hv; (repeat' split at hv) <;> subst hv <;> decide
theorem ht_ahead {n w : Int32} : thAh n w = 0 ∨ thAh n w = 1 := by
  generalize hv : thAh n w = x; unfold thAh at hv; (repeat' split at hv) <;> subst hv <;> decide
theorem ht_part {u : Int32} : thP a u = 0 ∨ thP a u = 1 ∨ thP a u = 2 := by
  generalize hv : thP a u = x; unfold thP at hv; (repeat' split at hv) <;> subst hv <;> decide
theorem ht_written {n : Nat} {i : Int32} : thNn n i = 0 ∨ thNn n i = 1 := by
  generalize hv : thNn n i = x; unfold thNn at hv; (repeat' split at hv) <;> subst hv <;> decide
theorem th_p {P : Prop} [Decidable P] {c r : Int32} (h : (if ¬ P then c else r) = 0) (hc : c ≠ 0) : P ∧ r = 0 := by
  by_cases z : P
  · rw [if_neg (not_not_intro z)] at h; exact ⟨z, h⟩
  · rw [if_pos z] at h; exact absurd h hc
theorem th_q {P : Prop} [Decidable P] {c r : Int32} (h : (if P then c else r) = 0) (hc : c ≠ 0) : ¬ P ∧ r = 0 := by
  by_cases z : P
  · rw [if_pos z] at h; exact absurd h hc
  · rw [if_neg z] at h; exact ⟨z, h⟩
theorem th_z {P : Prop} [Decidable P] {c : Int32} (h : (if P then 0 else c) = 0) (hc : c ≠ 0) : P := by
  by_cases z : P
  · exact z
  · rw [if_neg z] at h; exact absurd h hc
theorem hv_eq {e : Int32} : ∃ e2 : Int32, ∀ x : Value, x = .int e → x = .int e2 := ⟨e, fun _ h => h⟩
theorem hv_user {u w : Int32} (hW : WF T a) (h : thU a u w = 0) : ∃ e : Int32, ∀ x : Value, (∀ k, k < nu a → u = nI k → x = .int (vlU a k w)) → x = .int e := by
  obtain ⟨k, hk, rfl⟩ := us_n hW.1 (th_p h (by decide)).1
  exact ⟨_, fun x hx => hx k hk rfl⟩
theorem hv_loan {u w : Int32} (hW : WF T a) (h : thL a u w = 0) : ∃ e : Int32, ∀ x : Value, (∀ k, k < nl a → u = nI k → x = .int (vlL a k w)) → x = .int e := by
  obtain ⟨k, hk, rfl⟩ := ix_n hW.2.2.2.2.1.1 (by have := hW.2.2.2.2.1.2.1; omega) (th_p h (by decide)).1
  exact ⟨_, fun x hx => hx k hk rfl⟩
theorem hv_worth {u k : Int32} (hW : WF T a) (h : thW a u k = 0) : ∃ e : Int64, ∀ x : Value, (∀ v, v < nu a → u = nI v → x = .long (woS (tkS a v) (a (34 + v)) k)) → x = .long e := by
  obtain ⟨k, hk, rfl⟩ := us_n hW.1 (th_p h (by decide)).1
  exact ⟨_, fun x hx => hx k hk rfl⟩
theorem hv_machine {u w : Int32} (hW : WF T a) (h : thM a u w = 0) : ∃ e : Int32, ∀ x : Value, (∀ k, k < nm a → u = nI k → x = .int (vlM a k w)) → x = .int e := by
  obtain ⟨k, hk, rfl⟩ := ix_n hW.2.2.1.1 (by have := hW.2.2.1.2.1; omega) (th_p h (by decide)).1
  exact ⟨_, fun x hx => hx k hk rfl⟩
theorem hv_job {j w : Int32} (hW : WF T a) (h : thJ a j w = 0) : ∃ e : Int32, ∀ x : Value, (∀ k f, k < nj a → j = nI k → f < 7 → w = nI f → x = .int (jb a k f)) → x = .int e := by
  obtain ⟨h1, h2⟩ := th_p h (by decide)
  obtain ⟨k, hk, rfl⟩ := ix_n hW.2.2.2.1.1 (by have := hW.2.2.2.1.2.1; omega) h1
  obtain ⟨f, hf, rfl⟩ := ix_c (u := w) 6 (by omega) (th_z h2 (by decide))
  exact ⟨_, fun x hx => hx k f hk rfl (by omega) rfl⟩
theorem hv_written {n : Nat} {i : Int32} {g : Nat → Int32} (hn : n ≤ 120) (h : thNn n i = 0) : ∃ e : Int32, ∀ x : Value, (∀ k, k < n → i = nI k → x = .int (g k)) → x = .int e := by
  obtain ⟨k, hk, rfl⟩ := ix_n (x := nI n) rfl (by omega) (th_z h (by decide))
  exact ⟨_, fun x hx => hx k hk rfl⟩
theorem hv_setShares {u s : Int32} (hW : WF T a) (h : thSS a u s = 0) : ∃ e : Int32, ∀ x : Value, (∀ k, k < nu a → u = nI k → x = .int (a (22 + k))) → x = .int e := by
  obtain ⟨k, hk, rfl⟩ := us_n hW.1 (th_p h (by decide)).1
  exact ⟨_, fun x hx => hx k hk rfl⟩
theorem hv_set {w v : Int32} (h : thSt w v = 0) : ∃ e : Int32, ∀ x : Value, (∀ k, k < 3 → w = nI k → x = .int (a (1 + k))) → x = .int e := by
  obtain ⟨k, hk, rfl⟩ := ix_c (u := w) 2 (by omega) (th_z h (by decide)).1
  exact ⟨_, fun x hx => hx k (by omega) rfl⟩
theorem pos_n {k : Nat} (hk : k < 2 ^ 31) (h : (1 : Int32) ≤ nI k) : 1 ≤ k := (nI_leI (a := 1) (by decide) hk).mp h
theorem ok_addUser {p s : Int32} (h9 : OK9 a) (h : thAU a p s = 0) : OK9 (adU a p s) := by
  obtain ⟨hW, hV⟩ := h9
  obtain ⟨h1, h⟩ := th_p h (by decide)
  obtain ⟨h2, h⟩ := th_p h (by decide)
  have h3 := (th_q h (by decide)).1
  obtain ⟨k, hk, rfl⟩ := us_n hW.1 h1
  obtain ⟨z, hz, rfl⟩ := ix_c (u := s) 99 (by omega) ⟨Int32.le_trans (by decide) h2.1, h2.2⟩
  have h12 := hW.1.2.2.1
  have hn : nu a < 12 := by
    have y : nu a ≠ 12 := fun y => h3 (Or.inl (by rw [hW.1.1, y]; rfl))
    omega
  exact ⟨wf_ad hW hn hk (pos_n (by omega) h2.1) hz (by
    cases y : anJ a (nI k) with
    | false => rfl
    | true => exact absurd (Or.inr (Or.inl y)) h3) (by
    cases y : anL a (nI k) with
    | false => rfl
    | true => exact absurd (Or.inr (Or.inr y)) h3), wv_ad hV hn⟩
theorem ok_setShares {u s : Int32} (h9 : OK9 a) (h : thSS a u s = 0) : OK9 (upd a (22 + zN u) s) := by
  obtain ⟨hW, hV⟩ := h9
  obtain ⟨h1, h⟩ := th_p h (by decide)
  have h2 := th_z h (by decide)
  obtain ⟨k, hk, rfl⟩ := us_n hW.1 h1
  obtain ⟨z, hz, rfl⟩ := ix_c (u := s) 99 (by omega) ⟨Int32.le_trans (by decide) h2.1.1, h2.1.2⟩
  have h12 := hW.1.2.2.1
  rw [show zN (nI k) = k from nI_clamp (by omega)]
  exact ⟨wf_sh hW hk (pos_n (by omega) h2.1.1) hz, wv_sh hV (by omega)⟩
theorem ok_lend {f t s q : Int32} (h9 : OK9 a) (h : thLe a f t s q = 0) : OK9 (adL a f t s q) := by
  obtain ⟨hW, hV⟩ := h9
  obtain ⟨h1, h⟩ := th_q h (by decide)
  obtain ⟨h2, h⟩ := th_q h (by decide)
  have h3 := (th_q h (by decide)).1
  have hl := hW.2.2.2.2.1
  have h12 := hW.1.2.2.1
  have y1 : 0 ≤ f ∧ f < a 4 := Decidable.not_not.mp (fun y => h1 (Or.inl y))
  have y2 : 0 ≤ t ∧ t < a 4 := Decidable.not_not.mp (fun y => h1 (Or.inr y))
  have y3 : 1 ≤ s ∧ s ≤ 500000 := Decidable.not_not.mp (fun y => h2 (Or.inr (Or.inl y)))
  have y4 : 1 ≤ q ∧ q ≤ 50 := Decidable.not_not.mp (fun y => h2 (Or.inr (Or.inr y)))
  have y5 : f ≠ t := fun y => h2 (Or.inl y)
  have y6 : lfS a (zN f) := Decidable.not_not.mp (fun y => h3 (Or.inl y))
  have y7 : lfS a (zN t) := Decidable.not_not.mp (fun y => h3 (Or.inr (Or.inl y)))
  have h8 : nl a < 8 := by
    have y : nl a ≠ 8 := fun y => h3 (Or.inr (Or.inr (Or.inl (by rw [hl.1, y]; rfl))))
    have := hl.2.1
    omega
  obtain ⟨i, hi, rfl⟩ := us_n hW.1 y1
  obtain ⟨j, hj, rfl⟩ := us_n hW.1 y2
  obtain ⟨z, hz, rfl⟩ := nI_of2 (x := s) (M := 500000) (n := 500000) rfl (Int32.not_lt.mpr (Int32.le_trans (by decide) y3.1)) y3.2
  obtain ⟨v, hv, rfl⟩ := ix_c (u := q) 50 (by omega) ⟨Int32.le_trans (by decide) y4.1, y4.2⟩
  rw [show zN (nI i) = i from nI_clamp (by omega)] at y6
  rw [show zN (nI j) = j from nI_clamp (by omega)] at y7
  exact ⟨wl_ad hW h8 hi hj (fun y => y5 (by rw [y])) y6 y7 (pos_n (by omega) y3.1) hz (pos_n (by omega) y4.1) hv, wv_al hW h8 hV⟩
theorem ok_submit {u s : Int32} (h9 : OK9 a) (h : thSb a u s = 0) : OK9 (fiS (adJ a u s)) := by
  obtain ⟨hW, hV⟩ := h9
  obtain ⟨h1, h⟩ := th_p h (by decide)
  obtain ⟨h2, h⟩ := th_p h (by decide)
  have h3 := (th_q h (by decide)).1
  have hJ := hW.2.2.2.1
  have h12 := hW.1.2.2.1
  have y6 : lfS a (zN u) := Decidable.not_not.mp (fun y => h3 (Or.inl y))
  have h30 : nj a < 30 := by
    have y : nj a ≠ 30 := fun y => h3 (Or.inr (by rw [hJ.1, y]; rfl))
    have := hJ.2.1
    omega
  obtain ⟨k, hk, rfl⟩ := us_n hW.1 h1
  obtain ⟨z, hz, rfl⟩ := ix_c (u := s) 60 (by omega) ⟨Int32.le_trans (by decide) h2.1, h2.2⟩
  rw [show zN (nI k) = k from nI_clamp (by omega)] at y6
  have w := wf_aj (s := z) hW h30 hk y6
  exact ⟨wf_fi w.1, wv_fi 30 _ w.1 (w.2 hV)⟩
theorem ok_cancel {j : Int32} (h9 : OK9 a) (h : thCa a j = 0) : OK9 (fiS (endS a (zN j) 3)) := by
  obtain ⟨hW, hV⟩ := h9
  obtain ⟨h1, -⟩ := th_p h (by decide)
  have hJ := hW.2.2.2.1
  have h30 := hJ.2.1
  obtain ⟨k, hk, rfl⟩ := ix_n hJ.1 (by omega) h1
  rw [show zN (nI k) = k from nI_clamp (by omega)]
  have w := wf_end (s := 3) hW (Or.inr rfl) hk
  exact ⟨wf_fi w, wv_fi 30 _ w (wv_end hV (Or.inr rfl) (by omega) hW.2.2.1.2.1)⟩
theorem ok_setUp {m b : Int32} (h9 : OK9 a) (h : thSU a m = 0) : OK9 (swS a (zN m) b) := by
  obtain ⟨hW, hV⟩ := h9
  have hM := hW.2.2.1
  have h6 := hM.2.1
  obtain ⟨k, hk, rfl⟩ := ix_n hM.1 (by omega) (th_z h (by decide))
  rw [show zN (nI k) = k from nI_clamp (by omega)]
  exact ⟨wf_sw hW hk, wv_sw hW hV hk⟩
theorem ok_set {w v : Int32} (h9 : OK9 a) (h : thSt w v = 0) : OK9 (upd a (1 + zN w) v) := by
  obtain ⟨hW, hV⟩ := h9
  have h2 := th_z h (by decide)
  obtain ⟨k, hk, rfl⟩ := ix_c (u := w) 2 (by omega) h2.1
  rw [show zN (nI k) = k from nI_clamp (by omega)] at h2 ⊢
  have e : lsI (k + 1) = nI (leS k) ∧ msI (k + 1) = nI (moS k) ∧ leS k ≤ 1 ∧ moS k ≤ 400 := by
    rcases (show k = 0 ∨ k = 1 ∨ k = 2 by omega) with y | y | y <;> subst y <;> decide
  rw [e.1, e.2.1] at h2
  have hnn : (0 : Int32) ≤ nI (leS k) := nI_pos' (by omega)
  obtain ⟨z, hz, rfl⟩ := nI_of (x := v) (Int32.not_lt.mpr (Int32.le_trans hnn h2.2.1))
  have y1 := (nI_leI (by omega) hz).mp h2.2.1
  have y2 := (nI_leI hz (by omega)).mp h2.2.2
  have ww := wf_st hW (show k < 3 by omega) y1 y2
  exact ⟨ww.1, ww.2 hV⟩
theorem ok_tick {n : Int32} (h9 : OK9 a) (h : thT a n = 0) : OK9 (tkN a (zN n)) := by
  obtain ⟨hW, hV⟩ := h9
  obtain ⟨h1, h⟩ := th_p h (by decide)
  have h2 := (th_q h (by decide)).1
  obtain ⟨k, hk, rfl⟩ := ix_c (u := n) 60 (by omega) ⟨Int32.le_trans (by decide) h1.1, h1.2⟩
  have t0 := hW.2.2.2.2.2.1
  have t1 := hW.2.2.2.2.2.2.1
  rw [show zN (nI k) = k from nI_clamp (by omega)]
  rw [t0, nI_add, show (9999 : Int32) = nI 9999 from rfl, nI_ltI (by decide) (by omega)] at h2
  have w := tkN_ok (wf_lo hW) hV k (by omega)
  exact ⟨wf_le w.1 (by omega) (by omega), w.2.1⟩
end OPS
