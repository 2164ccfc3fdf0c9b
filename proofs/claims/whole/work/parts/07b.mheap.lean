/-! THE STATIC HEAP: once everything is made, the cells are known by numbers: the object 0, the places at 1, 32, 65 + 31 i, their history, text, note, the check's object at 317 and its rows, out at 325, outD at 326. What moves: M (a cell's ints), L (a cell's longs), dd (the one double). -/
def m_pl (r : Nat → Int32) (w : Nat → Int64) (c : Nat) : Nat → a_E
  | 0 => .inr (5, [.ref (c + 1), .ref (c + 6), .ref (c + 12), .ref (c + 15), .ref (c + 23), .ref (c + 30), .int (r 6), .int (r 7), .int (r 8)])
  | 1 => .inr (8, [.int (r 0), .ref (c + 1), .ref (c + 2), .ref (c + 3), .ref (c + 4)])
  | 6 => .inr (2, [.int (r 0), .ref (c + 1), .ref (c + 2), .ref (c + 3), .ref (c + 4), .ref (c + 5)])
  | 12 => .inr (3, [.int (r 0), .ref (c + 1), .ref (c + 2)])
  | 15 => .inr (1, [.int (r 0), .ref (c + 1), .ref (c + 2), .ref (c + 3), .ref (c + 4), .ref (c + 5), .ref (c + 6), .ref (c + 7)])
  | 23 => .inr (6, [.ref (c + 1), .ref (c + 2), .ref (c + 3), .ref (c + 4), .ref (c + 5), .ref (c + 6)])
  | 28 => .inl (2, 12, .inr (.inl w))
  | 29 => .inl (2, 12, .inr (.inl w))
  | 30 => .inl (0, 3, .inl r)
  | k => .inl (0, if k ≤ 5 then 12 else if k ≤ 11 then 8 else if k ≤ 14 then 6 else if k ≤ 22 then 30 else if k ≤ 26 then 12 else 6, .inl r)
def m_pf : Nat → Option Nat := fun j => if j < 8 then some (65 + 31 * j) else none
def m_cell (r : Nat → Int32) (w : Nat → Int64) (dd : UInt64) (c : Nat) : a_E :=
  if c = 0 then .inr (9, [.ref 1, .ref 32, .ref 63, .ref 313, .ref 315])
  else if c < 63 then m_pl r w c ((c - 1) % 31)
  else if c = 63 then .inr (0, [.int (r 0), .int (r 1), .ref 64])
  else if c = 64 then .inl (4, 8, .inr (.inr (.inr (.inr m_pf))))
  else if c < 313 then m_pl r w c ((c - 65) % 31)
  else if c = 313 then .inr (7, [.int (r 0), .int (r 1), .int (r 2), .ref 314, .int (r 4), .int (r 5), .int (r 6)])
  else if c = 314 then .inl (1, 600, .inl r)
  else if c = 315 then .inr (4, [.int (r 0), .ref 316])
  else if c = 316 then .inl (1, 128, .inl r)
  else if c = 317 then .inr (10, [.ref 318, .ref 319, .ref 320, .ref 321, .int (r 4), .int (r 5), .ref 322, .int (r 7), .int (r 8), .int (r 9), .int (r 10), .int (r 11), .int (r 12), .int (r 13), .int (r 14), .int (r 15), .ref 323, .int (r 17), .ref 324, .int (r 19)])
  else if c = 325 then .inl (2, 1, .inr (.inl w))
  else if c = 326 then .inl (3, 1, .inr (.inr (.inr (.inl (fun _ => dd)))))
  else .inl (0, if c ≤ 320 then 308 else if c = 321 then 2464 else if c = 322 then 600 else if c = 323 then 12 else 120, .inl r)
def hp (M : Nat → Nat → Int32) (L : Nat → Nat → Int64) (dd : UInt64) : List a_E := (List.range 327).map (fun c => m_cell (M c) (L c) dd c)
abbrev hS (M : Nat → Nat → Int32) (L : Nat → Nat → Int64) (dd : UInt64) : a_H := (false, hp M L dd)
def mU (M : Nat → Nat → Int32) (c : Nat) (r : Nat → Int32) : Nat → Nat → Int32 := fun a => if a = c then r else M a
def mL (L : Nat → Nat → Int64) (c : Nat) (r : Nat → Int64) : Nat → Nat → Int64 := fun a => if a = c then r else L a
theorem mU_s {M : Nat → Nat → Int32} {c : Nat} {r : Nat → Int32} : mU M c r c = r := if_pos rfl
theorem mU_n {M : Nat → Nat → Int32} {c a : Nat} {r : Nat → Int32} (h : a ≠ c) : mU M c r a = M a := if_neg h
theorem mL_s {M : Nat → Nat → Int64} {c : Nat} {r : Nat → Int64} : mL M c r c = r := if_pos rfl
theorem mL_n {M : Nat → Nat → Int64} {c a : Nat} {r : Nat → Int64} (h : a ≠ c) : mL M c r a = M a := if_neg h
theorem hp_at {M : Nat → Nat → Int32} {L : Nat → Nat → Int64} {dd : UInt64} {c : Nat} (hc : c < 327) : (hp M L dd)[c]? = some (m_cell (M c) (L c) dd c) := by
  unfold hp
  rw [List.getElem?_map, List.getElem?_range hc]
  rfl
theorem hp_len {M : Nat → Nat → Int32} {L : Nat → Nat → Int64} {dd : UInt64} : (hp M L dd).length = 327 := by simp [hp]
theorem hp_setM {M : Nat → Nat → Int32} {L : Nat → Nat → Int64} {dd : UInt64} {c : Nat} (r : Nat → Int32) (e : a_E) (he : m_cell r (L c) dd c = e) : (hp M L dd).set c e = hp (mU M c r) L dd := by
  subst he
  refine List.ext_getElem? fun i => ?_
  by_cases hi : i < 327
  · by_cases hic : i = c
    · subst hic
      rw [List.getElem?_set_self (by rw [hp_len]; exact hi), hp_at hi, mU_s]
    · rw [List.getElem?_set_ne (Ne.symm hic), hp_at hi, hp_at hi, mU_n hic]
  · rw [List.getElem?_eq_none (by rw [List.length_set, hp_len]; omega), List.getElem?_eq_none (by rw [hp_len]; omega)]
theorem hp_setL {M : Nat → Nat → Int32} {L : Nat → Nat → Int64} {dd : UInt64} {c : Nat} (r : Nat → Int64) (e : a_E) (he : m_cell (M c) r dd c = e) : (hp M L dd).set c e = hp M (mL L c r) dd := by
  subst he
  refine List.ext_getElem? fun i => ?_
  by_cases hi : i < 327
  · by_cases hic : i = c
    · subst hic
      rw [List.getElem?_set_self (by rw [hp_len]; exact hi), hp_at hi, mL_s]
    · rw [List.getElem?_set_ne (Ne.symm hic), hp_at hi, hp_at hi, mL_n hic]
  · rw [List.getElem?_eq_none (by rw [List.length_set, hp_len]; omega), List.getElem?_eq_none (by rw [hp_len]; omega)]
/-- what kind of cell stands at a number -/
def OB (c ci : Nat) (vs : (Nat → Int32) → List Value) : Prop := c < 327 ∧ ∀ r w dd, m_cell r w dd c = .inr (ci, vs r)
def AI (c n : Nat) : Prop := c < 327 ∧ ∀ r w dd, m_cell r w dd c = .inl (0, n, .inl r)
def AB (c n : Nat) : Prop := c < 327 ∧ ∀ r w dd, m_cell r w dd c = .inl (1, n, .inl r)
def AL (c n : Nat) : Prop := c < 327 ∧ ∀ r w dd, m_cell r w dd c = .inl (2, n, .inr (.inl w))
def PL (p : Nat) : Prop := p ∈ [1, 32, 65, 96, 127, 158, 189, 220, 251, 282]
theorem pl_ind {P : Nat → Prop} {p : Nat} (hp : PL p) (h : ∀ q ∈ [1, 32, 65, 96, 127, 158, 189, 220, 251, 282], P q) : P p := h p hp
theorem pl1 : PL 1 := by unfold PL; decide
theorem pl32 : PL 32 := by unfold PL; decide
theorem ob_place {p : Nat} (h : PL p) : OB p 5 (fun r => [.ref (p + 1), .ref (p + 6), .ref (p + 12), .ref (p + 15), .ref (p + 23), .ref (p + 30), .int (r 6), .int (r 7), .int (r 8)]) := by
  refine pl_ind (P := fun p => OB p 5 (fun r => [.ref (p + 1), .ref (p + 6), .ref (p + 12), .ref (p + 15), .ref (p + 23), .ref (p + 30), .int (r 6), .int (r 7), .int (r 8)])) h ?_
  intro q hq
  simp only [List.mem_cons, List.not_mem_nil, or_false] at hq
  rcases hq with rfl | rfl | rfl | rfl | rfl | rfl | rfl | rfl | rfl | rfl <;> exact ⟨by decide, fun r w dd => rfl⟩
theorem ob_tree {p : Nat} (h : PL p) : OB (p + 1) 8 (fun r => [.int (r 0), .ref (p + 2), .ref (p + 3), .ref (p + 4), .ref (p + 5)]) := by
  refine pl_ind (P := fun p => OB (p + 1) 8 (fun r => [.int (r 0), .ref (p + 2), .ref (p + 3), .ref (p + 4), .ref (p + 5)])) h ?_
  intro q hq
  simp only [List.mem_cons, List.not_mem_nil, or_false] at hq
  rcases hq with rfl | rfl | rfl | rfl | rfl | rfl | rfl | rfl | rfl | rfl <;> exact ⟨by decide, fun r w dd => rfl⟩
theorem ob_loans {p : Nat} (h : PL p) : OB (p + 6) 2 (fun r => [.int (r 0), .ref (p + 7), .ref (p + 8), .ref (p + 9), .ref (p + 10), .ref (p + 11)]) := by
  refine pl_ind (P := fun p => OB (p + 6) 2 (fun r => [.int (r 0), .ref (p + 7), .ref (p + 8), .ref (p + 9), .ref (p + 10), .ref (p + 11)])) h ?_
  intro q hq
  simp only [List.mem_cons, List.not_mem_nil, or_false] at hq
  rcases hq with rfl | rfl | rfl | rfl | rfl | rfl | rfl | rfl | rfl | rfl <;> exact ⟨by decide, fun r w dd => rfl⟩
theorem ob_machines {p : Nat} (h : PL p) : OB (p + 12) 3 (fun r => [.int (r 0), .ref (p + 13), .ref (p + 14)]) := by
  refine pl_ind (P := fun p => OB (p + 12) 3 (fun r => [.int (r 0), .ref (p + 13), .ref (p + 14)])) h ?_
  intro q hq
  simp only [List.mem_cons, List.not_mem_nil, or_false] at hq
  rcases hq with rfl | rfl | rfl | rfl | rfl | rfl | rfl | rfl | rfl | rfl <;> exact ⟨by decide, fun r w dd => rfl⟩
theorem ob_jobs {p : Nat} (h : PL p) : OB (p + 15) 1 (fun r => [.int (r 0), .ref (p + 16), .ref (p + 17), .ref (p + 18), .ref (p + 19), .ref (p + 20), .ref (p + 21), .ref (p + 22)]) := by
  refine pl_ind (P := fun p => OB (p + 15) 1 (fun r => [.int (r 0), .ref (p + 16), .ref (p + 17), .ref (p + 18), .ref (p + 19), .ref (p + 20), .ref (p + 21), .ref (p + 22)])) h ?_
  intro q hq
  simp only [List.mem_cons, List.not_mem_nil, or_false] at hq
  rcases hq with rfl | rfl | rfl | rfl | rfl | rfl | rfl | rfl | rfl | rfl <;> exact ⟨by decide, fun r w dd => rfl⟩
theorem ob_scale {p : Nat} (h : PL p) : OB (p + 23) 6 (fun r => [.ref (p + 24), .ref (p + 25), .ref (p + 26), .ref (p + 27), .ref (p + 28), .ref (p + 29)]) := by
  refine pl_ind (P := fun p => OB (p + 23) 6 (fun r => [.ref (p + 24), .ref (p + 25), .ref (p + 26), .ref (p + 27), .ref (p + 28), .ref (p + 29)])) h ?_
  intro q hq
  simp only [List.mem_cons, List.not_mem_nil, or_false] at hq
  rcases hq with rfl | rfl | rfl | rfl | rfl | rfl | rfl | rfl | rfl | rfl <;> exact ⟨by decide, fun r w dd => rfl⟩
theorem ai_parent {p : Nat} (h : PL p) : AI (p + 2) 12 := by
  refine pl_ind (P := fun p => AI (p + 2) 12) h ?_
  intro q hq
  simp only [List.mem_cons, List.not_mem_nil, or_false] at hq
  rcases hq with rfl | rfl | rfl | rfl | rfl | rfl | rfl | rfl | rfl | rfl <;> exact ⟨by decide, fun r w dd => rfl⟩
theorem ai_shares {p : Nat} (h : PL p) : AI (p + 3) 12 := by
  refine pl_ind (P := fun p => AI (p + 3) 12) h ?_
  intro q hq
  simp only [List.mem_cons, List.not_mem_nil, or_false] at hq
  rcases hq with rfl | rfl | rfl | rfl | rfl | rfl | rfl | rfl | rfl | rfl <;> exact ⟨by decide, fun r w dd => rfl⟩
theorem ai_use {p : Nat} (h : PL p) : AI (p + 4) 12 := by
  refine pl_ind (P := fun p => AI (p + 4) 12) h ?_
  intro q hq
  simp only [List.mem_cons, List.not_mem_nil, or_false] at hq
  rcases hq with rfl | rfl | rfl | rfl | rfl | rfl | rfl | rfl | rfl | rfl <;> exact ⟨by decide, fun r w dd => rfl⟩
theorem ai_base {p : Nat} (h : PL p) : AI (p + 5) 12 := by
  refine pl_ind (P := fun p => AI (p + 5) 12) h ?_
  intro q hq
  simp only [List.mem_cons, List.not_mem_nil, or_false] at hq
  rcases hq with rfl | rfl | rfl | rfl | rfl | rfl | rfl | rfl | rfl | rfl <;> exact ⟨by decide, fun r w dd => rfl⟩
theorem ai_from {p : Nat} (h : PL p) : AI (p + 7) 8 := by
  refine pl_ind (P := fun p => AI (p + 7) 8) h ?_
  intro q hq
  simp only [List.mem_cons, List.not_mem_nil, or_false] at hq
  rcases hq with rfl | rfl | rfl | rfl | rfl | rfl | rfl | rfl | rfl | rfl <;> exact ⟨by decide, fun r w dd => rfl⟩
theorem ai_to {p : Nat} (h : PL p) : AI (p + 8) 8 := by
  refine pl_ind (P := fun p => AI (p + 8) 8) h ?_
  intro q hq
  simp only [List.mem_cons, List.not_mem_nil, or_false] at hq
  rcases hq with rfl | rfl | rfl | rfl | rfl | rfl | rfl | rfl | rfl | rfl <;> exact ⟨by decide, fun r w dd => rfl⟩
theorem ai_ltickets {p : Nat} (h : PL p) : AI (p + 9) 8 := by
  refine pl_ind (P := fun p => AI (p + 9) 8) h ?_
  intro q hq
  simp only [List.mem_cons, List.not_mem_nil, or_false] at hq
  rcases hq with rfl | rfl | rfl | rfl | rfl | rfl | rfl | rfl | rfl | rfl <;> exact ⟨by decide, fun r w dd => rfl⟩
theorem ai_begin {p : Nat} (h : PL p) : AI (p + 10) 8 := by
  refine pl_ind (P := fun p => AI (p + 10) 8) h ?_
  intro q hq
  simp only [List.mem_cons, List.not_mem_nil, or_false] at hq
  rcases hq with rfl | rfl | rfl | rfl | rfl | rfl | rfl | rfl | rfl | rfl <;> exact ⟨by decide, fun r w dd => rfl⟩
theorem ai_ticks {p : Nat} (h : PL p) : AI (p + 11) 8 := by
  refine pl_ind (P := fun p => AI (p + 11) 8) h ?_
  intro q hq
  simp only [List.mem_cons, List.not_mem_nil, or_false] at hq
  rcases hq with rfl | rfl | rfl | rfl | rfl | rfl | rfl | rfl | rfl | rfl <;> exact ⟨by decide, fun r w dd => rfl⟩
theorem ai_slots {p : Nat} (h : PL p) : AI (p + 13) 6 := by
  refine pl_ind (P := fun p => AI (p + 13) 6) h ?_
  intro q hq
  simp only [List.mem_cons, List.not_mem_nil, or_false] at hq
  rcases hq with rfl | rfl | rfl | rfl | rfl | rfl | rfl | rfl | rfl | rfl <;> exact ⟨by decide, fun r w dd => rfl⟩
theorem ai_up {p : Nat} (h : PL p) : AI (p + 14) 6 := by
  refine pl_ind (P := fun p => AI (p + 14) 6) h ?_
  intro q hq
  simp only [List.mem_cons, List.not_mem_nil, or_false] at hq
  rcases hq with rfl | rfl | rfl | rfl | rfl | rfl | rfl | rfl | rfl | rfl <;> exact ⟨by decide, fun r w dd => rfl⟩
theorem ai_leaf {p : Nat} (h : PL p) : AI (p + 16) 30 := by
  refine pl_ind (P := fun p => AI (p + 16) 30) h ?_
  intro q hq
  simp only [List.mem_cons, List.not_mem_nil, or_false] at hq
  rcases hq with rfl | rfl | rfl | rfl | rfl | rfl | rfl | rfl | rfl | rfl <;> exact ⟨by decide, fun r w dd => rfl⟩
theorem ai_length {p : Nat} (h : PL p) : AI (p + 17) 30 := by
  refine pl_ind (P := fun p => AI (p + 17) 30) h ?_
  intro q hq
  simp only [List.mem_cons, List.not_mem_nil, or_false] at hq
  rcases hq with rfl | rfl | rfl | rfl | rfl | rfl | rfl | rfl | rfl | rfl <;> exact ⟨by decide, fun r w dd => rfl⟩
theorem ai_work {p : Nat} (h : PL p) : AI (p + 18) 30 := by
  refine pl_ind (P := fun p => AI (p + 18) 30) h ?_
  intro q hq
  simp only [List.mem_cons, List.not_mem_nil, or_false] at hq
  rcases hq with rfl | rfl | rfl | rfl | rfl | rfl | rfl | rfl | rfl | rfl <;> exact ⟨by decide, fun r w dd => rfl⟩
theorem ai_state {p : Nat} (h : PL p) : AI (p + 19) 30 := by
  refine pl_ind (P := fun p => AI (p + 19) 30) h ?_
  intro q hq
  simp only [List.mem_cons, List.not_mem_nil, or_false] at hq
  rcases hq with rfl | rfl | rfl | rfl | rfl | rfl | rfl | rfl | rfl | rfl <;> exact ⟨by decide, fun r w dd => rfl⟩
theorem ai_machine {p : Nat} (h : PL p) : AI (p + 20) 30 := by
  refine pl_ind (P := fun p => AI (p + 20) 30) h ?_
  intro q hq
  simp only [List.mem_cons, List.not_mem_nil, or_false] at hq
  rcases hq with rfl | rfl | rfl | rfl | rfl | rfl | rfl | rfl | rfl | rfl <;> exact ⟨by decide, fun r w dd => rfl⟩
theorem ai_ended {p : Nat} (h : PL p) : AI (p + 21) 30 := by
  refine pl_ind (P := fun p => AI (p + 21) 30) h ?_
  intro q hq
  simp only [List.mem_cons, List.not_mem_nil, or_false] at hq
  rcases hq with rfl | rfl | rfl | rfl | rfl | rfl | rfl | rfl | rfl | rfl <;> exact ⟨by decide, fun r w dd => rfl⟩
theorem ai_waited {p : Nat} (h : PL p) : AI (p + 22) 30 := by
  refine pl_ind (P := fun p => AI (p + 22) 30) h ?_
  intro q hq
  simp only [List.mem_cons, List.not_mem_nil, or_false] at hq
  rcases hq with rfl | rfl | rfl | rfl | rfl | rfl | rfl | rfl | rfl | rfl <;> exact ⟨by decide, fun r w dd => rfl⟩
theorem ai_load {p : Nat} (h : PL p) : AI (p + 24) 12 := by
  refine pl_ind (P := fun p => AI (p + 24) 12) h ?_
  intro q hq
  simp only [List.mem_cons, List.not_mem_nil, or_false] at hq
  rcases hq with rfl | rfl | rfl | rfl | rfl | rfl | rfl | rfl | rfl | rfl <;> exact ⟨by decide, fun r w dd => rfl⟩
theorem ai_waiting {p : Nat} (h : PL p) : AI (p + 25) 12 := by
  refine pl_ind (P := fun p => AI (p + 25) 12) h ?_
  intro q hq
  simp only [List.mem_cons, List.not_mem_nil, or_false] at hq
  rcases hq with rfl | rfl | rfl | rfl | rfl | rfl | rfl | rfl | rfl | rfl <;> exact ⟨by decide, fun r w dd => rfl⟩
theorem ai_tickets {p : Nat} (h : PL p) : AI (p + 26) 12 := by
  refine pl_ind (P := fun p => AI (p + 26) 12) h ?_
  intro q hq
  simp only [List.mem_cons, List.not_mem_nil, or_false] at hq
  rcases hq with rfl | rfl | rfl | rfl | rfl | rfl | rfl | rfl | rfl | rfl <;> exact ⟨by decide, fun r w dd => rfl⟩
theorem ai_busy {p : Nat} (h : PL p) : AI (p + 27) 6 := by
  refine pl_ind (P := fun p => AI (p + 27) 6) h ?_
  intro q hq
  simp only [List.mem_cons, List.not_mem_nil, or_false] at hq
  rcases hq with rfl | rfl | rfl | rfl | rfl | rfl | rfl | rfl | rfl | rfl <;> exact ⟨by decide, fun r w dd => rfl⟩
theorem ai_settings {p : Nat} (h : PL p) : AI (p + 30) 3 := by
  refine pl_ind (P := fun p => AI (p + 30) 3) h ?_
  intro q hq
  simp only [List.mem_cons, List.not_mem_nil, or_false] at hq
  rcases hq with rfl | rfl | rfl | rfl | rfl | rfl | rfl | rfl | rfl | rfl <;> exact ⟨by decide, fun r w dd => rfl⟩
theorem al_next {p : Nat} (h : PL p) : AL (p + 28) 12 := by
  refine pl_ind (P := fun p => AL (p + 28) 12) h ?_
  intro q hq
  simp only [List.mem_cons, List.not_mem_nil, or_false] at hq
  rcases hq with rfl | rfl | rfl | rfl | rfl | rfl | rfl | rfl | rfl | rfl <;> exact ⟨by decide, fun r w dd => rfl⟩
theorem al_now {p : Nat} (h : PL p) : AL (p + 29) 12 := by
  refine pl_ind (P := fun p => AL (p + 29) 12) h ?_
  intro q hq
  simp only [List.mem_cons, List.not_mem_nil, or_false] at hq
  rcases hq with rfl | rfl | rfl | rfl | rfl | rfl | rfl | rfl | rfl | rfl <;> exact ⟨by decide, fun r w dd => rfl⟩
theorem ob_x : OB 0 9 (fun r => [.ref 1, .ref 32, .ref 63, .ref 313, .ref 315]) := ⟨by decide, fun r w dd => rfl⟩
theorem ob_history : OB 63 0 (fun r => [.int (r 0), .int (r 1), .ref 64]) := ⟨by decide, fun r w dd => rfl⟩
theorem ob_text : OB 313 7 (fun r => [.int (r 0), .int (r 1), .int (r 2), .ref 314, .int (r 4), .int (r 5), .int (r 6)]) := ⟨by decide, fun r w dd => rfl⟩
theorem ob_note : OB 315 4 (fun r => [.int (r 0), .ref 316]) := ⟨by decide, fun r w dd => rfl⟩
theorem ob_model : OB 317 10 (fun r => [.ref 318, .ref 319, .ref 320, .ref 321, .int (r 4), .int (r 5), .ref 322, .int (r 7), .int (r 8), .int (r 9), .int (r 10), .int (r 11), .int (r 12), .int (r 13), .int (r 14), .int (r 15), .ref 323, .int (r 17), .ref 324, .int (r 19)]) := ⟨by decide, fun r w dd => rfl⟩
theorem ai_a : AI 318 308 := ⟨by decide, fun r w dd => rfl⟩
theorem ai_fresh : AI 319 308 := ⟨by decide, fun r w dd => rfl⟩
theorem ai_aside : AI 320 308 := ⟨by decide, fun r w dd => rfl⟩
theorem ai_kept : AI 321 2464 := ⟨by decide, fun r w dd => rfl⟩
theorem ai_buffer : AI 322 600 := ⟨by decide, fun r w dd => rfl⟩
theorem ai_mtickets : AI 323 12 := ⟨by decide, fun r w dd => rfl⟩
theorem ai_written : AI 324 120 := ⟨by decide, fun r w dd => rfl⟩
theorem ab_tbytes : AB 314 600 := ⟨by decide, fun r w dd => rfl⟩
theorem ab_nbytes : AB 316 128 := ⟨by decide, fun r w dd => rfl⟩
theorem al_out : AL 325 1 := ⟨by decide, fun r w dd => rfl⟩
section AM1
variable {I : a_I} {pc uc us : Nat} {ls st : List Value} {Q : a_Q} {M : Nat → Nat → Int32} {L : Nat → Nat → Int64} {dd : UInt64}
theorem m_get {ix c : Nat} (ci k : Nat) {vs : (Nat → Int32) → List Value} {v : Value} (hd : decode (i_cc I) pc = .ok (.getfield ix, 3)) (hf : a_FL (i_own I) ix ci k) (ho : OB c ci vs) (hv : (vs (M c))[k]? = some v) (kk : AW I (pc + 3) ls (v :: st) (hS M L dd) uc us Q) : AW I pc ls (.ref c :: st) (hS M L dd) uc us Q :=
  r_get ci k hd hf ((hp_at ho.1).trans (by rw [ho.2])) hv kk
theorem m_put {ix c : Nat} (ci k : Nat) {vs : (Nat → Int32) → List Value} {x : Int32} (hd : decode (i_cc I) pc = .ok (.putfield ix, 3)) (hf : a_FL (i_own I) ix ci k) (hfin : ∀ r, a_cls[ci]? = some r → (r.2.1 k).2.2 = ("I", false)) (ho : OB c ci vs) (hl : k < (vs (M c)).length) (hs : (vs (M c)).set k (.int x) = vs (upd (M c) k x))
    (kk : AW I (pc + 3) ls st (hS (mU M c (upd (M c) k x)) L dd) uc us Q) : AW I pc ls (.int x :: .ref c :: st) (hS M L dd) uc us Q := by
  refine r_put ci k hd hf hfin ((hp_at ho.1).trans (by rw [ho.2])) hl ?_
  show AW I (pc + 3) ls st (false, (hp M L dd).set c _) uc us Q
  rw [hp_setM (upd (M c) k x) _ (by rw [ho.2, hs])]
  exact kk
theorem m_iald {c n : Nat} {i : Int32} (k : Nat) (hd : decode (i_cc I) pc = .ok (.iaload, 1)) (ha : AI c n) (hi : i = nI k) (hk : k < n) (hn : n < 2 ^ 31) (kk : AW I (pc + 1) ls (.int (M c k) :: st) (hS M L dd) uc us Q) : AW I pc ls (.int i :: .ref c :: st) (hS M L dd) uc us Q := by
  subst hi
  refine r_iald hd ((hp_at ha.1).trans (by rw [ha.2])) (vp_in_nI hk hn) ?_
  rw [nI_clamp (by omega)]
  exact kk
theorem m_iast {c n : Nat} {i x : Int32} (k : Nat) (hd : decode (i_cc I) pc = .ok (.iastore, 1)) (ha : AI c n) (hi : i = nI k) (hk : k < n) (hn : n < 2 ^ 31) (kk : AW I (pc + 1) ls st (hS (mU M c (upd (M c) k x)) L dd) uc us Q) : AW I pc ls (.int x :: .int i :: .ref c :: st) (hS M L dd) uc us Q := by
  subst hi
  refine r_iast hd ((hp_at ha.1).trans (by rw [ha.2])) (vp_in_nI hk hn) ?_
  rw [nI_clamp (by omega)]
  show AW I (pc + 1) ls st (false, (hp M L dd).set c _) uc us Q
  rw [hp_setM (upd (M c) k x) _ (by rw [ha.2])]
  exact kk
theorem m_bald {c n : Nat} {i : Int32} (k : Nat) (hd : decode (i_cc I) pc = .ok (.baload, 1)) (ha : AB c n) (hi : i = nI k) (hk : k < n) (hn : n < 2 ^ 31) (kk : AW I (pc + 1) ls (.int (M c k) :: st) (hS M L dd) uc us Q) : AW I pc ls (.int i :: .ref c :: st) (hS M L dd) uc us Q := by
  subst hi
  refine r_bald hd ((hp_at ha.1).trans (by rw [ha.2])) (vp_in_nI hk hn) ?_
  rw [nI_clamp (by omega)]
  exact kk
theorem m_bast {c n : Nat} {i x : Int32} (k : Nat) (hd : decode (i_cc I) pc = .ok (.bastore, 1)) (ha : AB c n) (hi : i = nI k) (hk : k < n) (hn : n < 2 ^ 31) (kk : AW I (pc + 1) ls st (hS (mU M c (upd (M c) k x.toInt8.toInt32)) L dd) uc us Q) : AW I pc ls (.int x :: .int i :: .ref c :: st) (hS M L dd) uc us Q := by
  subst hi
  refine r_bast hd ((hp_at ha.1).trans (by rw [ha.2])) (vp_in_nI hk hn) ?_
  rw [nI_clamp (by omega)]
  show AW I (pc + 1) ls st (false, (hp M L dd).set c _) uc us Q
  rw [hp_setM (upd (M c) k x.toInt8.toInt32) _ (by rw [ha.2, vp_nar_byte])]
  exact kk
theorem m_lald {c n : Nat} {i : Int32} (k : Nat) (hd : decode (i_cc I) pc = .ok (.laload, 1)) (ha : AL c n) (hi : i = nI k) (hk : k < n) (hn : n < 2 ^ 31) (kk : AW I (pc + 1) ls (.long (L c k) :: st) (hS M L dd) uc us Q) : AW I pc ls (.int i :: .ref c :: st) (hS M L dd) uc us Q := by
  subst hi
  refine r_lald hd ((hp_at ha.1).trans (by rw [ha.2])) (vp_in_nI hk hn) ?_
  rw [nI_clamp (by omega)]
  exact kk
theorem m_last {c n : Nat} {i : Int32} {x : Int64} (k : Nat) (hd : decode (i_cc I) pc = .ok (.lastore, 1)) (ha : AL c n) (hi : i = nI k) (hk : k < n) (hn : n < 2 ^ 31) (kk : AW I (pc + 1) ls st (hS M (mL L c (vp_updL (L c) k x)) dd) uc us Q) : AW I pc ls (.long x :: .int i :: .ref c :: st) (hS M L dd) uc us Q := by
  subst hi
  refine r_last hd ((hp_at ha.1).trans (by rw [ha.2])) (vp_in_nI hk hn) ?_
  rw [nI_clamp (by omega)]
  show AW I (pc + 1) ls st (false, (hp M L dd).set c _) uc us Q
  rw [hp_setL (vp_updL (L c) k x) _ (by rw [ha.2])]
  exact kk
/-- System.arraycopy of whole rows: n ints from the start -/
theorem m_copy {ix a0 a n0 n1 : Nat} {n : Int32} (N : Nat) (hd : decode (i_cc I) pc = .ok (.invokestatic ix, 3)) (hw : a_AC (i_own I) ix) (h0 : AI a0 n0) (h1 : AI a n1) (hn : n = nI N) (g4 : N ≤ n0) (g5 : N ≤ n1) (gn : N < 2 ^ 31) (hdp : 1 ≤ i_d I) (hst : (st.map fun v => v.category).sum ≤ 8)
    (kk : AW I (pc + 3) ls st (hS (mU M a (fun k => if k < N then M a0 k else M a k)) L dd) uc us Q) : AW I pc ls (.int n :: .int 0 :: .ref a :: .int 0 :: .ref a0 :: st) (hS M L dd) uc us Q := by
  subst hn
  refine r_copyi hd hw ((hp_at h0.1).trans (by rw [h0.2])) ((hp_at h1.1).trans (by rw [h1.2])) (by decide) (by decide) (nI_pos gn) ?_ ?_ hdp hst ?_
  · rw [nI_clamp gn]; show 0 + N ≤ n0; omega
  · rw [nI_clamp gn]; show 0 + N ≤ n1; omega
  · show AW I (pc + 3) ls st (false, (hp M L dd).set a _) uc us Q
    rw [nI_clamp gn, hp_setM (fun k => if k < N then M a0 k else M a k) _ ?_]
    · exact kk
    · rw [h1.2]
      have e : (fun k => if k < N then M a0 k else M a k) = va_cpy (M a0) (M a) 0 0 N := by
        funext k
        unfold va_cpy
        simp
      rw [e]
      rfl
/-- a call of a method that answers at once, makes nothing and throws nothing: (dynamic) -/
theorem m_cv {ix c ci n : Nat} {y : MethodName} {I' : a_I} {As : List Value} {vs : (Nat → Int32) → List Value} {v : Option Value} {h' : a_H} (hd : decode (i_cc I) pc = .ok (.invokevirtual ix, 3)) (hc : a_CV (i_own I) ix y I' n) (hM : AD y I' (.ref c :: As) (hS M L dd) (.inl v) h') (hh : h'.1 = false) (hn : As.length = n) (ho : OB c ci vs) (hci : ∃ r, a_cls[ci]? = some r ∧ r.1 = y.cls)
    (hz : i_mc I' = 0 ∧ i_ms I' = 0) (hd1 : i_d I' + 1 ≤ i_d I) (hnl : i_nL I' ≤ 40) (hst : (st.map fun v => v.category).sum ≤ 8) (kk : AW I (pc + 3) ls (v.toList ++ st) h' uc us Q) : AW I pc ls (As.reverse ++ .ref c :: st) (hS M L dd) uc us Q := by
  intro V p l e R s m args below meth c9 H locs Gl ws tys lsC hC hR hN hH hS hu hv2 hL
  refine r_callV (Q' := fun o h2 => o = .inl v ∧ h2 = h') hd hc (hM _ ⟨rfl, rfl⟩) hn ((hp_at ho.1).trans (by rw [ho.2])) hci ⟨hd1, hnl, hst, by rw [hz.1]; exact hu, by rw [hz.2]; exact hv2⟩ ⟨?_, ?_⟩ V p l e R s m args below meth c9 H locs Gl ws tys lsC hC hR hN hH hS hu hv2 hL
  · rintro v2 h2 ⟨h3, rfl⟩
    cases h3
    refine ⟨fun z => absurd (hh.symm.trans z) (by decide), ?_⟩
    rw [hz.1, hz.2]
    exact kk
  · rintro E h2 ⟨h3, -⟩
    cases h3
theorem m_cs {ix n : Nat} {y : MethodName} {I' : a_I} {As : List Value} {v : Option Value} {h' : a_H} (hd : decode (i_cc I) pc = .ok (.invokestatic ix, 3)) (hc : a_CS (i_own I) ix y I' n) (hM : AD y I' As (hS M L dd) (.inl v) h') (hh : h'.1 = false) (hn : As.length = n)
    (hz : i_mc I' = 0 ∧ i_ms I' = 0) (hd1 : i_d I' + 1 ≤ i_d I) (hnl : i_nL I' ≤ 40) (hst : (st.map fun v => v.category).sum ≤ 8) (kk : AW I (pc + 3) ls (v.toList ++ st) h' uc us Q) : AW I pc ls (As.reverse ++ st) (hS M L dd) uc us Q := by
  intro V p l e R s m args below meth c9 H locs Gl ws tys lsC hC hR hN hH hS hu hv2 hL
  refine r_callS (Q' := fun o h2 => o = .inl v ∧ h2 = h') hd hc (hM _ ⟨rfl, rfl⟩) hn ⟨hd1, hnl, hst, by rw [hz.1]; exact hu, by rw [hz.2]; exact hv2⟩ ⟨?_, ?_⟩ V p l e R s m args below meth c9 H locs Gl ws tys lsC hC hR hN hH hS hu hv2 hL
  · rintro v2 h2 ⟨h3, rfl⟩
    cases h3
    refine ⟨fun z => absurd (hh.symm.trans z) (by decide), ?_⟩
    rw [hz.1, hz.2]
    exact kk
  · rintro E h2 ⟨h3, -⟩
    cases h3
theorem m_eq {ls' : List Value} {M' : Nat → Nat → Int32} {L' : Nat → Nat → Int64} (k : AW I pc ls st (hS M L dd) uc us Q) (h1 : ls = ls') (h2 : M = M') (h3 : L = L') : AW I pc ls' st (hS M' L' dd) uc us Q := by
  subst h1; subst h2; subst h3; exact k
end AM1
theorem lp_up {N : Nat} (F : Nat → Prop) (hx : F N) (hs : ∀ k, k < N → F (k + 1) → F k) : ∀ k, k ≤ N → F k := by
  intro k hk
  obtain ⟨d, rfl⟩ : ∃ d, N = k + d := ⟨N - k, by omega⟩
  induction d generalizing k with
  | zero => exact hx
  | succ d ih => exact hs k (by omega) (ih (k + 1) (by rw [show k + 1 + d = k + (d + 1) by omega]; exact hx) (by rw [show k + 1 + d = k + (d + 1) by omega]; exact hs) (by omega))
