/-! THE HISTORY -/
def kf_H (n i : Nat) : Nat → Option Nat := fun j => if j < i then some (n + 31 * j) else none
def kb_R (n : Nat) : Nat → List a_E
  | 0 => []
  | i + 1 => kb_R n i ++ kb_P (n + 31 * i)
theorem kb_Pl (n : Nat) : (kb_P n).length = 31 := rfl
theorem kb_Rl (n i : Nat) : (kb_R n i).length = 31 * i := by
  induction i with
  | zero => rfl
  | succ i ih =>
    show (kb_R n i ++ kb_P (n + 31 * i)).length = _
    rw [List.length_append, ih, kb_Pl]; omega
def kb_H (n : Nat) : List a_E := .inr (0, [.int 0, .int 0, .ref (n + 1)]) :: .inl (4, 8, .inr (.inr (.inr (.inr (kf_H (n + 2) 8))))) :: kb_R (n + 2) 8
theorem kf_up {n i : Nat} (hi : i < 2 ^ 31) : va_up (kf_H n i) (nI i).toNatClampNeg (some (n + 31 * i)) = kf_H n (i + 1) := by
  rw [nI_clamp hi]
  funext j
  unfold va_up kf_H
  by_cases h1 : j = i
  · subst h1; rw [if_pos rfl, if_pos (Nat.lt_succ_self j)]
  · rw [if_neg h1]
    by_cases h2 : j < i
    · rw [if_pos h2, if_pos (by omega)]
    · rw [if_neg h2, if_neg (by omega)]
theorem i_X0l {pre : List a_E} {Q : a_Q} (hp : pre.length + 1 + 249 ≤ 400) (hq : Q (.inl none) (true, pre ++ kb_H pre.length)) : ∀ d i, i + d = 8 → AW I_X0_init 15 [.ref pre.length, .int (nI i)] [] (true, pre ++ (.inr (0, [.int 0, .int 0, .ref (pre.length + 1)]) :: .inl (4, 8, .inr (.inr (.inr (.inr (kf_H (pre.length + 2) i))))) :: kb_R (pre.length + 2) i)) (1 + 31 * i) (8 + 416 * i) Q := by
  intro d
  induction d with
  | zero =>
    intro i hi
    obtain rfl : i = 8 := by omega
    refine r_iload_n dX0_init_15 rfl ?_
    refine r_bipush 8 dX0_init_16 (by decide) ?_
    refine r_icmp_ge 40 dX0_init_18 (by decide) (fun _ => ?_) (fun z => absurd (by decide) z)
    exact r_vret dX0_init_40 rfl hq
  | succ d ih =>
    intro i hi
    have hi8 : i < 8 := by omega
    refine r_iload_n dX0_init_15 rfl ?_
    refine r_bipush 8 dX0_init_16 (by decide) ?_
    refine r_icmp_ge 40 dX0_init_18 (by decide) (fun z => absurd z (by rw [show (8 : Int32) = nI 8 from rfl]; exact nI_ge hi8 (by decide))) (fun _ => ?_)
    refine r_aload_n dX0_init_21 rfl ?_
    refine x_get 0 2 dX0_init_22 fl_X0_11 (i := 0) rfl rfl ?_
    refine r_iload_n dX0_init_25 rfl ?_
    refine x_mk (ci := 5) (2 + 31 * i) dX0_init_26 dX0_init_29 dX0_init_30 rfl k_288 k_34 k_2 uws_5 (fun j hj => by have hj : j < 9 := hj; rcases (show j = 0 ∨ j = 1 ∨ j = 2 ∨ j = 3 ∨ j = 4 ∨ j = 5 ∨ j = 6 ∨ j = 7 ∨ j = 8 by omega) with rfl | rfl | rfl | rfl | rfl | rfl | rfl | rfl | rfl <;> rfl) (fun _ => rfl) ci_X0_17 ib_5 (fun _ => rfl) (by rw [List.length_cons, List.length_cons, kb_Rl]; omega) (show pre.length ≤ 400 ∧ pre.length + (2 + 31 * i) + 1 + 30 ≤ 400 by omega) (Nat.le_of_ble_eq_true rfl) (Nat.le_of_ble_eq_true rfl) (Nat.le_of_ble_eq_true rfl) (show 1 + 31 * i + 1 + 30 ≤ 249 by omega) (show 8 + 416 * i + 9 + 407 ≤ 3336 by omega) ?_
    have hb : (pre ++ ((.inr (0, [.int 0, .int 0, .ref (pre.length + 1)]) :: .inl (4, 8, .inr (.inr (.inr (.inr (kf_H (pre.length + 2) i))))) :: kb_R (pre.length + 2) i) ++ kb_P (pre.length + (2 + 31 * i))))[pre.length + (2 + 31 * i)]? = some (.inr (5, [.ref (pre.length + (2 + 31 * i) + 1), .ref (pre.length + (2 + 31 * i) + 6), .ref (pre.length + (2 + 31 * i) + 12), .ref (pre.length + (2 + 31 * i) + 15), .ref (pre.length + (2 + 31 * i) + 23), .ref (pre.length + (2 + 31 * i) + 30), .int 0, .int 0, .int 0])) := by
      rw [p_at, List.getElem?_append_right (by rw [List.length_cons, List.length_cons, kb_Rl]; omega), List.length_cons, List.length_cons, kb_Rl, show 2 + 31 * i - (31 * i + 1 + 1) = 0 by omega]
      rfl
    refine r_aast dX0_init_33 (p_at (i := 1)) (vp_in_nI hi8 (by decide)) hb rfl rfl ?_
    show AW I_X0_init 34 _ _ (true, (pre ++ ((.inr (0, [.int 0, .int 0, .ref (pre.length + 1)]) :: .inl (4, 8, .inr (.inr (.inr (.inr (kf_H (pre.length + 2) i))))) :: kb_R (pre.length + 2) i) ++ kb_P (pre.length + (2 + 31 * i)))).set (pre.length + 1) _) _ _ Q
    rw [p_set, show pre.length + (2 + 31 * i) = pre.length + 2 + 31 * i by omega, kf_up (by omega)]
    refine s_iinc dX0_init_34 rfl (by decide) rfl ?_
    refine r_goto 15 dX0_init_37 (by decide) ?_
    have g := ih (i + 1) (by omega)
    rw [show 1 + 31 * (i + 1) = 1 + 31 * i + 1 + 30 by omega, show 8 + 416 * (i + 1) = 8 + 416 * i + 9 + 407 by omega, ← nI_1] at g
    exact g
theorem ib_0 : IB yX0_init I_X0_init 0 [.int 0, .int 0, .null] kb_H := by
  intro pre n Q hn hp2 hq
  subst hn
  have hp3 : pre.length + 1 + 249 ≤ 400 := hp2
  have hp : pre.length ≤ 400 := by omega
  refine a_met (by decide +kernel) rfl rfl (Nat.le_of_ble_eq_true rfl) (by simp [Value.category]) (fun _ => rfl) rfl ?_
  show AW I_X0_init 0 [.ref pre.length, .null] [] (true, pre ++ [.inr (0, [.int 0, .int 0, .null])]) 0 0 Q
  refine r_aload_n dX0_init_0 rfl ?_
  refine r_objI dX0_init_1 k_287 k_31 k_32 (Nat.le_of_ble_eq_true rfl) (Nat.le_of_ble_eq_true rfl) ?_
  refine r_aload_n dX0_init_4 rfl ?_
  refine r_bipush 8 dX0_init_5 (by decide) ?_
  refine x_anew 8 1 dX0_init_7 k_288 g_289 (by decide) (by decide) (by decide) rfl hp (by decide) (Nat.le_of_ble_eq_true rfl) (Nat.le_of_ble_eq_true rfl) ?_
  refine x_putF0 0 2 dX0_init_10 fl_X0_11 rfl (fun r hr => by cases hr; exact ⟨rfl, rfl⟩) (fun a => ⟨rfl, rfl⟩) rfl (Nat.le_of_ble_eq_true rfl) rfl ?_
  refine r_iconst_0 dX0_init_13 ?_
  refine s_istore_n 1 dX0_init_14 (by decide) rfl rfl ?_
  have g := i_X0l hp3 hq 8 0 rfl
  exact g
