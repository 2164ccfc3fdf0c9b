/-! THE CLASS'S OBJECT -/
def kb_9 (n : Nat) : List a_E := .inr (9, [.ref (n + 1), .ref (n + 32), .ref (n + 63), .ref (n + 313), .ref (n + 315)]) :: (((((([] : List a_E) ++ kb_P (n + 1)) ++ kb_P (n + 32)) ++ kb_H (n + 63)) ++ kb_X (n + 313)) ++ kb_N (n + 315))
theorem kb_Hl (n : Nat) : (kb_H n).length = 250 := by
  show (kb_R (n + 2) 8).length + 1 + 1 = 250
  rw [kb_Rl]
theorem kb_Xl (n : Nat) : (kb_X n).length = 2 := rfl
theorem kl_3 (x y z : Nat) : (((([] : List a_E) ++ kb_P x) ++ kb_P y) ++ kb_H z).length + 1 = 313 := by
  rw [List.length_append, List.length_append, List.length_append, kb_Pl, kb_Pl, kb_Hl]
  rfl
theorem kl_4 (x y z w : Nat) : ((((([] : List a_E) ++ kb_P x) ++ kb_P y) ++ kb_H z) ++ kb_X w).length + 1 = 315 := by
  rw [List.length_append, List.length_append, List.length_append, List.length_append, kb_Pl, kb_Pl, kb_Hl, kb_Xl]
  rfl
theorem ib_9 : IB yX9_init I_X9_init 9 [.null, .null, .null, .null, .null] kb_9 := by
  intro pre n Q hn hp2 hq
  subst hn
  have hp3 : pre.length + 1 + 316 ≤ 400 := hp2
  refine a_met (by decide +kernel) rfl rfl (Nat.le_of_ble_eq_true rfl) (by simp [Value.category]) (fun _ => rfl) rfl ?_
  show AW I_X9_init 0 [.ref pre.length] [] (true, pre ++ [.inr (9, [.null, .null, .null, .null, .null])]) 0 0 Q
  refine r_aload_n dX9_init_0 rfl ?_
  refine r_objI dX9_init_1 k_30 k_31 k_32 (Nat.le_of_ble_eq_true rfl) (Nat.le_of_ble_eq_true rfl) ?_
  refine r_aload_n dX9_init_4 rfl ?_
  refine x_mk (ci := 5) 1 dX9_init_5 dX9_init_8 dX9_init_9 rfl k_33 k_34 k_2 uws_5 (fun j hj => by have hj : j < 9 := hj; rcases (show j = 0 ∨ j = 1 ∨ j = 2 ∨ j = 3 ∨ j = 4 ∨ j = 5 ∨ j = 6 ∨ j = 7 ∨ j = 8 by omega) with rfl | rfl | rfl | rfl | rfl | rfl | rfl | rfl | rfl <;> rfl) (fun _ => rfl) ci_X9_9 ib_5 (fun _ => rfl) rfl (show pre.length ≤ 400 ∧ pre.length + 1 + 1 + 30 ≤ 400 by omega) (Nat.le_of_ble_eq_true rfl) (Nat.le_of_ble_eq_true rfl) (Nat.le_of_ble_eq_true rfl) (Nat.le_of_ble_eq_true rfl) (Nat.le_of_ble_eq_true rfl) ?_
  refine x_putF0 9 0 dX9_init_12 fl_X9_10 rfl (fun r hr => by cases hr; exact ⟨rfl, rfl⟩) (fun a => ⟨rfl, rfl⟩) rfl (Nat.le_of_ble_eq_true rfl) rfl ?_
  refine r_aload_n dX9_init_15 rfl ?_
  refine x_mk (ci := 5) 32 dX9_init_16 dX9_init_19 dX9_init_20 rfl k_33 k_34 k_2 uws_5 (fun j hj => by have hj : j < 9 := hj; rcases (show j = 0 ∨ j = 1 ∨ j = 2 ∨ j = 3 ∨ j = 4 ∨ j = 5 ∨ j = 6 ∨ j = 7 ∨ j = 8 by omega) with rfl | rfl | rfl | rfl | rfl | rfl | rfl | rfl | rfl <;> rfl) (fun _ => rfl) ci_X9_9 ib_5 (fun _ => rfl) rfl (show pre.length ≤ 400 ∧ pre.length + 32 + 1 + 30 ≤ 400 by omega) (Nat.le_of_ble_eq_true rfl) (Nat.le_of_ble_eq_true rfl) (Nat.le_of_ble_eq_true rfl) (Nat.le_of_ble_eq_true rfl) (Nat.le_of_ble_eq_true rfl) ?_
  refine x_putF0 9 1 dX9_init_23 fl_X9_16 rfl (fun r hr => by cases hr; exact ⟨rfl, rfl⟩) (fun a => ⟨rfl, rfl⟩) rfl (Nat.le_of_ble_eq_true rfl) rfl ?_
  refine r_aload_n dX9_init_26 rfl ?_
  refine x_mk (ci := 0) 63 dX9_init_27 dX9_init_30 dX9_init_31 rfl k_282 k_283 k_9 uws_0 (fun j hj => by have hj : j < 3 := hj; rcases (show j = 0 ∨ j = 1 ∨ j = 2 by omega) with rfl | rfl | rfl <;> rfl) (fun _ => rfl) ci_X9_21 ib_0 (fun n => (kb_Hl n).trans rfl) rfl (show pre.length ≤ 400 ∧ pre.length + 63 + 1 + 249 ≤ 400 by omega) (Nat.le_of_ble_eq_true rfl) (Nat.le_of_ble_eq_true rfl) (Nat.le_of_ble_eq_true rfl) (Nat.le_of_ble_eq_true rfl) (Nat.le_of_ble_eq_true rfl) ?_
  refine x_putF0 9 2 dX9_init_34 fl_X9_22 rfl (fun r hr => by cases hr; exact ⟨rfl, rfl⟩) (fun a => ⟨rfl, rfl⟩) rfl (Nat.le_of_ble_eq_true rfl) rfl ?_
  refine r_aload_n dX9_init_37 rfl ?_
  refine x_mk (ci := 7) 313 dX9_init_38 dX9_init_41 dX9_init_42 rfl k_302 k_303 k_10 uws_7 (fun j hj => by have hj : j < 7 := hj; rcases (show j = 0 ∨ j = 1 ∨ j = 2 ∨ j = 3 ∨ j = 4 ∨ j = 5 ∨ j = 6 by omega) with rfl | rfl | rfl | rfl | rfl | rfl | rfl <;> rfl) (fun _ => rfl) ci_X9_28 ib_7 (fun _ => rfl) (kl_3 _ _ _) (show pre.length ≤ 400 ∧ pre.length + 313 + 1 + 1 ≤ 400 by omega) (Nat.le_of_ble_eq_true rfl) (Nat.le_of_ble_eq_true rfl) (Nat.le_of_ble_eq_true rfl) (Nat.le_of_ble_eq_true rfl) (Nat.le_of_ble_eq_true rfl) ?_
  refine x_putF0 9 3 dX9_init_45 fl_X9_29 rfl (fun r hr => by cases hr; exact ⟨rfl, rfl⟩) (fun a => ⟨rfl, rfl⟩) rfl (Nat.le_of_ble_eq_true rfl) rfl ?_
  refine r_aload_n dX9_init_48 rfl ?_
  refine x_mk (ci := 4) 315 dX9_init_49 dX9_init_52 dX9_init_53 rfl k_334 k_335 k_11 uws_4 (fun j hj => by have hj : j < 2 := hj; rcases (show j = 0 ∨ j = 1 by omega) with rfl | rfl <;> rfl) (fun _ => rfl) ci_X9_35 ib_4 (fun _ => rfl) (kl_4 _ _ _ _) (show pre.length ≤ 400 ∧ pre.length + 315 + 1 + 1 ≤ 400 by omega) (Nat.le_of_ble_eq_true rfl) (Nat.le_of_ble_eq_true rfl) (Nat.le_of_ble_eq_true rfl) (Nat.le_of_ble_eq_true rfl) (Nat.le_of_ble_eq_true rfl) ?_
  refine x_putF0 9 4 dX9_init_56 fl_X9_36 rfl (fun r hr => by cases hr; exact ⟨rfl, rfl⟩) (fun a => ⟨rfl, rfl⟩) rfl (Nat.le_of_ble_eq_true rfl) rfl ?_
  exact r_vret dX9_init_59 rfl hq
