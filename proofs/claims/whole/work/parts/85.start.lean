/-! THE LAW'S START -/
theorem kb_9l (n : Nat) : (kb_9 n).length = 317 := by
  show ((((((([] : List a_E) ++ kb_P (n + 1)) ++ kb_P (n + 32)) ++ kb_H (n + 63)) ++ kb_X (n + 313)) ++ kb_N (n + 315))).length + 1 = 317
  rw [List.length_append]
  have e := kl_4 (n + 1) (n + 32) (n + 63) (n + 313)
  have e2 : (kb_N (n + 315)).length = 2 := rfl
  omega
set_option maxRecDepth 100000 in
theorem law_start {LL : Nat} {xs : Nat → Int32} {Q : a_Q} (hLL : LL ≤ 65536) (hq : ∀ M' L' dd', Q (.inl (some (.int 1))) (hS M' L' dd')) : AW (I_L_law LL xs) 0 [.ref 5000, .null, .null, .null, .null, .null, .null, .null, .null] [] (true, []) 0 0 Q := by
  show AW (I_L_law LL xs) 0 _ [] (true, ([] : List a_E) ++ []) 0 0 Q
  refine x_mk (ci := 9) 0 dL_law_0 dL_law_3 dL_law_4 rfl k_25 k_26 k_1 uws_9 (fun j hj => by have hj : j < 5 := hj; rcases (show j = 0 ∨ j = 1 ∨ j = 2 ∨ j = 3 ∨ j = 4 by omega) with rfl | rfl | rfl | rfl | rfl <;> rfl) (fun _ => rfl) ci_L_97 ib_9 (fun n => kb_9l n) rfl (show 0 ≤ 400 ∧ 0 + 0 + 1 + 316 ≤ 400 by omega) (Nat.le_of_ble_eq_true rfl) (Nat.le_of_ble_eq_true rfl) (Nat.le_of_ble_eq_true rfl) (Nat.le_of_ble_eq_true rfl) (Nat.le_of_ble_eq_true rfl) ?_
  refine s_astore_n 1 dL_law_7 (Nat.le_of_ble_eq_true rfl) rfl rfl ?_
  show AW (I_L_law LL xs) 8 [.ref 5000, .ref 0, .null, .null, .null, .null, .null, .null, .null] [] (true, ([] : List a_E) ++ kb_9 0) 317 4913 Q
  refine x_mk (ci := 10) 317 dL_law_8 dL_law_11 dL_law_12 rfl k_1177 k_1178 k_12 uws_10 (fun j hj => by have hj : j < 20 := hj; rcases (show j = 0 ∨ j = 1 ∨ j = 2 ∨ j = 3 ∨ j = 4 ∨ j = 5 ∨ j = 6 ∨ j = 7 ∨ j = 8 ∨ j = 9 ∨ j = 10 ∨ j = 11 ∨ j = 12 ∨ j = 13 ∨ j = 14 ∨ j = 15 ∨ j = 16 ∨ j = 17 ∨ j = 18 ∨ j = 19 by omega) with rfl | rfl | rfl | rfl | rfl | rfl | rfl | rfl | rfl | rfl | rfl | rfl | rfl | rfl | rfl | rfl | rfl | rfl | rfl | rfl <;> rfl) (fun _ => rfl) ci_L_100 ib_10 (fun _ => rfl) (kb_9l 0) (show 0 ≤ 400 ∧ 0 + 317 + 1 + 7 ≤ 400 by omega) (Nat.le_of_ble_eq_true rfl) (Nat.le_of_ble_eq_true rfl) (Nat.le_of_ble_eq_true rfl) (Nat.le_of_ble_eq_true rfl) (Nat.le_of_ble_eq_true rfl) ?_
  refine s_astore_n 2 dL_law_15 (Nat.le_of_ble_eq_true rfl) rfl rfl ?_
  show AW (I_L_law LL xs) 16 [.ref 5000, .ref 0, .ref 317, .null, .null, .null, .null, .null, .null] [] (true, ([] : List a_E) ++ (kb_9 0 ++ kb_W 317)) 325 9053 Q
  have l1 : (kb_9 0 ++ kb_W 317).length = 325 := by rw [List.length_append, kb_9l]; rfl
  refine r_iconst_1 dL_law_16 ?_
  refine x_newl 1 325 dL_law_17 k_211 (by decide) (by decide) (Nat.le_of_ble_eq_true rfl) l1 (Nat.le_of_ble_eq_true rfl) (Nat.le_of_ble_eq_true rfl) (Nat.le_of_ble_eq_true rfl) (Nat.le_of_ble_eq_true rfl) ?_
  refine s_astore_n 3 dL_law_19 (Nat.le_of_ble_eq_true rfl) rfl rfl ?_
  refine r_iconst_1 dL_law_20 ?_
  refine x_newd 1 326 dL_law_21 k_1607 (by decide) (by decide) (Nat.le_of_ble_eq_true rfl) (by rw [List.length_append, l1]; rfl) (Nat.le_of_ble_eq_true rfl) (Nat.le_of_ble_eq_true rfl) (Nat.le_of_ble_eq_true rfl) (Nat.le_of_ble_eq_true rfl) ?_
  refine s_astore dL_law_23 (Nat.le_of_ble_eq_true rfl) rfl ?_
  refine r_iconst_0 dL_law_25 ?_
  refine s_istore dL_law_26 (Nat.le_of_ble_eq_true rfl) rfl ?_
  show AW (I_L_law LL xs) 28 [.ref 5000, .ref 0, .ref 317, .ref 325, .ref 326, .int (nI (6 * 0)), .null, .null, .null] [] (true, ((kb_9 0 ++ kb_W 317) ++ [.inl (2, 1, .inr (.inl (fun _ => 0)))]) ++ [.inl (3, 1, .inr (.inr (.inr (.inl (fun _ => 0)))))]) 327 9055 Q
  rw [← mv_all]
  refine r_dirty ?_
  exact law_loop (C0 := 327) (S0 := 9055) hLL (Nat.le_of_ble_eq_true rfl) (Nat.le_of_ble_eq_true rfl) hq LL 0 mv_M mv_L 0 [] (by omega) (by omega) mv_J
