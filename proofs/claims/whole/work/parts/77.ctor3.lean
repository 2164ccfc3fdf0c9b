/-! THE TREE'S CONSTRUCTOR -/
theorem i_X8c {pre : List a_E} {n : Nat} {Q : a_Q} (hn : pre.length = n) (hq : Q (.inl none) (true, pre ++ [.inr (8, [.int (1), .ref (n + 1), .ref (n + 2), .ref (n + 3), .ref (n + 4)]), .inl (0, 12, .inl (upd (fun _ => 0) (Int32.toNatClampNeg 0) (-1))), .inl (0, 12, .inl (upd (fun _ => 0) (Int32.toNatClampNeg 0) (0))), .inl (0, 12, .inl (upd (fun _ => 0) (Int32.toNatClampNeg 0) (0))), .inl (0, 12, .inl (upd (fun _ => 0) (Int32.toNatClampNeg 0) (1000000)))])) : AM yX8_clear I_X8_clear [.ref (n + 0)] (true, pre ++ [.inr (8, [.int (0), .ref (n + 1), .ref (n + 2), .ref (n + 3), .ref (n + 4)]), .inl (0, 12, .inl (fun _ => 0)), .inl (0, 12, .inl (fun _ => 0)), .inl (0, 12, .inl (fun _ => 0)), .inl (0, 12, .inl (fun _ => 0))]) Q := by
  subst hn
  refine a_met (by decide +kernel) rfl rfl (Nat.le_of_ble_eq_true rfl) (by simp [Value.category]) (by decide) rfl ?_
  show AW I_X8_clear 0 [.ref (pre.length + 0)] [] (true, pre ++ [.inr (8, [.int (0), .ref (pre.length + 1), .ref (pre.length + 2), .ref (pre.length + 3), .ref (pre.length + 4)]), .inl (0, 12, .inl (fun _ => 0)), .inl (0, 12, .inl (fun _ => 0)), .inl (0, 12, .inl (fun _ => 0)), .inl (0, 12, .inl (fun _ => 0))]) 0 0 Q
  refine r_aload_n dX8_clear_0 rfl ?_
  refine r_iconst_1 dX8_clear_1 ?_
  refine x_put 8 0 dX8_clear_2 fl_X8_27 (fun r hr => by cases hr; rfl) (i := 0) rfl (Nat.le_of_ble_eq_true rfl) ?_
  refine r_aload_n dX8_clear_5 rfl ?_
  refine x_get 8 1 dX8_clear_6 fl_X8_9 (i := 0) rfl rfl ?_
  refine r_iconst_0 dX8_clear_9 ?_
  refine r_iconst_m1 dX8_clear_10 ?_
  refine x_iast dX8_clear_11 (i := 1) rfl (vp_in_nI (n := 0) (N := 12) (by decide) (by decide)) ?_
  refine r_aload_n dX8_clear_12 rfl ?_
  refine x_get 8 2 dX8_clear_13 fl_X8_15 (i := 0) rfl rfl ?_
  refine r_iconst_0 dX8_clear_16 ?_
  refine r_iconst_0 dX8_clear_17 ?_
  refine x_iast dX8_clear_18 (i := 2) rfl (vp_in_nI (n := 0) (N := 12) (by decide) (by decide)) ?_
  refine r_aload_n dX8_clear_19 rfl ?_
  refine x_get 8 3 dX8_clear_20 fl_X8_18 (i := 0) rfl rfl ?_
  refine r_iconst_0 dX8_clear_23 ?_
  refine r_iconst_0 dX8_clear_24 ?_
  refine x_iast dX8_clear_25 (i := 3) rfl (vp_in_nI (n := 0) (N := 12) (by decide) (by decide)) ?_
  refine r_aload_n dX8_clear_26 rfl ?_
  refine x_get 8 4 dX8_clear_27 fl_X8_21 (i := 0) rfl rfl ?_
  refine r_iconst_0 dX8_clear_30 ?_
  refine r_ldc 1000000 dX8_clear_31 k_49 ?_
  refine x_iast dX8_clear_33 (i := 4) rfl (vp_in_nI (n := 0) (N := 12) (by decide) (by decide)) ?_
  exact r_vret dX8_clear_34 rfl hq
theorem i_X8 {pre : List a_E} {n : Nat} {Q : a_Q} (hn : pre.length = n) (hp : n ≤ 400) (hq : Q (.inl none) (true, pre ++ [.inr (8, [.int (1), .ref (n + 1), .ref (n + 2), .ref (n + 3), .ref (n + 4)]), .inl (0, 12, .inl (upd (fun _ => 0) (Int32.toNatClampNeg 0) (-1))), .inl (0, 12, .inl (upd (fun _ => 0) (Int32.toNatClampNeg 0) (0))), .inl (0, 12, .inl (upd (fun _ => 0) (Int32.toNatClampNeg 0) (0))), .inl (0, 12, .inl (upd (fun _ => 0) (Int32.toNatClampNeg 0) (1000000)))])) : AM yX8_init I_X8_init [.ref n] (true, pre ++ [.inr (8, [.int 0, .null, .null, .null, .null])]) Q := by
  subst hn
  refine a_met (by decide +kernel) rfl rfl (Nat.le_of_ble_eq_true rfl) (by simp [Value.category]) (fun _ => rfl) rfl ?_
  show AW I_X8_init 0 [.ref (pre.length + 0)] [] (true, pre ++ [.inr (8, [.int 0, .null, .null, .null, .null])]) 0 0 Q
  refine r_aload_n dX8_init_0 rfl ?_
  refine r_objI dX8_init_1 k_44 k_31 k_32 (Nat.le_of_ble_eq_true rfl) (Nat.le_of_ble_eq_true rfl) ?_
  refine r_aload_n dX8_init_4 rfl ?_
  refine r_bipush 12 dX8_init_5 (by decide) ?_
  refine x_newi 12 1 dX8_init_7 k_76 (by decide) (by decide) (by decide) rfl hp (by decide) (Nat.le_of_ble_eq_true rfl) (Nat.le_of_ble_eq_true rfl) ?_
  refine x_putF 8 1 dX8_init_9 fl_X8_9 rfl (fun r hr => by cases hr; exact ⟨rfl, rfl⟩) (fun a => ⟨rfl, rfl⟩) (i := 0) rfl (Nat.le_of_ble_eq_true rfl) ?_
  refine r_aload_n dX8_init_12 rfl ?_
  refine r_bipush 12 dX8_init_13 (by decide) ?_
  refine x_newi 12 2 dX8_init_15 k_76 (by decide) (by decide) (by decide) rfl hp (by decide) (Nat.le_of_ble_eq_true rfl) (Nat.le_of_ble_eq_true rfl) ?_
  refine x_putF 8 2 dX8_init_17 fl_X8_15 rfl (fun r hr => by cases hr; exact ⟨rfl, rfl⟩) (fun a => ⟨rfl, rfl⟩) (i := 0) rfl (Nat.le_of_ble_eq_true rfl) ?_
  refine r_aload_n dX8_init_20 rfl ?_
  refine r_bipush 12 dX8_init_21 (by decide) ?_
  refine x_newi 12 3 dX8_init_23 k_76 (by decide) (by decide) (by decide) rfl hp (by decide) (Nat.le_of_ble_eq_true rfl) (Nat.le_of_ble_eq_true rfl) ?_
  refine x_putF 8 3 dX8_init_25 fl_X8_18 rfl (fun r hr => by cases hr; exact ⟨rfl, rfl⟩) (fun a => ⟨rfl, rfl⟩) (i := 0) rfl (Nat.le_of_ble_eq_true rfl) ?_
  refine r_aload_n dX8_init_28 rfl ?_
  refine r_bipush 12 dX8_init_29 (by decide) ?_
  refine x_newi 12 4 dX8_init_31 k_76 (by decide) (by decide) (by decide) rfl hp (by decide) (Nat.le_of_ble_eq_true rfl) (Nat.le_of_ble_eq_true rfl) ?_
  refine x_putF 8 4 dX8_init_33 fl_X8_21 rfl (fun r hr => by cases hr; exact ⟨rfl, rfl⟩) (fun a => ⟨rfl, rfl⟩) (i := 0) rfl (Nat.le_of_ble_eq_true rfl) ?_
  refine r_aload_n dX8_init_36 rfl ?_
  refine x_cv dX8_init_37 cv_X8_24 (l' := [.inr (8, [.int (1), .ref (pre.length + 1), .ref (pre.length + 2), .ref (pre.length + 3), .ref (pre.length + 4)]), .inl (0, 12, .inl (upd (fun _ => 0) (Int32.toNatClampNeg 0) (-1))), .inl (0, 12, .inl (upd (fun _ => 0) (Int32.toNatClampNeg 0) (0))), .inl (0, 12, .inl (upd (fun _ => 0) (Int32.toNatClampNeg 0) (0))), .inl (0, 12, .inl (upd (fun _ => 0) (Int32.toNatClampNeg 0) (1000000)))]) (fun Q2 hq2 => i_X8c rfl hq2) rfl ⟨_, rfl, rfl⟩ ⟨rfl, rfl⟩ rfl hp (Nat.le_of_ble_eq_true rfl) (Nat.le_of_ble_eq_true rfl) (Nat.le_of_ble_eq_true rfl) (Nat.le_of_ble_eq_true rfl) (Nat.le_of_ble_eq_true rfl) (Nat.le_of_ble_eq_true rfl) ?_
  exact r_vret dX8_init_40 rfl hq
