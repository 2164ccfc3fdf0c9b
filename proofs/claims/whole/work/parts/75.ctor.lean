/-! CONSTRUCTORS -/
theorem i_X1 {pre : List a_E} {n : Nat} {Q : a_Q} (hn : pre.length = n) (hp : n ≤ 400) (hq : Q (.inl none) (true, pre ++ [.inr (1, [.int 0, .ref (n + 1), .ref (n + 2), .ref (n + 3), .ref (n + 4), .ref (n + 5), .ref (n + 6), .ref (n + 7)]), .inl (0, 30, .inl (fun _ => 0)), .inl (0, 30, .inl (fun _ => 0)), .inl (0, 30, .inl (fun _ => 0)), .inl (0, 30, .inl (fun _ => 0)), .inl (0, 30, .inl (fun _ => 0)), .inl (0, 30, .inl (fun _ => 0)), .inl (0, 30, .inl (fun _ => 0))])) : AM yX1_init I_X1_init [.ref n] (true, pre ++ [.inr (1, [.int 0, .null, .null, .null, .null, .null, .null, .null])]) Q := by
  subst hn
  refine a_met (by decide +kernel) rfl rfl (Nat.le_of_ble_eq_true rfl) (by simp [Value.category]) (fun _ => rfl) rfl ?_
  show AW I_X1_init 0 [.ref (pre.length + 0)] [] (true, pre ++ [.inr (1, [.int 0, .null, .null, .null, .null, .null, .null, .null])]) 0 0 Q
  refine r_aload_n dX1_init_0 rfl ?_
  refine r_objI dX1_init_1 k_135 k_31 k_32 (Nat.le_of_ble_eq_true rfl) (Nat.le_of_ble_eq_true rfl) ?_
  refine r_aload_n dX1_init_4 rfl ?_
  refine r_bipush 30 dX1_init_5 (by decide) ?_
  refine x_newi 30 1 dX1_init_7 k_76 (by decide) (by decide) (by decide) rfl hp (by decide) (Nat.le_of_ble_eq_true rfl) (Nat.le_of_ble_eq_true rfl) ?_
  refine x_putF 1 1 dX1_init_9 fl_X1_9 rfl (fun r hr => by cases hr; exact ⟨rfl, rfl⟩) (fun a => ⟨rfl, rfl⟩) (i := 0) rfl (Nat.le_of_ble_eq_true rfl) ?_
  refine r_aload_n dX1_init_12 rfl ?_
  refine r_bipush 30 dX1_init_13 (by decide) ?_
  refine x_newi 30 2 dX1_init_15 k_76 (by decide) (by decide) (by decide) rfl hp (by decide) (Nat.le_of_ble_eq_true rfl) (Nat.le_of_ble_eq_true rfl) ?_
  refine x_putF 1 2 dX1_init_17 fl_X1_15 rfl (fun r hr => by cases hr; exact ⟨rfl, rfl⟩) (fun a => ⟨rfl, rfl⟩) (i := 0) rfl (Nat.le_of_ble_eq_true rfl) ?_
  refine r_aload_n dX1_init_20 rfl ?_
  refine r_bipush 30 dX1_init_21 (by decide) ?_
  refine x_newi 30 3 dX1_init_23 k_76 (by decide) (by decide) (by decide) rfl hp (by decide) (Nat.le_of_ble_eq_true rfl) (Nat.le_of_ble_eq_true rfl) ?_
  refine x_putF 1 3 dX1_init_25 fl_X1_18 rfl (fun r hr => by cases hr; exact ⟨rfl, rfl⟩) (fun a => ⟨rfl, rfl⟩) (i := 0) rfl (Nat.le_of_ble_eq_true rfl) ?_
  refine r_aload_n dX1_init_28 rfl ?_
  refine r_bipush 30 dX1_init_29 (by decide) ?_
  refine x_newi 30 4 dX1_init_31 k_76 (by decide) (by decide) (by decide) rfl hp (by decide) (Nat.le_of_ble_eq_true rfl) (Nat.le_of_ble_eq_true rfl) ?_
  refine x_putF 1 4 dX1_init_33 fl_X1_21 rfl (fun r hr => by cases hr; exact ⟨rfl, rfl⟩) (fun a => ⟨rfl, rfl⟩) (i := 0) rfl (Nat.le_of_ble_eq_true rfl) ?_
  refine r_aload_n dX1_init_36 rfl ?_
  refine r_bipush 30 dX1_init_37 (by decide) ?_
  refine x_newi 30 5 dX1_init_39 k_76 (by decide) (by decide) (by decide) rfl hp (by decide) (Nat.le_of_ble_eq_true rfl) (Nat.le_of_ble_eq_true rfl) ?_
  refine x_putF 1 5 dX1_init_41 fl_X1_24 rfl (fun r hr => by cases hr; exact ⟨rfl, rfl⟩) (fun a => ⟨rfl, rfl⟩) (i := 0) rfl (Nat.le_of_ble_eq_true rfl) ?_
  refine r_aload_n dX1_init_44 rfl ?_
  refine r_bipush 30 dX1_init_45 (by decide) ?_
  refine x_newi 30 6 dX1_init_47 k_76 (by decide) (by decide) (by decide) rfl hp (by decide) (Nat.le_of_ble_eq_true rfl) (Nat.le_of_ble_eq_true rfl) ?_
  refine x_putF 1 6 dX1_init_49 fl_X1_27 rfl (fun r hr => by cases hr; exact ⟨rfl, rfl⟩) (fun a => ⟨rfl, rfl⟩) (i := 0) rfl (Nat.le_of_ble_eq_true rfl) ?_
  refine r_aload_n dX1_init_52 rfl ?_
  refine r_bipush 30 dX1_init_53 (by decide) ?_
  refine x_newi 30 7 dX1_init_55 k_76 (by decide) (by decide) (by decide) rfl hp (by decide) (Nat.le_of_ble_eq_true rfl) (Nat.le_of_ble_eq_true rfl) ?_
  refine x_putF 1 7 dX1_init_57 fl_X1_30 rfl (fun r hr => by cases hr; exact ⟨rfl, rfl⟩) (fun a => ⟨rfl, rfl⟩) (i := 0) rfl (Nat.le_of_ble_eq_true rfl) ?_
  exact r_vret dX1_init_60 rfl hq
theorem i_X2 {pre : List a_E} {n : Nat} {Q : a_Q} (hn : pre.length = n) (hp : n ≤ 400) (hq : Q (.inl none) (true, pre ++ [.inr (2, [.int 0, .ref (n + 1), .ref (n + 2), .ref (n + 3), .ref (n + 4), .ref (n + 5)]), .inl (0, 8, .inl (fun _ => 0)), .inl (0, 8, .inl (fun _ => 0)), .inl (0, 8, .inl (fun _ => 0)), .inl (0, 8, .inl (fun _ => 0)), .inl (0, 8, .inl (fun _ => 0))])) : AM yX2_init I_X2_init [.ref n] (true, pre ++ [.inr (2, [.int 0, .null, .null, .null, .null, .null])]) Q := by
  subst hn
  refine a_met (by decide +kernel) rfl rfl (Nat.le_of_ble_eq_true rfl) (by simp [Value.category]) (fun _ => rfl) rfl ?_
  show AW I_X2_init 0 [.ref (pre.length + 0)] [] (true, pre ++ [.inr (2, [.int 0, .null, .null, .null, .null, .null])]) 0 0 Q
  refine r_aload_n dX2_init_0 rfl ?_
  refine r_objI dX2_init_1 k_82 k_31 k_32 (Nat.le_of_ble_eq_true rfl) (Nat.le_of_ble_eq_true rfl) ?_
  refine r_aload_n dX2_init_4 rfl ?_
  refine r_bipush 8 dX2_init_5 (by decide) ?_
  refine x_newi 8 1 dX2_init_7 k_76 (by decide) (by decide) (by decide) rfl hp (by decide) (Nat.le_of_ble_eq_true rfl) (Nat.le_of_ble_eq_true rfl) ?_
  refine x_putF 2 1 dX2_init_9 fl_X2_9 rfl (fun r hr => by cases hr; exact ⟨rfl, rfl⟩) (fun a => ⟨rfl, rfl⟩) (i := 0) rfl (Nat.le_of_ble_eq_true rfl) ?_
  refine r_aload_n dX2_init_12 rfl ?_
  refine r_bipush 8 dX2_init_13 (by decide) ?_
  refine x_newi 8 2 dX2_init_15 k_76 (by decide) (by decide) (by decide) rfl hp (by decide) (Nat.le_of_ble_eq_true rfl) (Nat.le_of_ble_eq_true rfl) ?_
  refine x_putF 2 2 dX2_init_17 fl_X2_15 rfl (fun r hr => by cases hr; exact ⟨rfl, rfl⟩) (fun a => ⟨rfl, rfl⟩) (i := 0) rfl (Nat.le_of_ble_eq_true rfl) ?_
  refine r_aload_n dX2_init_20 rfl ?_
  refine r_bipush 8 dX2_init_21 (by decide) ?_
  refine x_newi 8 3 dX2_init_23 k_76 (by decide) (by decide) (by decide) rfl hp (by decide) (Nat.le_of_ble_eq_true rfl) (Nat.le_of_ble_eq_true rfl) ?_
  refine x_putF 2 3 dX2_init_25 fl_X2_18 rfl (fun r hr => by cases hr; exact ⟨rfl, rfl⟩) (fun a => ⟨rfl, rfl⟩) (i := 0) rfl (Nat.le_of_ble_eq_true rfl) ?_
  refine r_aload_n dX2_init_28 rfl ?_
  refine r_bipush 8 dX2_init_29 (by decide) ?_
  refine x_newi 8 4 dX2_init_31 k_76 (by decide) (by decide) (by decide) rfl hp (by decide) (Nat.le_of_ble_eq_true rfl) (Nat.le_of_ble_eq_true rfl) ?_
  refine x_putF 2 4 dX2_init_33 fl_X2_21 rfl (fun r hr => by cases hr; exact ⟨rfl, rfl⟩) (fun a => ⟨rfl, rfl⟩) (i := 0) rfl (Nat.le_of_ble_eq_true rfl) ?_
  refine r_aload_n dX2_init_36 rfl ?_
  refine r_bipush 8 dX2_init_37 (by decide) ?_
  refine x_newi 8 5 dX2_init_39 k_76 (by decide) (by decide) (by decide) rfl hp (by decide) (Nat.le_of_ble_eq_true rfl) (Nat.le_of_ble_eq_true rfl) ?_
  refine x_putF 2 5 dX2_init_41 fl_X2_24 rfl (fun r hr => by cases hr; exact ⟨rfl, rfl⟩) (fun a => ⟨rfl, rfl⟩) (i := 0) rfl (Nat.le_of_ble_eq_true rfl) ?_
  exact r_vret dX2_init_44 rfl hq
theorem i_X3 {pre : List a_E} {n : Nat} {Q : a_Q} (hn : pre.length = n) (hp : n ≤ 400) (hq : Q (.inl none) (true, pre ++ [.inr (3, [.int 0, .ref (n + 1), .ref (n + 2)]), .inl (0, 6, .inl (fun _ => 0)), .inl (0, 6, .inl (fun _ => 0))])) : AM yX3_init I_X3_init [.ref n] (true, pre ++ [.inr (3, [.int 0, .null, .null])]) Q := by
  subst hn
  refine a_met (by decide +kernel) rfl rfl (Nat.le_of_ble_eq_true rfl) (by simp [Value.category]) (fun _ => rfl) rfl ?_
  show AW I_X3_init 0 [.ref (pre.length + 0)] [] (true, pre ++ [.inr (3, [.int 0, .null, .null])]) 0 0 Q
  refine r_aload_n dX3_init_0 rfl ?_
  refine r_objI dX3_init_1 k_115 k_31 k_32 (Nat.le_of_ble_eq_true rfl) (Nat.le_of_ble_eq_true rfl) ?_
  refine r_aload_n dX3_init_4 rfl ?_
  refine r_bipush 6 dX3_init_5 (by decide) ?_
  refine x_newi 6 1 dX3_init_7 k_76 (by decide) (by decide) (by decide) rfl hp (by decide) (Nat.le_of_ble_eq_true rfl) (Nat.le_of_ble_eq_true rfl) ?_
  refine x_putF 3 1 dX3_init_9 fl_X3_9 rfl (fun r hr => by cases hr; exact ⟨rfl, rfl⟩) (fun a => ⟨rfl, rfl⟩) (i := 0) rfl (Nat.le_of_ble_eq_true rfl) ?_
  refine r_aload_n dX3_init_12 rfl ?_
  refine r_bipush 6 dX3_init_13 (by decide) ?_
  refine x_newi 6 2 dX3_init_15 k_76 (by decide) (by decide) (by decide) rfl hp (by decide) (Nat.le_of_ble_eq_true rfl) (Nat.le_of_ble_eq_true rfl) ?_
  refine x_putF 3 2 dX3_init_17 fl_X3_15 rfl (fun r hr => by cases hr; exact ⟨rfl, rfl⟩) (fun a => ⟨rfl, rfl⟩) (i := 0) rfl (Nat.le_of_ble_eq_true rfl) ?_
  exact r_vret dX3_init_20 rfl hq
theorem i_X4 {pre : List a_E} {n : Nat} {Q : a_Q} (hn : pre.length = n) (hp : n ≤ 400) (hq : Q (.inl none) (true, pre ++ [.inr (4, [.int 0, .ref (n + 1)]), .inl (1, 128, .inl (fun _ => 0))])) : AM yX4_init I_X4_init [.ref n] (true, pre ++ [.inr (4, [.int 0, .null])]) Q := by
  subst hn
  refine a_met (by decide +kernel) rfl rfl (Nat.le_of_ble_eq_true rfl) (by simp [Value.category]) (fun _ => rfl) rfl ?_
  show AW I_X4_init 0 [.ref (pre.length + 0)] [] (true, pre ++ [.inr (4, [.int 0, .null])]) 0 0 Q
  refine r_aload_n dX4_init_0 rfl ?_
  refine r_objI dX4_init_1 k_339 k_31 k_32 (Nat.le_of_ble_eq_true rfl) (Nat.le_of_ble_eq_true rfl) ?_
  refine r_aload_n dX4_init_4 rfl ?_
  refine r_sipush 128 dX4_init_5 (by decide) ?_
  refine x_newb 128 1 dX4_init_8 k_333 (by decide) (by decide) (by decide) rfl hp (by decide) (Nat.le_of_ble_eq_true rfl) (Nat.le_of_ble_eq_true rfl) ?_
  refine x_putF 4 1 dX4_init_10 fl_X4_9 rfl (fun r hr => by cases hr; exact ⟨rfl, rfl⟩) (fun a => ⟨rfl, rfl⟩) (i := 0) rfl (Nat.le_of_ble_eq_true rfl) ?_
  exact r_vret dX4_init_13 rfl hq
theorem i_X6 {pre : List a_E} {n : Nat} {Q : a_Q} (hn : pre.length = n) (hp : n ≤ 400) (hq : Q (.inl none) (true, pre ++ [.inr (6, [.ref (n + 1), .ref (n + 2), .ref (n + 3), .ref (n + 4), .ref (n + 5), .ref (n + 6)]), .inl (0, 12, .inl (fun _ => 0)), .inl (0, 12, .inl (fun _ => 0)), .inl (0, 12, .inl (fun _ => 0)), .inl (0, 6, .inl (fun _ => 0)), .inl (2, 12, .inr (.inl (fun _ => 0))), .inl (2, 12, .inr (.inl (fun _ => 0)))])) : AM yX6_init I_X6_init [.ref n] (true, pre ++ [.inr (6, [.null, .null, .null, .null, .null, .null])]) Q := by
  subst hn
  refine a_met (by decide +kernel) rfl rfl (Nat.le_of_ble_eq_true rfl) (by simp [Value.category]) (fun _ => rfl) rfl ?_
  show AW I_X6_init 0 [.ref (pre.length + 0)] [] (true, pre ++ [.inr (6, [.null, .null, .null, .null, .null, .null])]) 0 0 Q
  refine r_aload_n dX6_init_0 rfl ?_
  refine r_objI dX6_init_1 k_186 k_31 k_32 (Nat.le_of_ble_eq_true rfl) (Nat.le_of_ble_eq_true rfl) ?_
  refine r_aload_n dX6_init_4 rfl ?_
  refine r_bipush 12 dX6_init_5 (by decide) ?_
  refine x_newi 12 1 dX6_init_7 k_76 (by decide) (by decide) (by decide) rfl hp (by decide) (Nat.le_of_ble_eq_true rfl) (Nat.le_of_ble_eq_true rfl) ?_
  refine x_putF 6 0 dX6_init_9 fl_X6_9 rfl (fun r hr => by cases hr; exact ⟨rfl, rfl⟩) (fun a => ⟨rfl, rfl⟩) (i := 0) rfl (Nat.le_of_ble_eq_true rfl) ?_
  refine r_aload_n dX6_init_12 rfl ?_
  refine r_bipush 12 dX6_init_13 (by decide) ?_
  refine x_newi 12 2 dX6_init_15 k_76 (by decide) (by decide) (by decide) rfl hp (by decide) (Nat.le_of_ble_eq_true rfl) (Nat.le_of_ble_eq_true rfl) ?_
  refine x_putF 6 1 dX6_init_17 fl_X6_15 rfl (fun r hr => by cases hr; exact ⟨rfl, rfl⟩) (fun a => ⟨rfl, rfl⟩) (i := 0) rfl (Nat.le_of_ble_eq_true rfl) ?_
  refine r_aload_n dX6_init_20 rfl ?_
  refine r_bipush 12 dX6_init_21 (by decide) ?_
  refine x_newi 12 3 dX6_init_23 k_76 (by decide) (by decide) (by decide) rfl hp (by decide) (Nat.le_of_ble_eq_true rfl) (Nat.le_of_ble_eq_true rfl) ?_
  refine x_putF 6 2 dX6_init_25 fl_X6_18 rfl (fun r hr => by cases hr; exact ⟨rfl, rfl⟩) (fun a => ⟨rfl, rfl⟩) (i := 0) rfl (Nat.le_of_ble_eq_true rfl) ?_
  refine r_aload_n dX6_init_28 rfl ?_
  refine r_bipush 6 dX6_init_29 (by decide) ?_
  refine x_newi 6 4 dX6_init_31 k_76 (by decide) (by decide) (by decide) rfl hp (by decide) (Nat.le_of_ble_eq_true rfl) (Nat.le_of_ble_eq_true rfl) ?_
  refine x_putF 6 3 dX6_init_33 fl_X6_21 rfl (fun r hr => by cases hr; exact ⟨rfl, rfl⟩) (fun a => ⟨rfl, rfl⟩) (i := 0) rfl (Nat.le_of_ble_eq_true rfl) ?_
  refine r_aload_n dX6_init_36 rfl ?_
  refine r_bipush 12 dX6_init_37 (by decide) ?_
  refine x_newl 12 5 dX6_init_39 k_211 (by decide) (by decide) (by decide) rfl hp (by decide) (Nat.le_of_ble_eq_true rfl) (Nat.le_of_ble_eq_true rfl) ?_
  refine x_putF 6 4 dX6_init_41 fl_X6_24 rfl (fun r hr => by cases hr; exact ⟨rfl, rfl⟩) (fun a => ⟨rfl, rfl⟩) (i := 0) rfl (Nat.le_of_ble_eq_true rfl) ?_
  refine r_aload_n dX6_init_44 rfl ?_
  refine r_bipush 12 dX6_init_45 (by decide) ?_
  refine x_newl 12 6 dX6_init_47 k_211 (by decide) (by decide) (by decide) rfl hp (by decide) (Nat.le_of_ble_eq_true rfl) (Nat.le_of_ble_eq_true rfl) ?_
  refine x_putF 6 5 dX6_init_49 fl_X6_28 rfl (fun r hr => by cases hr; exact ⟨rfl, rfl⟩) (fun a => ⟨rfl, rfl⟩) (i := 0) rfl (Nat.le_of_ble_eq_true rfl) ?_
  exact r_vret dX6_init_52 rfl hq
theorem i_X7 {pre : List a_E} {n : Nat} {Q : a_Q} (hn : pre.length = n) (hp : n ≤ 400) (hq : Q (.inl none) (true, pre ++ [.inr (7, [.int 0, .int 0, .int (-1), .ref (n + 1), .int 0, .int 0, .int 0]), .inl (1, 600, .inl (fun _ => 0))])) : AM yX7_init I_X7_init [.ref n] (true, pre ++ [.inr (7, [.int 0, .int 0, .int 0, .null, .int 0, .int 0, .int 0])]) Q := by
  subst hn
  refine a_met (by decide +kernel) rfl rfl (Nat.le_of_ble_eq_true rfl) (by simp [Value.category]) (fun _ => rfl) rfl ?_
  show AW I_X7_init 0 [.ref (pre.length + 0)] [] (true, pre ++ [.inr (7, [.int 0, .int 0, .int 0, .null, .int 0, .int 0, .int 0])]) 0 0 Q
  refine r_aload_n dX7_init_0 rfl ?_
  refine r_objI dX7_init_1 k_307 k_31 k_32 (Nat.le_of_ble_eq_true rfl) (Nat.le_of_ble_eq_true rfl) ?_
  refine r_aload_n dX7_init_4 rfl ?_
  refine r_iconst_m1 dX7_init_5 ?_
  refine x_put 7 2 dX7_init_6 fl_X7_9 (fun r hr => by cases hr; rfl) (i := 0) rfl (Nat.le_of_ble_eq_true rfl) ?_
  refine r_aload_n dX7_init_9 rfl ?_
  refine r_sipush 600 dX7_init_10 (by decide) ?_
  refine x_newb 600 1 dX7_init_13 k_333 (by decide) (by decide) (by decide) rfl hp (by decide) (Nat.le_of_ble_eq_true rfl) (Nat.le_of_ble_eq_true rfl) ?_
  refine x_putF 7 3 dX7_init_15 fl_X7_15 rfl (fun r hr => by cases hr; exact ⟨rfl, rfl⟩) (fun a => ⟨rfl, rfl⟩) (i := 0) rfl (Nat.le_of_ble_eq_true rfl) ?_
  exact r_vret dX7_init_18 rfl hq
