/-! PLACES -/
def kb_Q (f : Nat → Int32) (n : Nat) : List a_E := .inr (5, [.ref (n + 1), .ref (n + 6), .ref (n + 12), .ref (n + 15), .ref (n + 23), .ref (n + 30), .int 0, .int 0, .int 0]) :: (kb_T (n + 1) ++ (kb_L (n + 6) ++ (kb_M (n + 12) ++ (kb_J (n + 15) ++ (kb_S (n + 23) ++ [.inl (0, 3, .inl f)])))))
def kb_P (n : Nat) : List a_E := kb_Q kz_S n
theorem i_X2k {pre t : List a_E} {n : Nat} {Q : a_Q} (hn : pre.length = n) (hq : Q (.inl none) (true, pre ++ (kb_L n ++ t))) : AM yX2_clear I_X2_clear [.ref n] (true, pre ++ (kb_L n ++ t)) Q := by
  subst hn
  refine a_met (by decide +kernel) rfl rfl (Nat.le_of_ble_eq_true rfl) (by simp [Value.category]) (by decide) rfl ?_
  show AW I_X2_clear 0 [.ref (pre.length + 0)] [] (true, pre ++ (kb_L pre.length ++ t)) 0 0 Q
  refine r_aload_n dX2_clear_0 rfl ?_
  refine r_iconst_0 dX2_clear_1 ?_
  refine x_put 2 0 dX2_clear_2 fl_X2_27 (fun r hr => by cases hr; rfl) (i := 0) rfl (Nat.le_of_ble_eq_true rfl) ?_
  exact r_vret dX2_clear_5 rfl hq
theorem i_X3k {pre t : List a_E} {n : Nat} {Q : a_Q} (hn : pre.length = n) (hq : Q (.inl none) (true, pre ++ (kb_M n ++ t))) : AM yX3_clear I_X3_clear [.ref n] (true, pre ++ (kb_M n ++ t)) Q := by
  subst hn
  refine a_met (by decide +kernel) rfl rfl (Nat.le_of_ble_eq_true rfl) (by simp [Value.category]) (by decide) rfl ?_
  show AW I_X3_clear 0 [.ref (pre.length + 0)] [] (true, pre ++ (kb_M pre.length ++ t)) 0 0 Q
  refine r_aload_n dX3_clear_0 rfl ?_
  refine r_iconst_0 dX3_clear_1 ?_
  refine x_put 3 0 dX3_clear_2 fl_X3_18 (fun r hr => by cases hr; rfl) (i := 0) rfl (Nat.le_of_ble_eq_true rfl) ?_
  exact r_vret dX3_clear_5 rfl hq
theorem i_X1k {pre t : List a_E} {n : Nat} {Q : a_Q} (hn : pre.length = n) (hq : Q (.inl none) (true, pre ++ (kb_J n ++ t))) : AM yX1_clear I_X1_clear [.ref n] (true, pre ++ (kb_J n ++ t)) Q := by
  subst hn
  refine a_met (by decide +kernel) rfl rfl (Nat.le_of_ble_eq_true rfl) (by simp [Value.category]) (by decide) rfl ?_
  show AW I_X1_clear 0 [.ref (pre.length + 0)] [] (true, pre ++ (kb_J pre.length ++ t)) 0 0 Q
  refine r_aload_n dX1_clear_0 rfl ?_
  refine r_iconst_0 dX1_clear_1 ?_
  refine x_put 1 0 dX1_clear_2 fl_X1_33 (fun r hr => by cases hr; rfl) (i := 0) rfl (Nat.le_of_ble_eq_true rfl) ?_
  exact r_vret dX1_clear_5 rfl hq
theorem i_X8k {pre t : List a_E} {n : Nat} {Q : a_Q} (hn : pre.length = n) (hq : Q (.inl none) (true, pre ++ (kb_T n ++ t))) : AM yX8_clear I_X8_clear [.ref n] (true, pre ++ (kb_T n ++ t)) Q := by
  subst hn
  have hq2 : Q (.inl none) (true, pre ++ (.inr (8, [.int 1, .ref (pre.length + 1), .ref (pre.length + 2), .ref (pre.length + 3), .ref (pre.length + 4)]) :: .inl (0, 12, .inl (upd kz_P (Int32.toNatClampNeg 0) (-1))) :: .inl (0, 12, .inl (upd kz_0 (Int32.toNatClampNeg 0) 0)) :: .inl (0, 12, .inl (upd kz_0 (Int32.toNatClampNeg 0) 0)) :: .inl (0, 12, .inl (upd kz_B (Int32.toNatClampNeg 0) 1000000)) :: t)) := by
    rw [kz_u1, kz_u2, kz_u3]; exact hq
  refine a_met (by decide +kernel) rfl rfl (Nat.le_of_ble_eq_true rfl) (by simp [Value.category]) (by decide) rfl ?_
  show AW I_X8_clear 0 [.ref (pre.length + 0)] [] (true, pre ++ (kb_T pre.length ++ t)) 0 0 Q
  refine r_aload_n dX8_clear_0 rfl ?_
  refine r_iconst_1 dX8_clear_1 ?_
  refine x_put 8 0 dX8_clear_2 fl_X8_27 (fun r hr => by cases hr; rfl) (i := 0) rfl (Nat.le_of_ble_eq_true rfl) ?_
  refine r_aload_n dX8_clear_5 rfl ?_
  refine x_get 8 1 dX8_clear_6 fl_X8_9 (i := 0) rfl rfl ?_
  refine r_iconst_0 dX8_clear_9 ?_
  refine r_iconst_m1 dX8_clear_10 ?_
  refine x_iast dX8_clear_11 (i := 1) rfl (vp_in_nI (n := 0) (N := 12) (by decide) (by decide)) ?_
  refine r_aload_n dX8_clear_12 rfl ?_
  refine x_get 8 2 dX8_clear_13 fl_X8_15 (i := 0) rfl rfl ?_
  refine r_iconst_0 dX8_clear_16 ?_
  refine r_iconst_0 dX8_clear_17 ?_
  refine x_iast dX8_clear_18 (i := 2) rfl (vp_in_nI (n := 0) (N := 12) (by decide) (by decide)) ?_
  refine r_aload_n dX8_clear_19 rfl ?_
  refine x_get 8 3 dX8_clear_20 fl_X8_18 (i := 0) rfl rfl ?_
  refine r_iconst_0 dX8_clear_23 ?_
  refine r_iconst_0 dX8_clear_24 ?_
  refine x_iast dX8_clear_25 (i := 3) rfl (vp_in_nI (n := 0) (N := 12) (by decide) (by decide)) ?_
  refine r_aload_n dX8_clear_26 rfl ?_
  refine x_get 8 4 dX8_clear_27 fl_X8_21 (i := 0) rfl rfl ?_
  refine r_iconst_0 dX8_clear_30 ?_
  refine r_ldc 1000000 dX8_clear_31 k_49 ?_
  refine x_iast dX8_clear_33 (i := 4) rfl (vp_in_nI (n := 0) (N := 12) (by decide) (by decide)) ?_
  exact r_vret dX8_clear_34 rfl hq2
theorem i_X5k {pre : List a_E} {f : Nat → Int32} {n : Nat} {Q : a_Q} (hn : pre.length = n) (hp : n ≤ 400) (hf : va_cpy (fun j => (a_sv 0).getD j 0) f 0 0 3 = kz_S) (hq : Q (.inl none) (true, pre ++ kb_P n)) : AM yX5_clear I_X5_clear [.ref n] (true, pre ++ kb_Q f n) Q := by
  subst hn
  have hq2 : Q (.inl none) (true, pre ++ kb_Q (va_cpy (fun j => (a_sv 0).getD j 0) f 0 0 3) pre.length) := by
    rw [hf]; exact hq
  refine a_met (by decide +kernel) rfl rfl (Nat.le_of_ble_eq_true rfl) (by simp [Value.category]) (by decide) rfl ?_
  show AW I_X5_clear 0 [.ref (pre.length + 0)] [] (true, pre ++ kb_Q f pre.length) 0 0 Q
  refine r_aload_n dX5_clear_0 rfl ?_
  refine x_get 5 0 dX5_clear_1 fl_X5_12 (i := 0) rfl rfl ?_
  refine x_cv (i := 1) (l' := kb_Q f pre.length) dX5_clear_4 cv_X5_53 (fun Q2 hq2 => by
    have e : pre ++ kb_Q f pre.length = (pre ++ (.inr (5, [.ref (pre.length + 1), .ref (pre.length + 6), .ref (pre.length + 12), .ref (pre.length + 15), .ref (pre.length + 23), .ref (pre.length + 30), .int 0, .int 0, .int 0]) :: [])) ++ (kb_T (pre.length + 1) ++ (kb_L (pre.length + 6) ++ (kb_M (pre.length + 12) ++ (kb_J (pre.length + 15) ++ (kb_S (pre.length + 23) ++ ([.inl (0, 3, .inl f)])))))) := (List.append_assoc pre (.inr (5, [.ref (pre.length + 1), .ref (pre.length + 6), .ref (pre.length + 12), .ref (pre.length + 15), .ref (pre.length + 23), .ref (pre.length + 30), .int 0, .int 0, .int 0]) :: []) (kb_T (pre.length + 1) ++ (kb_L (pre.length + 6) ++ (kb_M (pre.length + 12) ++ (kb_J (pre.length + 15) ++ (kb_S (pre.length + 23) ++ ([.inl (0, 3, .inl f)]))))))).symm
    rw [e] at hq2 ⊢
    exact i_X8k (by rw [List.length_append]; rfl) hq2) rfl ⟨_, rfl, rfl⟩ ⟨rfl, rfl⟩ rfl hp (Nat.le_of_ble_eq_true rfl) (Nat.le_of_ble_eq_true rfl) (Nat.le_of_ble_eq_true rfl) (Nat.le_of_ble_eq_true rfl) (Nat.le_of_ble_eq_true rfl) (Nat.le_of_ble_eq_true rfl) ?_
  refine r_aload_n dX5_clear_7 rfl ?_
  refine x_get 5 1 dX5_clear_8 fl_X5_21 (i := 0) rfl rfl ?_
  refine x_cv (i := 6) (l' := kb_Q f pre.length) dX5_clear_11 cv_X5_54 (fun Q2 hq2 => by
    have e : pre ++ kb_Q f pre.length = (pre ++ (.inr (5, [.ref (pre.length + 1), .ref (pre.length + 6), .ref (pre.length + 12), .ref (pre.length + 15), .ref (pre.length + 23), .ref (pre.length + 30), .int 0, .int 0, .int 0]) :: ((kb_T (pre.length + 1) ++ [])))) ++ (kb_L (pre.length + 6) ++ (kb_M (pre.length + 12) ++ (kb_J (pre.length + 15) ++ (kb_S (pre.length + 23) ++ ([.inl (0, 3, .inl f)]))))) := (List.append_assoc pre (.inr (5, [.ref (pre.length + 1), .ref (pre.length + 6), .ref (pre.length + 12), .ref (pre.length + 15), .ref (pre.length + 23), .ref (pre.length + 30), .int 0, .int 0, .int 0]) :: ((kb_T (pre.length + 1) ++ []))) (kb_L (pre.length + 6) ++ (kb_M (pre.length + 12) ++ (kb_J (pre.length + 15) ++ (kb_S (pre.length + 23) ++ ([.inl (0, 3, .inl f)])))))).symm
    rw [e] at hq2 ⊢
    exact i_X2k (by rw [List.length_append]; rfl) hq2) rfl ⟨_, rfl, rfl⟩ ⟨rfl, rfl⟩ rfl hp (Nat.le_of_ble_eq_true rfl) (Nat.le_of_ble_eq_true rfl) (Nat.le_of_ble_eq_true rfl) (Nat.le_of_ble_eq_true rfl) (Nat.le_of_ble_eq_true rfl) (Nat.le_of_ble_eq_true rfl) ?_
  refine r_aload_n dX5_clear_14 rfl ?_
  refine x_get 5 2 dX5_clear_15 fl_X5_28 (i := 0) rfl rfl ?_
  refine x_cv (i := 12) (l' := kb_Q f pre.length) dX5_clear_18 cv_X5_55 (fun Q2 hq2 => by
    have e : pre ++ kb_Q f pre.length = (pre ++ (.inr (5, [.ref (pre.length + 1), .ref (pre.length + 6), .ref (pre.length + 12), .ref (pre.length + 15), .ref (pre.length + 23), .ref (pre.length + 30), .int 0, .int 0, .int 0]) :: ((kb_T (pre.length + 1) ++ (kb_L (pre.length + 6) ++ []))))) ++ (kb_M (pre.length + 12) ++ (kb_J (pre.length + 15) ++ (kb_S (pre.length + 23) ++ ([.inl (0, 3, .inl f)])))) := (List.append_assoc pre (.inr (5, [.ref (pre.length + 1), .ref (pre.length + 6), .ref (pre.length + 12), .ref (pre.length + 15), .ref (pre.length + 23), .ref (pre.length + 30), .int 0, .int 0, .int 0]) :: ((kb_T (pre.length + 1) ++ (kb_L (pre.length + 6) ++ [])))) (kb_M (pre.length + 12) ++ (kb_J (pre.length + 15) ++ (kb_S (pre.length + 23) ++ ([.inl (0, 3, .inl f)]))))).symm
    rw [e] at hq2 ⊢
    exact i_X3k (by rw [List.length_append]; rfl) hq2) rfl ⟨_, rfl, rfl⟩ ⟨rfl, rfl⟩ rfl hp (Nat.le_of_ble_eq_true rfl) (Nat.le_of_ble_eq_true rfl) (Nat.le_of_ble_eq_true rfl) (Nat.le_of_ble_eq_true rfl) (Nat.le_of_ble_eq_true rfl) (Nat.le_of_ble_eq_true rfl) ?_
  refine r_aload_n dX5_clear_21 rfl ?_
  refine x_get 5 3 dX5_clear_22 fl_X5_35 (i := 0) rfl rfl ?_
  refine x_cv (i := 15) (l' := kb_Q f pre.length) dX5_clear_25 cv_X5_56 (fun Q2 hq2 => by
    have e : pre ++ kb_Q f pre.length = (pre ++ (.inr (5, [.ref (pre.length + 1), .ref (pre.length + 6), .ref (pre.length + 12), .ref (pre.length + 15), .ref (pre.length + 23), .ref (pre.length + 30), .int 0, .int 0, .int 0]) :: ((kb_T (pre.length + 1) ++ (kb_L (pre.length + 6) ++ (kb_M (pre.length + 12) ++ [])))))) ++ (kb_J (pre.length + 15) ++ (kb_S (pre.length + 23) ++ ([.inl (0, 3, .inl f)]))) := (List.append_assoc pre (.inr (5, [.ref (pre.length + 1), .ref (pre.length + 6), .ref (pre.length + 12), .ref (pre.length + 15), .ref (pre.length + 23), .ref (pre.length + 30), .int 0, .int 0, .int 0]) :: ((kb_T (pre.length + 1) ++ (kb_L (pre.length + 6) ++ (kb_M (pre.length + 12) ++ []))))) (kb_J (pre.length + 15) ++ (kb_S (pre.length + 23) ++ ([.inl (0, 3, .inl f)])))).symm
    rw [e] at hq2 ⊢
    exact i_X1k (by rw [List.length_append]; rfl) hq2) rfl ⟨_, rfl, rfl⟩ ⟨rfl, rfl⟩ rfl hp (Nat.le_of_ble_eq_true rfl) (Nat.le_of_ble_eq_true rfl) (Nat.le_of_ble_eq_true rfl) (Nat.le_of_ble_eq_true rfl) (Nat.le_of_ble_eq_true rfl) (Nat.le_of_ble_eq_true rfl) ?_
  refine r_gets 0 dX5_clear_28 (by decide) (Or.inr g_229) ?_
  refine r_iconst_0 dX5_clear_31 ?_
  refine r_aload_n dX5_clear_32 rfl ?_
  refine x_get 5 5 dX5_clear_33 fl_X5_46 (i := 0) rfl rfl ?_
  refine r_iconst_0 dX5_clear_36 ?_
  refine r_iconst_3 dX5_clear_37 ?_
  refine r_copyT 0 dX5_clear_38 (by decide) ac_X5_60 (p_at (i := 30)) (by decide) (by decide) (by decide) (by decide) (by decide) (Nat.le_of_ble_eq_true rfl) (Nat.le_of_ble_eq_true rfl) ?_
  show AW I_X5_clear 41 [.ref (pre.length + 0)] [] (true, (pre ++ kb_Q f pre.length).set (pre.length + 30) (.inl (0, 3, .inl (va_cpy (fun j => (a_sv 0).getD j 0) f 0 0 3)))) 0 0 Q
  rw [p_set]
  show AW I_X5_clear 41 [.ref (pre.length + 0)] [] (true, pre ++ kb_Q (va_cpy (fun j => (a_sv 0).getD j 0) f 0 0 3) pre.length) 0 0 Q
  refine r_aload_n dX5_clear_41 rfl ?_
  refine r_iconst_0 dX5_clear_42 ?_
  refine x_put 5 6 dX5_clear_43 fl_X5_66 (fun r hr => by cases hr; rfl) (i := 0) rfl (Nat.le_of_ble_eq_true rfl) ?_
  refine r_aload_n dX5_clear_46 rfl ?_
  refine r_iconst_0 dX5_clear_47 ?_
  refine x_put 5 7 dX5_clear_48 fl_X5_70 (fun r hr => by cases hr; rfl) (i := 0) rfl (Nat.le_of_ble_eq_true rfl) ?_
  refine r_aload_n dX5_clear_51 rfl ?_
  refine r_iconst_0 dX5_clear_52 ?_
  refine x_put 5 8 dX5_clear_53 fl_X5_73 (fun r hr => by cases hr; rfl) (i := 0) rfl (Nat.le_of_ble_eq_true rfl) ?_
  exact r_vret dX5_clear_56 rfl hq2
theorem ib_5 : IB yX5_init I_X5_init 5 [.null, .null, .null, .null, .null, .null, .int 0, .int 0, .int 0] kb_P := by
  intro pre n Q hn hp2 hq
  subst hn
  have hp3 : pre.length + 1 + 30 ≤ 400 := hp2
  have hp : pre.length ≤ 400 := by omega
  refine a_met (by decide +kernel) rfl rfl (Nat.le_of_ble_eq_true rfl) (by simp [Value.category]) (fun _ => rfl) rfl ?_
  show AW I_X5_init 0 [.ref pre.length] [] (true, pre ++ [.inr (5, [.null, .null, .null, .null, .null, .null, .int 0, .int 0, .int 0])]) 0 0 Q
  refine r_aload_n dX5_init_0 rfl ?_
  refine r_objI dX5_init_1 k_38 k_31 k_32 (Nat.le_of_ble_eq_true rfl) (Nat.le_of_ble_eq_true rfl) ?_
  refine r_aload_n dX5_init_4 rfl ?_
  refine x_mk (ci := 8) 1 dX5_init_5 dX5_init_8 dX5_init_9 rfl k_39 k_40 k_3 uws_8 (fun j hj => by have hj : j < 5 := hj; rcases (show j = 0 ∨ j = 1 ∨ j = 2 ∨ j = 3 ∨ j = 4 by omega) with rfl | rfl | rfl | rfl | rfl <;> rfl) (fun _ => rfl) ci_X5_11 ib_8 (fun _ => rfl) rfl (show pre.length ≤ 400 ∧ pre.length + 1 + 1 + 4 ≤ 400 by omega) (Nat.le_of_ble_eq_true rfl) (Nat.le_of_ble_eq_true rfl) (Nat.le_of_ble_eq_true rfl) (Nat.le_of_ble_eq_true rfl) (Nat.le_of_ble_eq_true rfl) ?_
  refine x_putF0 5 0 dX5_init_12 fl_X5_12 rfl (fun r hr => by cases hr; exact ⟨rfl, rfl⟩) (fun a => ⟨rfl, rfl⟩) rfl (Nat.le_of_ble_eq_true rfl) rfl ?_
  refine r_aload_n dX5_init_15 rfl ?_
  refine x_mk (ci := 2) 6 dX5_init_16 dX5_init_19 dX5_init_20 rfl k_77 k_78 k_4 uws_2 (fun j hj => by have hj : j < 6 := hj; rcases (show j = 0 ∨ j = 1 ∨ j = 2 ∨ j = 3 ∨ j = 4 ∨ j = 5 by omega) with rfl | rfl | rfl | rfl | rfl | rfl <;> rfl) (fun _ => rfl) ci_X5_20 ib_2 (fun _ => rfl) rfl (show pre.length ≤ 400 ∧ pre.length + 6 + 1 + 5 ≤ 400 by omega) (Nat.le_of_ble_eq_true rfl) (Nat.le_of_ble_eq_true rfl) (Nat.le_of_ble_eq_true rfl) (Nat.le_of_ble_eq_true rfl) (Nat.le_of_ble_eq_true rfl) ?_
  refine x_putF0 5 1 dX5_init_23 fl_X5_21 rfl (fun r hr => by cases hr; exact ⟨rfl, rfl⟩) (fun a => ⟨rfl, rfl⟩) rfl (Nat.le_of_ble_eq_true rfl) rfl ?_
  refine r_aload_n dX5_init_26 rfl ?_
  refine x_mk (ci := 3) 12 dX5_init_27 dX5_init_30 dX5_init_31 rfl k_110 k_111 k_5 uws_3 (fun j hj => by have hj : j < 3 := hj; rcases (show j = 0 ∨ j = 1 ∨ j = 2 by omega) with rfl | rfl | rfl <;> rfl) (fun _ => rfl) ci_X5_27 ib_3 (fun _ => rfl) rfl (show pre.length ≤ 400 ∧ pre.length + 12 + 1 + 2 ≤ 400 by omega) (Nat.le_of_ble_eq_true rfl) (Nat.le_of_ble_eq_true rfl) (Nat.le_of_ble_eq_true rfl) (Nat.le_of_ble_eq_true rfl) (Nat.le_of_ble_eq_true rfl) ?_
  refine x_putF0 5 2 dX5_init_34 fl_X5_28 rfl (fun r hr => by cases hr; exact ⟨rfl, rfl⟩) (fun a => ⟨rfl, rfl⟩) rfl (Nat.le_of_ble_eq_true rfl) rfl ?_
  refine r_aload_n dX5_init_37 rfl ?_
  refine x_mk (ci := 1) 15 dX5_init_38 dX5_init_41 dX5_init_42 rfl k_130 k_131 k_6 uws_1 (fun j hj => by have hj : j < 8 := hj; rcases (show j = 0 ∨ j = 1 ∨ j = 2 ∨ j = 3 ∨ j = 4 ∨ j = 5 ∨ j = 6 ∨ j = 7 by omega) with rfl | rfl | rfl | rfl | rfl | rfl | rfl | rfl <;> rfl) (fun _ => rfl) ci_X5_34 ib_1 (fun _ => rfl) rfl (show pre.length ≤ 400 ∧ pre.length + 15 + 1 + 7 ≤ 400 by omega) (Nat.le_of_ble_eq_true rfl) (Nat.le_of_ble_eq_true rfl) (Nat.le_of_ble_eq_true rfl) (Nat.le_of_ble_eq_true rfl) (Nat.le_of_ble_eq_true rfl) ?_
  refine x_putF0 5 3 dX5_init_45 fl_X5_35 rfl (fun r hr => by cases hr; exact ⟨rfl, rfl⟩) (fun a => ⟨rfl, rfl⟩) rfl (Nat.le_of_ble_eq_true rfl) rfl ?_
  refine r_aload_n dX5_init_48 rfl ?_
  refine x_mk (ci := 6) 23 dX5_init_49 dX5_init_52 dX5_init_53 rfl k_181 k_182 k_7 uws_6 (fun j hj => by have hj : j < 6 := hj; rcases (show j = 0 ∨ j = 1 ∨ j = 2 ∨ j = 3 ∨ j = 4 ∨ j = 5 by omega) with rfl | rfl | rfl | rfl | rfl | rfl <;> rfl) (fun _ => rfl) ci_X5_41 ib_6 (fun _ => rfl) rfl (show pre.length ≤ 400 ∧ pre.length + 23 + 1 + 6 ≤ 400 by omega) (Nat.le_of_ble_eq_true rfl) (Nat.le_of_ble_eq_true rfl) (Nat.le_of_ble_eq_true rfl) (Nat.le_of_ble_eq_true rfl) (Nat.le_of_ble_eq_true rfl) ?_
  refine x_putF0 5 4 dX5_init_56 fl_X5_42 rfl (fun r hr => by cases hr; exact ⟨rfl, rfl⟩) (fun a => ⟨rfl, rfl⟩) rfl (Nat.le_of_ble_eq_true rfl) rfl ?_
  refine r_aload_n dX5_init_59 rfl ?_
  refine r_iconst_3 dX5_init_60 ?_
  refine x_newi 3 30 dX5_init_61 k_76 (by decide) (by decide) (by decide) rfl hp (by decide) (Nat.le_of_ble_eq_true rfl) (Nat.le_of_ble_eq_true rfl) ?_
  refine x_putF0 5 5 dX5_init_63 fl_X5_46 rfl (fun r hr => by cases hr; exact ⟨rfl, rfl⟩) (fun a => ⟨rfl, rfl⟩) rfl (Nat.le_of_ble_eq_true rfl) rfl ?_
  show AW I_X5_init 66 [.ref (pre.length + 0)] [] (true, pre ++ kb_Q kz_0 pre.length) 30 407 Q
  refine r_aload_n dX5_init_66 rfl ?_
  refine x_cv (i := 0) (l' := kb_P pre.length) dX5_init_67 cv_X5_50 (fun Q2 hq2 => i_X5k rfl hp rfl hq2) rfl ⟨_, rfl, rfl⟩ ⟨rfl, rfl⟩ rfl hp (Nat.le_of_ble_eq_true rfl) (Nat.le_of_ble_eq_true rfl) (Nat.le_of_ble_eq_true rfl) (Nat.le_of_ble_eq_true rfl) (Nat.le_of_ble_eq_true rfl) (Nat.le_of_ble_eq_true rfl) ?_
  exact r_vret dX5_init_70 rfl hq
