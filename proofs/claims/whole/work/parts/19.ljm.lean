/-! LOANS, MACHINES, JOBS -/
section LJM
variable {M : Nat → Nat → Int32} {L : Nat → Nat → Int64} {dd : UInt64} {p : Nat} {a : Nat → Int32}
theorem c_X2_has {u : Int32} (hP : PL p) : AD yX2_has I_X2_has [.ref (p + 6), .int u] (hS M L dd) (.inl (some (.int (bI (0 ≤ u ∧ u < M (p + 6) 0))))) (hS M L dd) := by
  intro Q hq
  refine a_met (by decide +kernel) rfl rfl (Nat.le_of_ble_eq_true rfl) (by simp [Value.category]) (by decide) rfl ?_
  show AW I_X2_has 0 [.ref (p + 6), .int u] [] (hS M L dd) 0 0 Q
  refine r_iload_n dX2_has_0 rfl ?_
  refine r_if_lt 16 dX2_has_1 (by decide) (fun h1 => ?_) (fun h1 => ?_)
  · refine r_iconst_0 dX2_has_16 ?_
    exact e_zret dX2_has_17 rfl hq (by grind [bI])
  · refine r_iload_n dX2_has_4 rfl ?_
    refine r_aload_n dX2_has_5 rfl ?_
    refine m_get 2 0 dX2_has_6 fl_X2_27 (ob_loans hP) rfl ?_
    refine r_icmp_ge 16 dX2_has_9 (by decide) (fun h9 => ?_) (fun h9 => ?_)
    · refine r_iconst_0 dX2_has_16 ?_
      exact e_zret dX2_has_17 rfl hq (by grind [bI])
    · refine r_iconst_1 dX2_has_12 ?_
      refine r_goto 17 dX2_has_13 (by decide) ?_
      exact e_zret dX2_has_17 rfl hq (by grind [bI])
theorem c_X3_has {u : Int32} (hP : PL p) : AD yX3_has I_X3_has [.ref (p + 12), .int u] (hS M L dd) (.inl (some (.int (bI (0 ≤ u ∧ u < M (p + 12) 0))))) (hS M L dd) := by
  intro Q hq
  refine a_met (by decide +kernel) rfl rfl (Nat.le_of_ble_eq_true rfl) (by simp [Value.category]) (by decide) rfl ?_
  show AW I_X3_has 0 [.ref (p + 12), .int u] [] (hS M L dd) 0 0 Q
  refine r_iload_n dX3_has_0 rfl ?_
  refine r_if_lt 16 dX3_has_1 (by decide) (fun h1 => ?_) (fun h1 => ?_)
  · refine r_iconst_0 dX3_has_16 ?_
    exact e_zret dX3_has_17 rfl hq (by grind [bI])
  · refine r_iload_n dX3_has_4 rfl ?_
    refine r_aload_n dX3_has_5 rfl ?_
    refine m_get 3 0 dX3_has_6 fl_X3_18 (ob_machines hP) rfl ?_
    refine r_icmp_ge 16 dX3_has_9 (by decide) (fun h9 => ?_) (fun h9 => ?_)
    · refine r_iconst_0 dX3_has_16 ?_
      exact e_zret dX3_has_17 rfl hq (by grind [bI])
    · refine r_iconst_1 dX3_has_12 ?_
      refine r_goto 17 dX3_has_13 (by decide) ?_
      exact e_zret dX3_has_17 rfl hq (by grind [bI])
theorem c_X1_has {u : Int32} (hP : PL p) : AD yX1_has I_X1_has [.ref (p + 15), .int u] (hS M L dd) (.inl (some (.int (bI (0 ≤ u ∧ u < M (p + 15) 0))))) (hS M L dd) := by
  intro Q hq
  refine a_met (by decide +kernel) rfl rfl (Nat.le_of_ble_eq_true rfl) (by simp [Value.category]) (by decide) rfl ?_
  show AW I_X1_has 0 [.ref (p + 15), .int u] [] (hS M L dd) 0 0 Q
  refine r_iload_n dX1_has_0 rfl ?_
  refine r_if_lt 16 dX1_has_1 (by decide) (fun h1 => ?_) (fun h1 => ?_)
  · refine r_iconst_0 dX1_has_16 ?_
    exact e_zret dX1_has_17 rfl hq (by grind [bI])
  · refine r_iload_n dX1_has_4 rfl ?_
    refine r_aload_n dX1_has_5 rfl ?_
    refine m_get 1 0 dX1_has_6 fl_X1_33 (ob_jobs hP) rfl ?_
    refine r_icmp_ge 16 dX1_has_9 (by decide) (fun h9 => ?_) (fun h9 => ?_)
    · refine r_iconst_0 dX1_has_16 ?_
      exact e_zret dX1_has_17 rfl hq (by grind [bI])
    · refine r_iconst_1 dX1_has_12 ?_
      refine r_goto 17 dX1_has_13 (by decide) ?_
      exact e_zret dX1_has_17 rfl hq (by grind [bI])
theorem c_X2_isFull (hP : PL p) : AD yX2_isFull I_X2_isFull [.ref (p + 6)] (hS M L dd) (.inl (some (.int (bI (8 ≤ M (p + 6) 0))))) (hS M L dd) := by
  intro Q hq
  refine a_met (by decide +kernel) rfl rfl (Nat.le_of_ble_eq_true rfl) (by simp [Value.category]) (by decide) rfl ?_
  show AW I_X2_isFull 0 [.ref (p + 6)] [] (hS M L dd) 0 0 Q
  refine r_aload_n dX2_isFull_0 rfl ?_
  refine m_get 2 0 dX2_isFull_1 fl_X2_27 (ob_loans hP) rfl ?_
  refine r_bipush 8 dX2_isFull_4 (by decide) ?_
  refine r_icmp_lt 13 dX2_isFull_6 (by decide) (fun h6 => ?_) (fun h6 => ?_)
  · refine r_iconst_0 dX2_isFull_13 ?_
    exact e_zret dX2_isFull_14 rfl hq (by grind [bI])
  · refine r_iconst_1 dX2_isFull_9 ?_
    refine r_goto 14 dX2_isFull_10 (by decide) ?_
    exact e_zret dX2_isFull_14 rfl hq (by grind [bI])
theorem c_X3_isFull (hP : PL p) : AD yX3_isFull I_X3_isFull [.ref (p + 12)] (hS M L dd) (.inl (some (.int (bI (6 ≤ M (p + 12) 0))))) (hS M L dd) := by
  intro Q hq
  refine a_met (by decide +kernel) rfl rfl (Nat.le_of_ble_eq_true rfl) (by simp [Value.category]) (by decide) rfl ?_
  show AW I_X3_isFull 0 [.ref (p + 12)] [] (hS M L dd) 0 0 Q
  refine r_aload_n dX3_isFull_0 rfl ?_
  refine m_get 3 0 dX3_isFull_1 fl_X3_18 (ob_machines hP) rfl ?_
  refine r_bipush 6 dX3_isFull_4 (by decide) ?_
  refine r_icmp_lt 13 dX3_isFull_6 (by decide) (fun h6 => ?_) (fun h6 => ?_)
  · refine r_iconst_0 dX3_isFull_13 ?_
    exact e_zret dX3_isFull_14 rfl hq (by grind [bI])
  · refine r_iconst_1 dX3_isFull_9 ?_
    refine r_goto 14 dX3_isFull_10 (by decide) ?_
    exact e_zret dX3_isFull_14 rfl hq (by grind [bI])
theorem c_X1_isFull (hP : PL p) : AD yX1_isFull I_X1_isFull [.ref (p + 15)] (hS M L dd) (.inl (some (.int (bI (30 ≤ M (p + 15) 0))))) (hS M L dd) := by
  intro Q hq
  refine a_met (by decide +kernel) rfl rfl (Nat.le_of_ble_eq_true rfl) (by simp [Value.category]) (by decide) rfl ?_
  show AW I_X1_isFull 0 [.ref (p + 15)] [] (hS M L dd) 0 0 Q
  refine r_aload_n dX1_isFull_0 rfl ?_
  refine m_get 1 0 dX1_isFull_1 fl_X1_33 (ob_jobs hP) rfl ?_
  refine r_bipush 30 dX1_isFull_4 (by decide) ?_
  refine r_icmp_lt 13 dX1_isFull_6 (by decide) (fun h6 => ?_) (fun h6 => ?_)
  · refine r_iconst_0 dX1_isFull_13 ?_
    exact e_zret dX1_isFull_14 rfl hq (by grind [bI])
  · refine r_iconst_1 dX1_isFull_9 ?_
    refine r_goto 14 dX1_isFull_10 (by decide) ?_
    exact e_zret dX1_isFull_14 rfl hq (by grind [bI])
theorem c_X2_clear (hP : PL p) : PO yX2_clear I_X2_clear [.ref (p + 6)] M L dd none (fun M' L' => L' = L ∧ M' = mU M (p + 6) (upd (M (p + 6)) 0 0)) := by
  refine po_mk (fun Q hq => ?_)
  refine a_met (by decide +kernel) rfl rfl (Nat.le_of_ble_eq_true rfl) (by simp [Value.category]) (by decide) rfl ?_
  show AW I_X2_clear 0 [.ref (p + 6)] [] (hS M L dd) 0 0 Q
  refine r_aload_n dX2_clear_0 rfl ?_
  refine r_iconst_0 dX2_clear_1 ?_
  refine m_put 2 0 dX2_clear_2 fl_X2_27 (fun r hr => by cases hr; rfl) (ob_loans hP) (Nat.le_of_ble_eq_true rfl) rfl ?_
  exact r_vret dX2_clear_5 rfl (hq _ _ ⟨rfl, rfl⟩)
theorem c_X3_clear (hP : PL p) : PO yX3_clear I_X3_clear [.ref (p + 12)] M L dd none (fun M' L' => L' = L ∧ M' = mU M (p + 12) (upd (M (p + 12)) 0 0)) := by
  refine po_mk (fun Q hq => ?_)
  refine a_met (by decide +kernel) rfl rfl (Nat.le_of_ble_eq_true rfl) (by simp [Value.category]) (by decide) rfl ?_
  show AW I_X3_clear 0 [.ref (p + 12)] [] (hS M L dd) 0 0 Q
  refine r_aload_n dX3_clear_0 rfl ?_
  refine r_iconst_0 dX3_clear_1 ?_
  refine m_put 3 0 dX3_clear_2 fl_X3_18 (fun r hr => by cases hr; rfl) (ob_machines hP) (Nat.le_of_ble_eq_true rfl) rfl ?_
  exact r_vret dX3_clear_5 rfl (hq _ _ ⟨rfl, rfl⟩)
theorem c_X1_clear (hP : PL p) : PO yX1_clear I_X1_clear [.ref (p + 15)] M L dd none (fun M' L' => L' = L ∧ M' = mU M (p + 15) (upd (M (p + 15)) 0 0)) := by
  refine po_mk (fun Q hq => ?_)
  refine a_met (by decide +kernel) rfl rfl (Nat.le_of_ble_eq_true rfl) (by simp [Value.category]) (by decide) rfl ?_
  show AW I_X1_clear 0 [.ref (p + 15)] [] (hS M L dd) 0 0 Q
  refine r_aload_n dX1_clear_0 rfl ?_
  refine r_iconst_0 dX1_clear_1 ?_
  refine m_put 1 0 dX1_clear_2 fl_X1_33 (fun r hr => by cases hr; rfl) (ob_jobs hP) (Nat.le_of_ble_eq_true rfl) rfl ?_
  exact r_vret dX1_clear_5 rfl (hq _ _ ⟨rfl, rfl⟩)
theorem c_X2_copyFrom {q : Nat} (hP : PL p) (hQ : PL q) (hne : ∀ i j, 6 ≤ i → i < 12 → 6 ≤ j → j < 12 → p + i ≠ q + j) : PO yX2_copyFrom I_X2_copyFrom [.ref (p + 6), .ref (q + 6)] M L dd none (fun M' L' => L' = L ∧ Fr (p + 6) (p + 12) M M' ∧ M' (p + 6) 0 = M (q + 6) 0 ∧ ∀ k, k < 8 → M' (p + 7) k = M (q + 7) k ∧ M' (p + 8) k = M (q + 8) k ∧ M' (p + 9) k = M (q + 9) k ∧ M' (p + 10) k = M (q + 10) k ∧ M' (p + 11) k = M (q + 11) k) := by
  refine po_mk (fun Q hq => ?_)
  refine a_met (by decide +kernel) rfl rfl (Nat.le_of_ble_eq_true rfl) (by simp [Value.category]) (by decide) rfl ?_
  show AW I_X2_copyFrom 0 [.ref (p + 6), .ref (q + 6)] [] (hS M L dd) 0 0 Q
  refine r_aload_n dX2_copyFrom_0 rfl ?_
  refine r_aload_n dX2_copyFrom_1 rfl ?_
  refine m_get 2 0 dX2_copyFrom_2 fl_X2_27 (ob_loans hQ) rfl ?_
  refine m_put 2 0 dX2_copyFrom_5 fl_X2_27 (fun r hr => by cases hr; rfl) (ob_loans hP) (Nat.le_of_ble_eq_true rfl) rfl ?_
  refine r_aload_n dX2_copyFrom_8 rfl ?_
  refine m_get 2 1 dX2_copyFrom_9 fl_X2_9 (ob_loans hQ) rfl ?_
  refine r_iconst_0 dX2_copyFrom_12 ?_
  refine r_aload_n dX2_copyFrom_13 rfl ?_
  refine m_get 2 1 dX2_copyFrom_14 fl_X2_9 (ob_loans hP) rfl ?_
  refine r_iconst_0 dX2_copyFrom_17 ?_
  refine r_bipush 8 dX2_copyFrom_18 (by decide) ?_
  refine m_copy 8 dX2_copyFrom_20 ac_X2_31 (ai_from hQ) (ai_from hP) (by decide) (by decide) (by decide) (by decide) (by decide) (Nat.le_of_ble_eq_true rfl) ?_
  refine r_aload_n dX2_copyFrom_23 rfl ?_
  refine m_get 2 2 dX2_copyFrom_24 fl_X2_15 (ob_loans hQ) rfl ?_
  refine r_iconst_0 dX2_copyFrom_27 ?_
  refine r_aload_n dX2_copyFrom_28 rfl ?_
  refine m_get 2 2 dX2_copyFrom_29 fl_X2_15 (ob_loans hP) rfl ?_
  refine r_iconst_0 dX2_copyFrom_32 ?_
  refine r_bipush 8 dX2_copyFrom_33 (by decide) ?_
  refine m_copy 8 dX2_copyFrom_35 ac_X2_31 (ai_to hQ) (ai_to hP) (by decide) (by decide) (by decide) (by decide) (by decide) (Nat.le_of_ble_eq_true rfl) ?_
  refine r_aload_n dX2_copyFrom_38 rfl ?_
  refine m_get 2 3 dX2_copyFrom_39 fl_X2_18 (ob_loans hQ) rfl ?_
  refine r_iconst_0 dX2_copyFrom_42 ?_
  refine r_aload_n dX2_copyFrom_43 rfl ?_
  refine m_get 2 3 dX2_copyFrom_44 fl_X2_18 (ob_loans hP) rfl ?_
  refine r_iconst_0 dX2_copyFrom_47 ?_
  refine r_bipush 8 dX2_copyFrom_48 (by decide) ?_
  refine m_copy 8 dX2_copyFrom_50 ac_X2_31 (ai_ltickets hQ) (ai_ltickets hP) (by decide) (by decide) (by decide) (by decide) (by decide) (Nat.le_of_ble_eq_true rfl) ?_
  refine r_aload_n dX2_copyFrom_53 rfl ?_
  refine m_get 2 4 dX2_copyFrom_54 fl_X2_21 (ob_loans hQ) rfl ?_
  refine r_iconst_0 dX2_copyFrom_57 ?_
  refine r_aload_n dX2_copyFrom_58 rfl ?_
  refine m_get 2 4 dX2_copyFrom_59 fl_X2_21 (ob_loans hP) rfl ?_
  refine r_iconst_0 dX2_copyFrom_62 ?_
  refine r_bipush 8 dX2_copyFrom_63 (by decide) ?_
  refine m_copy 8 dX2_copyFrom_65 ac_X2_31 (ai_begin hQ) (ai_begin hP) (by decide) (by decide) (by decide) (by decide) (by decide) (Nat.le_of_ble_eq_true rfl) ?_
  refine r_aload_n dX2_copyFrom_68 rfl ?_
  refine m_get 2 5 dX2_copyFrom_69 fl_X2_24 (ob_loans hQ) rfl ?_
  refine r_iconst_0 dX2_copyFrom_72 ?_
  refine r_aload_n dX2_copyFrom_73 rfl ?_
  refine m_get 2 5 dX2_copyFrom_74 fl_X2_24 (ob_loans hP) rfl ?_
  refine r_iconst_0 dX2_copyFrom_77 ?_
  refine r_bipush 8 dX2_copyFrom_78 (by decide) ?_
  refine m_copy 8 dX2_copyFrom_80 ac_X2_31 (ai_ticks hQ) (ai_ticks hP) (by decide) (by decide) (by decide) (by decide) (by decide) (Nat.le_of_ble_eq_true rfl) ?_
  refine r_vret dX2_copyFrom_83 rfl (hq _ _ ⟨rfl, fr_u (fr_u (fr_u (fr_u (fr_u (fr_u fr_r (by omega)) (by omega)) (by omega)) (by omega)) (by omega)) (by omega), by simp [mU, upd], fun k hk => ?_⟩)
  have e := fun i j h1 h2 h3 h4 => (hne i j h1 h2 h3 h4).symm
  simp [mU, hk, e]
theorem c_X3_copyFrom {q : Nat} (hP : PL p) (hQ : PL q) (hne : ∀ i j, 12 ≤ i → i < 15 → 12 ≤ j → j < 15 → p + i ≠ q + j) : PO yX3_copyFrom I_X3_copyFrom [.ref (p + 12), .ref (q + 12)] M L dd none (fun M' L' => L' = L ∧ Fr (p + 12) (p + 15) M M' ∧ M' (p + 12) 0 = M (q + 12) 0 ∧ ∀ k, k < 6 → M' (p + 13) k = M (q + 13) k ∧ M' (p + 14) k = M (q + 14) k) := by
  refine po_mk (fun Q hq => ?_)
  refine a_met (by decide +kernel) rfl rfl (Nat.le_of_ble_eq_true rfl) (by simp [Value.category]) (by decide) rfl ?_
  show AW I_X3_copyFrom 0 [.ref (p + 12), .ref (q + 12)] [] (hS M L dd) 0 0 Q
  refine r_aload_n dX3_copyFrom_0 rfl ?_
  refine r_aload_n dX3_copyFrom_1 rfl ?_
  refine m_get 3 0 dX3_copyFrom_2 fl_X3_18 (ob_machines hQ) rfl ?_
  refine m_put 3 0 dX3_copyFrom_5 fl_X3_18 (fun r hr => by cases hr; rfl) (ob_machines hP) (Nat.le_of_ble_eq_true rfl) rfl ?_
  refine r_aload_n dX3_copyFrom_8 rfl ?_
  refine m_get 3 1 dX3_copyFrom_9 fl_X3_9 (ob_machines hQ) rfl ?_
  refine r_iconst_0 dX3_copyFrom_12 ?_
  refine r_aload_n dX3_copyFrom_13 rfl ?_
  refine m_get 3 1 dX3_copyFrom_14 fl_X3_9 (ob_machines hP) rfl ?_
  refine r_iconst_0 dX3_copyFrom_17 ?_
  refine r_bipush 6 dX3_copyFrom_18 (by decide) ?_
  refine m_copy 6 dX3_copyFrom_20 ac_X3_22 (ai_slots hQ) (ai_slots hP) (by decide) (by decide) (by decide) (by decide) (by decide) (Nat.le_of_ble_eq_true rfl) ?_
  refine r_aload_n dX3_copyFrom_23 rfl ?_
  refine m_get 3 2 dX3_copyFrom_24 fl_X3_15 (ob_machines hQ) rfl ?_
  refine r_iconst_0 dX3_copyFrom_27 ?_
  refine r_aload_n dX3_copyFrom_28 rfl ?_
  refine m_get 3 2 dX3_copyFrom_29 fl_X3_15 (ob_machines hP) rfl ?_
  refine r_iconst_0 dX3_copyFrom_32 ?_
  refine r_bipush 6 dX3_copyFrom_33 (by decide) ?_
  refine m_copy 6 dX3_copyFrom_35 ac_X3_22 (ai_up hQ) (ai_up hP) (by decide) (by decide) (by decide) (by decide) (by decide) (Nat.le_of_ble_eq_true rfl) ?_
  refine r_vret dX3_copyFrom_38 rfl (hq _ _ ⟨rfl, fr_u (fr_u (fr_u fr_r (by omega)) (by omega)) (by omega), by simp [mU, upd], fun k hk => ?_⟩)
  have e := fun i j h1 h2 h3 h4 => (hne i j h1 h2 h3 h4).symm
  simp [mU, hk, e]
theorem c_X1_copyFrom {q : Nat} (hP : PL p) (hQ : PL q) (hne : ∀ i j, 15 ≤ i → i < 23 → 15 ≤ j → j < 23 → p + i ≠ q + j) : PO yX1_copyFrom I_X1_copyFrom [.ref (p + 15), .ref (q + 15)] M L dd none (fun M' L' => L' = L ∧ Fr (p + 15) (p + 23) M M' ∧ M' (p + 15) 0 = M (q + 15) 0 ∧ ∀ k, k < 30 → M' (p + 16) k = M (q + 16) k ∧ M' (p + 17) k = M (q + 17) k ∧ M' (p + 18) k = M (q + 18) k ∧ M' (p + 19) k = M (q + 19) k ∧ M' (p + 20) k = M (q + 20) k ∧ M' (p + 21) k = M (q + 21) k ∧ M' (p + 22) k = M (q + 22) k) := by
  refine po_mk (fun Q hq => ?_)
  refine a_met (by decide +kernel) rfl rfl (Nat.le_of_ble_eq_true rfl) (by simp [Value.category]) (by decide) rfl ?_
  show AW I_X1_copyFrom 0 [.ref (p + 15), .ref (q + 15)] [] (hS M L dd) 0 0 Q
  refine r_aload_n dX1_copyFrom_0 rfl ?_
  refine r_aload_n dX1_copyFrom_1 rfl ?_
  refine m_get 1 0 dX1_copyFrom_2 fl_X1_33 (ob_jobs hQ) rfl ?_
  refine m_put 1 0 dX1_copyFrom_5 fl_X1_33 (fun r hr => by cases hr; rfl) (ob_jobs hP) (Nat.le_of_ble_eq_true rfl) rfl ?_
  refine r_aload_n dX1_copyFrom_8 rfl ?_
  refine m_get 1 1 dX1_copyFrom_9 fl_X1_9 (ob_jobs hQ) rfl ?_
  refine r_iconst_0 dX1_copyFrom_12 ?_
  refine r_aload_n dX1_copyFrom_13 rfl ?_
  refine m_get 1 1 dX1_copyFrom_14 fl_X1_9 (ob_jobs hP) rfl ?_
  refine r_iconst_0 dX1_copyFrom_17 ?_
  refine r_bipush 30 dX1_copyFrom_18 (by decide) ?_
  refine m_copy 30 dX1_copyFrom_20 ac_X1_37 (ai_leaf hQ) (ai_leaf hP) (by decide) (by decide) (by decide) (by decide) (by decide) (Nat.le_of_ble_eq_true rfl) ?_
  refine r_aload_n dX1_copyFrom_23 rfl ?_
  refine m_get 1 2 dX1_copyFrom_24 fl_X1_15 (ob_jobs hQ) rfl ?_
  refine r_iconst_0 dX1_copyFrom_27 ?_
  refine r_aload_n dX1_copyFrom_28 rfl ?_
  refine m_get 1 2 dX1_copyFrom_29 fl_X1_15 (ob_jobs hP) rfl ?_
  refine r_iconst_0 dX1_copyFrom_32 ?_
  refine r_bipush 30 dX1_copyFrom_33 (by decide) ?_
  refine m_copy 30 dX1_copyFrom_35 ac_X1_37 (ai_length hQ) (ai_length hP) (by decide) (by decide) (by decide) (by decide) (by decide) (Nat.le_of_ble_eq_true rfl) ?_
  refine r_aload_n dX1_copyFrom_38 rfl ?_
  refine m_get 1 3 dX1_copyFrom_39 fl_X1_18 (ob_jobs hQ) rfl ?_
  refine r_iconst_0 dX1_copyFrom_42 ?_
  refine r_aload_n dX1_copyFrom_43 rfl ?_
  refine m_get 1 3 dX1_copyFrom_44 fl_X1_18 (ob_jobs hP) rfl ?_
  refine r_iconst_0 dX1_copyFrom_47 ?_
  refine r_bipush 30 dX1_copyFrom_48 (by decide) ?_
  refine m_copy 30 dX1_copyFrom_50 ac_X1_37 (ai_work hQ) (ai_work hP) (by decide) (by decide) (by decide) (by decide) (by decide) (Nat.le_of_ble_eq_true rfl) ?_
  refine r_aload_n dX1_copyFrom_53 rfl ?_
  refine m_get 1 4 dX1_copyFrom_54 fl_X1_21 (ob_jobs hQ) rfl ?_
  refine r_iconst_0 dX1_copyFrom_57 ?_
  refine r_aload_n dX1_copyFrom_58 rfl ?_
  refine m_get 1 4 dX1_copyFrom_59 fl_X1_21 (ob_jobs hP) rfl ?_
  refine r_iconst_0 dX1_copyFrom_62 ?_
  refine r_bipush 30 dX1_copyFrom_63 (by decide) ?_
  refine m_copy 30 dX1_copyFrom_65 ac_X1_37 (ai_state hQ) (ai_state hP) (by decide) (by decide) (by decide) (by decide) (by decide) (Nat.le_of_ble_eq_true rfl) ?_
  refine r_aload_n dX1_copyFrom_68 rfl ?_
  refine m_get 1 5 dX1_copyFrom_69 fl_X1_24 (ob_jobs hQ) rfl ?_
  refine r_iconst_0 dX1_copyFrom_72 ?_
  refine r_aload_n dX1_copyFrom_73 rfl ?_
  refine m_get 1 5 dX1_copyFrom_74 fl_X1_24 (ob_jobs hP) rfl ?_
  refine r_iconst_0 dX1_copyFrom_77 ?_
  refine r_bipush 30 dX1_copyFrom_78 (by decide) ?_
  refine m_copy 30 dX1_copyFrom_80 ac_X1_37 (ai_machine hQ) (ai_machine hP) (by decide) (by decide) (by decide) (by decide) (by decide) (Nat.le_of_ble_eq_true rfl) ?_
  refine r_aload_n dX1_copyFrom_83 rfl ?_
  refine m_get 1 6 dX1_copyFrom_84 fl_X1_27 (ob_jobs hQ) rfl ?_
  refine r_iconst_0 dX1_copyFrom_87 ?_
  refine r_aload_n dX1_copyFrom_88 rfl ?_
  refine m_get 1 6 dX1_copyFrom_89 fl_X1_27 (ob_jobs hP) rfl ?_
  refine r_iconst_0 dX1_copyFrom_92 ?_
  refine r_bipush 30 dX1_copyFrom_93 (by decide) ?_
  refine m_copy 30 dX1_copyFrom_95 ac_X1_37 (ai_ended hQ) (ai_ended hP) (by decide) (by decide) (by decide) (by decide) (by decide) (Nat.le_of_ble_eq_true rfl) ?_
  refine r_aload_n dX1_copyFrom_98 rfl ?_
  refine m_get 1 7 dX1_copyFrom_99 fl_X1_30 (ob_jobs hQ) rfl ?_
  refine r_iconst_0 dX1_copyFrom_102 ?_
  refine r_aload_n dX1_copyFrom_103 rfl ?_
  refine m_get 1 7 dX1_copyFrom_104 fl_X1_30 (ob_jobs hP) rfl ?_
  refine r_iconst_0 dX1_copyFrom_107 ?_
  refine r_bipush 30 dX1_copyFrom_108 (by decide) ?_
  refine m_copy 30 dX1_copyFrom_110 ac_X1_37 (ai_waited hQ) (ai_waited hP) (by decide) (by decide) (by decide) (by decide) (by decide) (Nat.le_of_ble_eq_true rfl) ?_
  refine r_vret dX1_copyFrom_113 rfl (hq _ _ ⟨rfl, fr_u (fr_u (fr_u (fr_u (fr_u (fr_u (fr_u (fr_u fr_r (by omega)) (by omega)) (by omega)) (by omega)) (by omega)) (by omega)) (by omega)) (by omega), by simp [mU, upd], fun k hk => ?_⟩)
  have e := fun i j h1 h2 h3 h4 => (hne i j h1 h2 h3 h4).symm
  simp [mU, hk, e]
theorem c_X2_anyOf {u : Int32} (hP : PL p) (hT : QL M p a) (hn0 : a 7 = nI (nl a)) (h8 : nl a ≤ 8) : AD yX2_anyOf I_X2_anyOf [.ref (p + 6), .int u] (hS M L dd) (.inl (some (.int (bI (anL a u = true))))) (hS M L dd) := by
  intro Q hq
  refine a_met (by decide +kernel) rfl rfl (Nat.le_of_ble_eq_true rfl) (by simp [Value.category]) (by decide) rfl ?_
  show AW I_X2_anyOf 0 [.ref (p + 6), .int u, .null] [] (hS M L dd) 0 0 Q
  have hn := hT.1.trans hn0
  refine r_iconst_0 dX2_anyOf_0 ?_
  refine s_istore_n 2 dX2_anyOf_1 (by decide) rfl rfl ?_
  have lp : ∀ k, k ≤ nl a → anyB (fun l => decide (ln a l 0 = u ∨ ln a l 1 = u)) k = false → AW I_X2_anyOf 2 [.ref (p + 6), .int u, .int (nI k)] [] (hS M L dd) 0 0 Q := by
    refine lp_up _ ?_ ?_
    · intro hz 
      refine r_iload_n dX2_anyOf_2 rfl ?_
      refine r_aload_n dX2_anyOf_3 rfl ?_
      refine m_get 2 0 dX2_anyOf_4 fl_X2_27 (ob_loans hP) rfl ?_
      refine r_icmp_ge 38 dX2_anyOf_7 (by decide) (fun _ => ?_) (fun z => absurd (by rw [hn]; exact nI_le (Nat.le_refl _) (by omega)) z)
      refine r_iconst_0 dX2_anyOf_38 ?_
      exact e_zret dX2_anyOf_39 rfl hq (by rw [bI_f]; simp [hz])
    · intro k hk ih hz 
      have q1 := (hT.2 k hk).1
      have q2 := (hT.2 k hk).2.1
      refine r_iload_n dX2_anyOf_2 rfl ?_
      refine r_aload_n dX2_anyOf_3 rfl ?_
      refine m_get 2 0 dX2_anyOf_4 fl_X2_27 (ob_loans hP) rfl ?_
      refine r_icmp_ge 38 dX2_anyOf_7 (by decide) (fun z => absurd z (by rw [hn]; exact nI_ge hk (by omega))) (fun _ => ?_)
      refine r_aload_n dX2_anyOf_10 rfl ?_
      refine m_get 2 1 dX2_anyOf_11 fl_X2_9 (ob_loans hP) rfl ?_
      refine r_iload_n dX2_anyOf_14 rfl ?_
      refine m_iald k dX2_anyOf_15 (ai_from hP) rfl (by omega) (by first | decide | assumption) ?_
      refine r_iload_n dX2_anyOf_16 rfl ?_
      refine r_icmp_eq 30 dX2_anyOf_17 (by decide) (fun h17 => ?_) (fun h17 => ?_)
      · refine r_iconst_1 dX2_anyOf_30 ?_
        exact e_zret dX2_anyOf_31 rfl hq (by rw [bI_t]; exact anyB_t hk (by simp_all))
      · refine r_aload_n dX2_anyOf_20 rfl ?_
        refine m_get 2 2 dX2_anyOf_21 fl_X2_15 (ob_loans hP) rfl ?_
        refine r_iload_n dX2_anyOf_24 rfl ?_
        refine m_iald k dX2_anyOf_25 (ai_to hP) rfl (by omega) (by first | decide | assumption) ?_
        refine r_iload_n dX2_anyOf_26 rfl ?_
        refine r_icmp_ne 32 dX2_anyOf_27 (by decide) (fun h27 => ?_) (fun h27 => ?_)
        · refine s_iinc dX2_anyOf_32 rfl (by decide) rfl ?_
          refine r_goto 2 dX2_anyOf_35 (by decide) ?_
          refine m_eq (ih ?_) (by simp [nI_succ]) rfl rfl; simp_all [anyB]
        · refine r_iconst_1 dX2_anyOf_30 ?_
          exact e_zret dX2_anyOf_31 rfl hq (by rw [bI_t]; exact anyB_t hk (by simp_all))
  exact lp 0 (Nat.zero_le _) rfl
theorem c_X1_anyOf {u : Int32} (hP : PL p) (hT : QJ M p a) (hn0 : a 6 = nI (nj a)) (h8 : nj a ≤ 30) : AD yX1_anyOf I_X1_anyOf [.ref (p + 15), .int u] (hS M L dd) (.inl (some (.int (bI (anJ a u = true))))) (hS M L dd) := by
  intro Q hq
  refine a_met (by decide +kernel) rfl rfl (Nat.le_of_ble_eq_true rfl) (by simp [Value.category]) (by decide) rfl ?_
  show AW I_X1_anyOf 0 [.ref (p + 15), .int u, .null] [] (hS M L dd) 0 0 Q
  have hn := hT.1.trans hn0
  refine r_iconst_0 dX1_anyOf_0 ?_
  refine s_istore_n 2 dX1_anyOf_1 (by decide) rfl rfl ?_
  have lp : ∀ k, k ≤ nj a → anyB (fun l => decide (jb a l 0 = u)) k = false → AW I_X1_anyOf 2 [.ref (p + 15), .int u, .int (nI k)] [] (hS M L dd) 0 0 Q := by
    refine lp_up _ ?_ ?_
    · intro hz 
      refine r_iload_n dX1_anyOf_2 rfl ?_
      refine r_aload_n dX1_anyOf_3 rfl ?_
      refine m_get 1 0 dX1_anyOf_4 fl_X1_33 (ob_jobs hP) rfl ?_
      refine r_icmp_ge 28 dX1_anyOf_7 (by decide) (fun _ => ?_) (fun z => absurd (by rw [hn]; exact nI_le (Nat.le_refl _) (by omega)) z)
      refine r_iconst_0 dX1_anyOf_28 ?_
      exact e_zret dX1_anyOf_29 rfl hq (by rw [bI_f]; simp [hz])
    · intro k hk ih hz 
      have q1 := (hT.2 k hk).1
      refine r_iload_n dX1_anyOf_2 rfl ?_
      refine r_aload_n dX1_anyOf_3 rfl ?_
      refine m_get 1 0 dX1_anyOf_4 fl_X1_33 (ob_jobs hP) rfl ?_
      refine r_icmp_ge 28 dX1_anyOf_7 (by decide) (fun z => absurd z (by rw [hn]; exact nI_ge hk (by omega))) (fun _ => ?_)
      refine r_aload_n dX1_anyOf_10 rfl ?_
      refine m_get 1 1 dX1_anyOf_11 fl_X1_9 (ob_jobs hP) rfl ?_
      refine r_iload_n dX1_anyOf_14 rfl ?_
      refine m_iald k dX1_anyOf_15 (ai_leaf hP) rfl (by omega) (by first | decide | assumption) ?_
      refine r_iload_n dX1_anyOf_16 rfl ?_
      refine r_icmp_ne 22 dX1_anyOf_17 (by decide) (fun h17 => ?_) (fun h17 => ?_)
      · refine s_iinc dX1_anyOf_22 rfl (by decide) rfl ?_
        refine r_goto 2 dX1_anyOf_25 (by decide) ?_
        refine m_eq (ih ?_) (by simp [nI_succ]) rfl rfl; simp_all [anyB]
      · refine r_iconst_1 dX1_anyOf_20 ?_
        exact e_zret dX1_anyOf_21 rfl hq (by rw [bI_t]; exact anyB_t hk (by simp_all))
  exact lp 0 (Nat.zero_le _) rfl
theorem c_X1_inState {u : Int32} (hP : PL p) (hT : QJ M p a) (hn0 : a 6 = nI (nj a)) (h8 : nj a ≤ 30) : AD yX1_inState I_X1_inState [.ref (p + 15), .int u] (hS M L dd) (.inl (some (.int (inS a u)))) (hS M L dd) := by
  intro Q hq
  refine a_met (by decide +kernel) rfl rfl (Nat.le_of_ble_eq_true rfl) (by simp [Value.category]) (by decide) rfl ?_
  show AW I_X1_inState 0 [.ref (p + 15), .int u, .null, .null] [] (hS M L dd) 0 0 Q
  have hn := hT.1.trans hn0
  refine r_iconst_0 dX1_inState_0 ?_
  refine s_istore_n 2 dX1_inState_1 (by decide) rfl rfl ?_
  refine r_iconst_0 dX1_inState_2 ?_
  refine s_istore_n 3 dX1_inState_3 (by decide) rfl rfl ?_
  have lp : ∀ k, k ≤ nj a → AW I_X1_inState 4 [.ref (p + 15), .int u, .int (sumI (fun j => if jb a j 3 = u then 1 else 0) k), .int (nI k)] [] (hS M L dd) 0 0 Q := by
    refine lp_up _ ?_ ?_
    · refine r_iload_n dX1_inState_4 rfl ?_
      refine r_aload_n dX1_inState_5 rfl ?_
      refine m_get 1 0 dX1_inState_6 fl_X1_33 (ob_jobs hP) rfl ?_
      refine r_icmp_ge 31 dX1_inState_9 (by decide) (fun _ => ?_) (fun z => absurd (by rw [hn]; exact nI_le (Nat.le_refl _) (by omega)) z)
      refine r_iload_n dX1_inState_31 rfl ?_
      exact e_iret dX1_inState_32 rfl hq (rfl)
    · intro k hk ih 
      have q1 := (hT.2 k hk).2.2.2.1
      refine r_iload_n dX1_inState_4 rfl ?_
      refine r_aload_n dX1_inState_5 rfl ?_
      refine m_get 1 0 dX1_inState_6 fl_X1_33 (ob_jobs hP) rfl ?_
      refine r_icmp_ge 31 dX1_inState_9 (by decide) (fun z => absurd z (by rw [hn]; exact nI_ge hk (by omega))) (fun _ => ?_)
      refine r_aload_n dX1_inState_12 rfl ?_
      refine m_get 1 4 dX1_inState_13 fl_X1_21 (ob_jobs hP) rfl ?_
      refine r_iload_n dX1_inState_16 rfl ?_
      refine m_iald k dX1_inState_17 (ai_state hP) rfl (by omega) (by first | decide | assumption) ?_
      refine r_iload_n dX1_inState_18 rfl ?_
      refine r_icmp_ne 25 dX1_inState_19 (by decide) (fun h19 => ?_) (fun h19 => ?_)
      · refine s_iinc dX1_inState_25 rfl (by decide) rfl ?_
        refine r_goto 4 dX1_inState_28 (by decide) ?_
        refine m_eq ih ?_ rfl rfl; rw [q1] at h19; simp [nI_succ, sumI, h19]
      · refine s_iinc dX1_inState_22 rfl (by decide) rfl ?_
        refine s_iinc dX1_inState_25 rfl (by decide) rfl ?_
        refine r_goto 4 dX1_inState_28 (by decide) ?_
        refine m_eq ih ?_ rfl rfl; rw [q1] at h19; simp [nI_succ, sumI, h19]
  exact lp 0 (Nat.zero_le _)
theorem c_X2_dueAt {l : Nat} (hP : PL p) (hT : QL M p a) (hn0 : a 7 = nI (nl a)) (h8 : nl a ≤ 8) (hl : l < nl a) : AD yX2_dueAt I_X2_dueAt [.ref (p + 6), .int (nI l)] (hS M L dd) (.inl (some (.int (duS a l)))) (hS M L dd) := by
  intro Q hq
  refine a_met (by decide +kernel) rfl rfl (Nat.le_of_ble_eq_true rfl) (by simp [Value.category]) (by decide) rfl ?_
  show AW I_X2_dueAt 0 [.ref (p + 6), .int (nI l)] [] (hS M L dd) 0 0 Q
  have hn := hT.1.trans hn0
  obtain ⟨t0, t1, t2, t3, t4⟩ := hT.2 l hl
  refine r_aload_n dX2_dueAt_0 rfl ?_
  refine r_iload_n dX2_dueAt_1 rfl ?_
  refine m_cv1 dX2_dueAt_2 cv_X2_41 (c_X2_has hP) rfl (ob_loans hP) ⟨_, rfl, rfl⟩ ⟨rfl, rfl⟩ (by decide) (by decide) (Nat.le_of_ble_eq_true rfl) ?_
  refine r_if_eq 24 dX2_dueAt_5 (by decide) (fun z => absurd z (by rw [bI_t ⟨nI_pos' (by omega), by rw [hn]; exact nI_lt hl (by omega)⟩]; decide)) (fun _ => ?_)
  refine r_aload_n dX2_dueAt_8 rfl ?_
  refine m_get 2 4 dX2_dueAt_9 fl_X2_21 (ob_loans hP) rfl ?_
  refine r_iload_n dX2_dueAt_12 rfl ?_
  refine m_iald l dX2_dueAt_13 (ai_begin hP) rfl (by omega) (by first | decide | assumption) ?_
  refine r_aload_n dX2_dueAt_14 rfl ?_
  refine m_get 2 5 dX2_dueAt_15 fl_X2_24 (ob_loans hP) rfl ?_
  refine r_iload_n dX2_dueAt_18 rfl ?_
  refine m_iald l dX2_dueAt_19 (ai_ticks hP) rfl (by omega) (by first | decide | assumption) ?_
  refine r_iadd dX2_dueAt_20 ?_
  refine r_goto 25 dX2_dueAt_21 (by decide) ?_
  exact e_iret dX2_dueAt_25 rfl hq (by rw [t3, t4])
theorem c_X2_goneAt {l : Nat} (hP : PL p) (hT : QL M p a) (hn0 : a 7 = nI (nl a)) (h8 : nl a ≤ 8) (hl : l < nl a) : AD yX2_goneAt I_X2_goneAt [.ref (p + 6), .int (nI l)] (hS M L dd) (.inl (some (.int (gnS a l)))) (hS M L dd) := by
  intro Q hq
  refine a_met (by decide +kernel) rfl rfl (Nat.le_of_ble_eq_true rfl) (by simp [Value.category]) (by decide) rfl ?_
  show AW I_X2_goneAt 0 [.ref (p + 6), .int (nI l)] [] (hS M L dd) 0 0 Q
  have hn := hT.1.trans hn0
  obtain ⟨t0, t1, t2, t3, t4⟩ := hT.2 l hl
  refine r_aload_n dX2_goneAt_0 rfl ?_
  refine r_iload_n dX2_goneAt_1 rfl ?_
  refine m_cv1 dX2_goneAt_2 cv_X2_41 (c_X2_has hP) rfl (ob_loans hP) ⟨_, rfl, rfl⟩ ⟨rfl, rfl⟩ (by decide) (by decide) (Nat.le_of_ble_eq_true rfl) ?_
  refine r_if_eq 26 dX2_goneAt_5 (by decide) (fun z => absurd z (by rw [bI_t ⟨nI_pos' (by omega), by rw [hn]; exact nI_lt hl (by omega)⟩]; decide)) (fun _ => ?_)
  refine r_aload_n dX2_goneAt_8 rfl ?_
  refine m_get 2 4 dX2_goneAt_9 fl_X2_21 (ob_loans hP) rfl ?_
  refine r_iload_n dX2_goneAt_12 rfl ?_
  refine m_iald l dX2_goneAt_13 (ai_begin hP) rfl (by omega) (by first | decide | assumption) ?_
  refine r_iconst_2 dX2_goneAt_14 ?_
  refine r_aload_n dX2_goneAt_15 rfl ?_
  refine m_get 2 5 dX2_goneAt_16 fl_X2_24 (ob_loans hP) rfl ?_
  refine r_iload_n dX2_goneAt_19 rfl ?_
  refine m_iald l dX2_goneAt_20 (ai_ticks hP) rfl (by omega) (by first | decide | assumption) ?_
  refine r_imul dX2_goneAt_21 ?_
  refine r_iadd dX2_goneAt_22 ?_
  refine r_goto 27 dX2_goneAt_23 (by decide) ?_
  exact e_iret dX2_goneAt_27 rfl hq (by rw [t3, t4])
theorem c_X2_isLent {l : Nat} {t : Int32} (hP : PL p) (hT : QL M p a) (hn0 : a 7 = nI (nl a)) (h8 : nl a ≤ 8) (hl : l < nl a) : AD yX2_isLent I_X2_isLent [.ref (p + 6), .int (nI l), .int t] (hS M L dd) (.inl (some (.int (bI (t < duS a l))))) (hS M L dd) := by
  intro Q hq
  refine a_met (by decide +kernel) rfl rfl (Nat.le_of_ble_eq_true rfl) (by simp [Value.category]) (by decide) rfl ?_
  show AW I_X2_isLent 0 [.ref (p + 6), .int (nI l), .int t] [] (hS M L dd) 0 0 Q
  refine r_iload_n dX2_isLent_0 rfl ?_
  refine r_aload_n dX2_isLent_1 rfl ?_
  refine r_iload_n dX2_isLent_2 rfl ?_
  refine m_cv1 dX2_isLent_3 cv_X2_45 (c_X2_dueAt hP hT hn0 h8 hl) rfl (ob_loans hP) ⟨_, rfl, rfl⟩ ⟨rfl, rfl⟩ (by decide) (by decide) (Nat.le_of_ble_eq_true rfl) ?_
  refine r_icmp_ge 13 dX2_isLent_6 (by decide) (fun h6 => ?_) (fun h6 => ?_)
  · refine r_iconst_0 dX2_isLent_13 ?_
    exact e_zret dX2_isLent_14 rfl hq (by grind [bI])
  · refine r_iconst_1 dX2_isLent_9 ?_
    refine r_goto 14 dX2_isLent_10 (by decide) ?_
    exact e_zret dX2_isLent_14 rfl hq (by grind [bI])
theorem c_X3_isUp {m : Nat} (hP : PL p) (hT : QM M p a) (hn0 : a 5 = nI (nm a)) (h8 : nm a ≤ 6) (hm : m < nm a) : AD yX3_isUp I_X3_isUp [.ref (p + 12), .int (nI m)] (hS M L dd) (.inl (some (.int (bI (a (52 + m) = 1))))) (hS M L dd) := by
  intro Q hq
  refine a_met (by decide +kernel) rfl rfl (Nat.le_of_ble_eq_true rfl) (by simp [Value.category]) (by decide) rfl ?_
  show AW I_X3_isUp 0 [.ref (p + 12), .int (nI m)] [] (hS M L dd) 0 0 Q
  have hn := hT.1.trans hn0
  obtain ⟨t0, t1⟩ := hT.2 m hm
  refine r_aload_n dX3_isUp_0 rfl ?_
  refine r_iload_n dX3_isUp_1 rfl ?_
  refine m_cv1 dX3_isUp_2 cv_X3_28 (c_X3_has hP) rfl (ob_machines hP) ⟨_, rfl, rfl⟩ ⟨rfl, rfl⟩ (by decide) (by decide) (Nat.le_of_ble_eq_true rfl) ?_
  refine r_if_eq 22 dX3_isUp_5 (by decide) (fun z => absurd z (by rw [bI_t ⟨nI_pos' (by omega), by rw [hn]; exact nI_lt hm (by omega)⟩]; decide)) (fun _ => ?_)
  refine r_aload_n dX3_isUp_8 rfl ?_
  refine m_get 3 2 dX3_isUp_9 fl_X3_15 (ob_machines hP) rfl ?_
  refine r_iload_n dX3_isUp_12 rfl ?_
  refine m_iald m dX3_isUp_13 (ai_up hP) rfl (by omega) (by first | decide | assumption) ?_
  refine r_iconst_1 dX3_isUp_14 ?_
  refine r_icmp_ne 22 dX3_isUp_15 (by decide) (fun h15 => ?_) (fun h15 => ?_)
  · refine r_iconst_0 dX3_isUp_22 ?_
    exact e_zret dX3_isUp_23 rfl hq (by rw [t1] at h15; simp [bI, h15])
  · refine r_iconst_1 dX3_isUp_18 ?_
    refine r_goto 23 dX3_isUp_19 (by decide) ?_
    exact e_zret dX3_isUp_23 rfl hq (by rw [t1] at h15; simp [bI, h15])
theorem c_X1_isOpen {j : Nat} (hP : PL p) (hT : QJ M p a) (hn0 : a 6 = nI (nj a)) (h8 : nj a ≤ 30) (hj : j < nj a) : AD yX1_isOpen I_X1_isOpen [.ref (p + 15), .int (nI j)] (hS M L dd) (.inl (some (.int (bI (jb a j 3 = 0 ∨ jb a j 3 = 1))))) (hS M L dd) := by
  intro Q hq
  refine a_met (by decide +kernel) rfl rfl (Nat.le_of_ble_eq_true rfl) (by simp [Value.category]) (by decide) rfl ?_
  show AW I_X1_isOpen 0 [.ref (p + 15), .int (nI j)] [] (hS M L dd) 0 0 Q
  have hn := hT.1.trans hn0
  have t := (hT.2 j hj).2.2.2.1
  refine r_aload_n dX1_isOpen_0 rfl ?_
  refine r_iload_n dX1_isOpen_1 rfl ?_
  refine m_cv1 dX1_isOpen_2 cv_X1_43 (c_X1_has hP) rfl (ob_jobs hP) ⟨_, rfl, rfl⟩ ⟨rfl, rfl⟩ (by decide) (by decide) (Nat.le_of_ble_eq_true rfl) ?_
  refine r_if_eq 31 dX1_isOpen_5 (by decide) (fun z => absurd z (by rw [bI_t ⟨nI_pos' (by omega), by rw [hn]; exact nI_lt hj (by omega)⟩]; decide)) (fun _ => ?_)
  refine r_aload_n dX1_isOpen_8 rfl ?_
  refine m_get 1 4 dX1_isOpen_9 fl_X1_21 (ob_jobs hP) rfl ?_
  refine r_iload_n dX1_isOpen_12 rfl ?_
  refine m_iald j dX1_isOpen_13 (ai_state hP) rfl (by omega) (by first | decide | assumption) ?_
  refine r_if_eq 27 dX1_isOpen_14 (by decide) (fun h14 => ?_) (fun h14 => ?_)
  · refine r_iconst_1 dX1_isOpen_27 ?_
    refine r_goto 32 dX1_isOpen_28 (by decide) ?_
    exact e_zret dX1_isOpen_32 rfl hq (by rw [t] at *; simp_all [bI])
  · refine r_aload_n dX1_isOpen_17 rfl ?_
    refine m_get 1 4 dX1_isOpen_18 fl_X1_21 (ob_jobs hP) rfl ?_
    refine r_iload_n dX1_isOpen_21 rfl ?_
    refine m_iald j dX1_isOpen_22 (ai_state hP) rfl (by omega) (by first | decide | assumption) ?_
    refine r_iconst_1 dX1_isOpen_23 ?_
    refine r_icmp_ne 31 dX1_isOpen_24 (by decide) (fun h24 => ?_) (fun h24 => ?_)
    · refine r_iconst_0 dX1_isOpen_31 ?_
      exact e_zret dX1_isOpen_32 rfl hq (by rw [t] at *; simp_all [bI])
    · refine r_iconst_1 dX1_isOpen_27 ?_
      refine r_goto 32 dX1_isOpen_28 (by decide) ?_
      exact e_zret dX1_isOpen_32 rfl hq (by rw [t] at *; simp_all [bI])
theorem c_X1_runsOn {j : Nat} {m : Int32} (hP : PL p) (hT : QJ M p a) (hn0 : a 6 = nI (nj a)) (h8 : nj a ≤ 30) (hj : j < nj a) : AD yX1_runsOn I_X1_runsOn [.ref (p + 15), .int (nI j), .int m] (hS M L dd) (.inl (some (.int (bI (jb a j 3 = 1 ∧ jb a j 4 = m))))) (hS M L dd) := by
  intro Q hq
  refine a_met (by decide +kernel) rfl rfl (Nat.le_of_ble_eq_true rfl) (by simp [Value.category]) (by decide) rfl ?_
  show AW I_X1_runsOn 0 [.ref (p + 15), .int (nI j), .int m] [] (hS M L dd) 0 0 Q
  have hn := hT.1.trans hn0
  have t := (hT.2 j hj).2.2.2.1
  have t2 := (hT.2 j hj).2.2.2.2.1
  refine r_aload_n dX1_runsOn_0 rfl ?_
  refine r_iload_n dX1_runsOn_1 rfl ?_
  refine m_cv1 dX1_runsOn_2 cv_X1_43 (c_X1_has hP) rfl (ob_jobs hP) ⟨_, rfl, rfl⟩ ⟨rfl, rfl⟩ (by decide) (by decide) (Nat.le_of_ble_eq_true rfl) ?_
  refine r_if_eq 32 dX1_runsOn_5 (by decide) (fun z => absurd z (by rw [bI_t ⟨nI_pos' (by omega), by rw [hn]; exact nI_lt hj (by omega)⟩]; decide)) (fun _ => ?_)
  refine r_aload_n dX1_runsOn_8 rfl ?_
  refine m_get 1 4 dX1_runsOn_9 fl_X1_21 (ob_jobs hP) rfl ?_
  refine r_iload_n dX1_runsOn_12 rfl ?_
  refine m_iald j dX1_runsOn_13 (ai_state hP) rfl (by omega) (by first | decide | assumption) ?_
  refine r_iconst_1 dX1_runsOn_14 ?_
  refine r_icmp_ne 32 dX1_runsOn_15 (by decide) (fun h15 => ?_) (fun h15 => ?_)
  · refine r_iconst_0 dX1_runsOn_32 ?_
    exact e_zret dX1_runsOn_33 rfl hq (by simp_all [bI])
  · refine r_aload_n dX1_runsOn_18 rfl ?_
    refine m_get 1 5 dX1_runsOn_19 fl_X1_24 (ob_jobs hP) rfl ?_
    refine r_iload_n dX1_runsOn_22 rfl ?_
    refine m_iald j dX1_runsOn_23 (ai_machine hP) rfl (by omega) (by first | decide | assumption) ?_
    refine r_iload_n dX1_runsOn_24 rfl ?_
    refine r_icmp_ne 32 dX1_runsOn_25 (by decide) (fun h25 => ?_) (fun h25 => ?_)
    · refine r_iconst_0 dX1_runsOn_32 ?_
      exact e_zret dX1_runsOn_33 rfl hq (by simp_all [bI])
    · refine r_iconst_1 dX1_runsOn_28 ?_
      refine r_goto 33 dX1_runsOn_29 (by decide) ?_
      exact e_zret dX1_runsOn_33 rfl hq (by simp_all [bI])
theorem c_X3_add {s : Int32} (hP : PL p) (hT : QM M p a) (hn0 : a 5 = nI (nm a)) (h6 : nm a < 6) : PO yX3_add I_X3_add [.ref (p + 12), .int s] M L dd none (fun M' L' => L' = L ∧ Fr (p + 12) (p + 15) M M' ∧ QM M' p (adM a s)) := by
  refine po_mk (fun Q hq => ?_)
  refine a_met (by decide +kernel) rfl rfl (Nat.le_of_ble_eq_true rfl) (by simp [Value.category]) (by decide) rfl ?_
  show AW I_X3_add 0 [.ref (p + 12), .int s] [] (hS M L dd) 0 0 Q
  have e := hT.1.trans hn0
  refine r_aload_n dX3_add_0 rfl ?_
  refine m_cv0 dX3_add_1 cv_X3_32 (c_X3_isFull hP) rfl (ob_machines hP) ⟨_, rfl, rfl⟩ ⟨rfl, rfl⟩ (by decide) (by decide) (Nat.le_of_ble_eq_true rfl) ?_
  refine r_if_eq 8 dX3_add_4 (by decide) (fun _ => ?_) (fun z => absurd (bI_f (by rw [e]; exact nI_ge h6 (by decide))) z)
  refine r_aload_n dX3_add_8 rfl ?_
  refine m_get 3 1 dX3_add_9 fl_X3_9 (ob_machines hP) rfl ?_
  refine r_aload_n dX3_add_12 rfl ?_
  refine m_get 3 0 dX3_add_13 fl_X3_18 (ob_machines hP) rfl ?_
  refine r_iload_n dX3_add_16 rfl ?_
  refine m_iast (nm a) dX3_add_17 (ai_slots hP) (by simp [mU, e]) (by omega) (by first | decide | assumption) ?_
  refine r_aload_n dX3_add_18 rfl ?_
  refine m_get 3 2 dX3_add_19 fl_X3_15 (ob_machines hP) rfl ?_
  refine r_aload_n dX3_add_22 rfl ?_
  refine m_get 3 0 dX3_add_23 fl_X3_18 (ob_machines hP) rfl ?_
  refine r_iconst_1 dX3_add_26 ?_
  refine m_iast (nm a) dX3_add_27 (ai_up hP) (by simp [mU, e]) (by omega) (by first | decide | assumption) ?_
  refine r_aload_n dX3_add_28 rfl ?_
  refine r_dup dX3_add_29 rfl ?_
  refine m_get 3 0 dX3_add_30 fl_X3_18 (ob_machines hP) rfl ?_
  refine r_iconst_1 dX3_add_33 ?_
  refine r_iadd dX3_add_34 ?_
  refine m_put 3 0 dX3_add_35 fl_X3_18 (fun r hr => by cases hr; rfl) (ob_machines hP) (Nat.le_of_ble_eq_true rfl) rfl ?_
  refine r_vret dX3_add_38 rfl (hq _ _ ⟨rfl, fr_u (fr_u (fr_u fr_r (by omega)) (by omega)) (by omega), by simp [mU, upd, adM, hT.1], fun k hk => ?_⟩)
  have e3 : nm (adM a s) = nm a + 1 := by show zN (upd _ 5 (a 5 + 1) 5) = nm a + 1; rw [upd_eq, hn0, nI_1, zN, nI_clamp (by omega)]
  rw [e3] at hk
  by_cases hkn : k = nm a
  · subst hkn
    simp [mU, adM, upd]
    omega
  · obtain ⟨t1, t2⟩ := hT.2 k (by omega)
    have n1 : ¬ 46 + k = 5 := by omega
    have n2 : ¬ 52 + k = 5 := by omega
    have n3 : ¬ 46 + k = 52 + nm a := by omega
    have n4 : ¬ 52 + k = 46 + nm a := by omega
    simp [mU, adM, upd, hkn, t1, t2, n1, n2, n3, n4]
theorem c_X3_turn {m : Nat} {b : Int32} (hP : PL p) (hT : QM M p a) (hn0 : a 5 = nI (nm a)) (h6 : nm a ≤ 6) (hm : m < nm a) : PO yX3_turn I_X3_turn [.ref (p + 12), .int (nI m), .int b] M L dd none (fun M' L' => L' = L ∧ Fr (p + 12) (p + 15) M M' ∧ QM M' p (upd a (52 + m) (if b = 0 then 0 else 1))) := by
  refine po_mk (fun Q hq => ?_)
  refine a_met (by decide +kernel) rfl rfl (Nat.le_of_ble_eq_true rfl) (by simp [Value.category]) (by decide) rfl ?_
  show AW I_X3_turn 0 [.ref (p + 12), .int (nI m), .int b] [] (hS M L dd) 0 0 Q
  have e := hT.1.trans hn0
  have key : ∀ v : Int32, Fr (p + 12) (p + 15) M (mU M (p + 14) (upd (M (p + 14)) m v)) ∧ QM (mU M (p + 14) (upd (M (p + 14)) m v)) p (upd a (52 + m) v) := by
    intro v
    refine ⟨fr_u fr_r (by omega), by simp [mU, upd, hT.1]; omega, fun k hk => ?_⟩
    have hk2 : k < nm a := by
      have e3 : upd a (52 + m) v 5 = a 5 := upd_ne (by omega)
      rw [nm, e3] at hk; exact hk
    obtain ⟨t1, t2⟩ := hT.2 k hk2
    have n1 : ¬ 46 + k = 52 + m := by omega
    by_cases hkm : k = m
    · subst hkm; simp [mU, upd, t1, n1]
    · simp [mU, upd, t1, t2, n1, hkm]
  refine r_aload_n dX3_turn_0 rfl ?_
  refine r_iload_n dX3_turn_1 rfl ?_
  refine m_cv1 dX3_turn_2 cv_X3_28 (c_X3_has hP) rfl (ob_machines hP) ⟨_, rfl, rfl⟩ ⟨rfl, rfl⟩ (by decide) (by decide) (Nat.le_of_ble_eq_true rfl) ?_
  refine r_if_eq 23 dX3_turn_5 (by decide) (fun z => absurd z (by rw [bI_t ⟨nI_pos' (by omega), by rw [e]; exact nI_lt hm (by omega)⟩]; decide)) (fun _ => ?_)
  refine r_aload_n dX3_turn_8 rfl ?_
  refine m_get 3 2 dX3_turn_9 fl_X3_15 (ob_machines hP) rfl ?_
  refine r_iload_n dX3_turn_12 rfl ?_
  refine r_iload_n dX3_turn_13 rfl ?_
  refine r_if_eq 21 dX3_turn_14 (by decide) (fun h14 => ?_) (fun h14 => ?_)
  · refine r_iconst_0 dX3_turn_21 ?_
    refine m_iast m dX3_turn_22 (ai_up hP) rfl (by omega) (by first | decide | assumption) ?_
    first | exact r_vret dX3_turn_23 rfl (hq _ _ ⟨rfl, by rw [if_pos h14]; exact key 0⟩) | exact r_vret dX3_turn_23 rfl (hq _ _ ⟨rfl, by rw [if_neg h14]; exact key 1⟩)
  · refine r_iconst_1 dX3_turn_17 ?_
    refine r_goto 22 dX3_turn_18 (by decide) ?_
    refine m_iast m dX3_turn_22 (ai_up hP) rfl (by omega) (by first | decide | assumption) ?_
    first | exact r_vret dX3_turn_23 rfl (hq _ _ ⟨rfl, by rw [if_pos h14]; exact key 0⟩) | exact r_vret dX3_turn_23 rfl (hq _ _ ⟨rfl, by rw [if_neg h14]; exact key 1⟩)
theorem c_X2_add {u v t0 s q : Int32} (hP : PL p) (hT : QL M p a) (hn0 : a 7 = nI (nl a)) (h6 : nl a < 8) (ht : t0 = a 0) : PO yX2_add I_X2_add [.ref (p + 6), .int u, .int v, .int s, .int t0, .int q] M L dd none (fun M' L' => L' = L ∧ Fr (p + 6) (p + 12) M M' ∧ QL M' p (adL a u v s q)) := by
  refine po_mk (fun Q hq => ?_)
  refine a_met (by decide +kernel) rfl rfl (Nat.le_of_ble_eq_true rfl) (by simp [Value.category]) (by decide) rfl ?_
  show AW I_X2_add 0 [.ref (p + 6), .int u, .int v, .int s, .int t0, .int q] [] (hS M L dd) 0 0 Q
  have e := hT.1.trans hn0
  refine r_aload_n dX2_add_0 rfl ?_
  refine m_cv0 dX2_add_1 cv_X2_37 (c_X2_isFull hP) rfl (ob_loans hP) ⟨_, rfl, rfl⟩ ⟨rfl, rfl⟩ (by decide) (by decide) (Nat.le_of_ble_eq_true rfl) ?_
  refine r_if_eq 8 dX2_add_4 (by decide) (fun _ => ?_) (fun z => absurd (bI_f (by rw [e]; exact nI_ge h6 (by decide))) z)
  refine r_aload_n dX2_add_8 rfl ?_
  refine m_get 2 1 dX2_add_9 fl_X2_9 (ob_loans hP) rfl ?_
  refine r_aload_n dX2_add_12 rfl ?_
  refine m_get 2 0 dX2_add_13 fl_X2_27 (ob_loans hP) rfl ?_
  refine r_iload_n dX2_add_16 rfl ?_
  refine m_iast (nl a) dX2_add_17 (ai_from hP) (by simp [mU, e]) (by omega) (by first | decide | assumption) ?_
  refine r_aload_n dX2_add_18 rfl ?_
  refine m_get 2 2 dX2_add_19 fl_X2_15 (ob_loans hP) rfl ?_
  refine r_aload_n dX2_add_22 rfl ?_
  refine m_get 2 0 dX2_add_23 fl_X2_27 (ob_loans hP) rfl ?_
  refine r_iload_n dX2_add_26 rfl ?_
  refine m_iast (nl a) dX2_add_27 (ai_to hP) (by simp [mU, e]) (by omega) (by first | decide | assumption) ?_
  refine r_aload_n dX2_add_28 rfl ?_
  refine m_get 2 3 dX2_add_29 fl_X2_18 (ob_loans hP) rfl ?_
  refine r_aload_n dX2_add_32 rfl ?_
  refine m_get 2 0 dX2_add_33 fl_X2_27 (ob_loans hP) rfl ?_
  refine r_iload_n dX2_add_36 rfl ?_
  refine m_iast (nl a) dX2_add_37 (ai_ltickets hP) (by simp [mU, e]) (by omega) (by first | decide | assumption) ?_
  refine r_aload_n dX2_add_38 rfl ?_
  refine m_get 2 4 dX2_add_39 fl_X2_21 (ob_loans hP) rfl ?_
  refine r_aload_n dX2_add_42 rfl ?_
  refine m_get 2 0 dX2_add_43 fl_X2_27 (ob_loans hP) rfl ?_
  refine r_iload dX2_add_46 rfl ?_
  refine m_iast (nl a) dX2_add_48 (ai_begin hP) (by simp [mU, e]) (by omega) (by first | decide | assumption) ?_
  refine r_aload_n dX2_add_49 rfl ?_
  refine m_get 2 5 dX2_add_50 fl_X2_24 (ob_loans hP) rfl ?_
  refine r_aload_n dX2_add_53 rfl ?_
  refine m_get 2 0 dX2_add_54 fl_X2_27 (ob_loans hP) rfl ?_
  refine r_iload dX2_add_57 rfl ?_
  refine m_iast (nl a) dX2_add_59 (ai_ticks hP) (by simp [mU, e]) (by omega) (by first | decide | assumption) ?_
  refine r_aload_n dX2_add_60 rfl ?_
  refine r_dup dX2_add_61 rfl ?_
  refine m_get 2 0 dX2_add_62 fl_X2_27 (ob_loans hP) rfl ?_
  refine r_iconst_1 dX2_add_65 ?_
  refine r_iadd dX2_add_66 ?_
  refine m_put 2 0 dX2_add_67 fl_X2_27 (fun r hr => by cases hr; rfl) (ob_loans hP) (Nat.le_of_ble_eq_true rfl) rfl ?_
  refine r_vret dX2_add_70 rfl (hq _ _ ⟨rfl, fr_u (fr_u (fr_u (fr_u (fr_u (fr_u fr_r (by omega)) (by omega)) (by omega)) (by omega)) (by omega)) (by omega), by simp [mU, upd, adL, hT.1], fun k hk => ?_⟩)
  have e3 : nl (adL a u v s q) = nl a + 1 := by show zN (upd _ 7 (a 7 + 1) 7) = nl a + 1; rw [upd_eq, hn0, nI_1, zN, nI_clamp (by omega)]
  rw [e3] at hk
  have g : ∀ f, f < 5 → adL a u v s q (268 + 5 * k + f) = if k = nl a then [u, v, s, a 0, q].getD f 0 else ln a k f := by
    intro f hf
    unfold adL
    rw [upd_ne (by omega)]
    simp only [layL]
    by_cases hkn : k = nl a
    · subst hkn
      rw [if_pos rfl]
      rcases f with _ | _ | _ | _ | _ | f
      · rw [upd_ne (by omega), upd_ne (by omega), upd_ne (by omega), upd_ne (by omega), upd_eq]; rfl
      · rw [upd_ne (by omega), upd_ne (by omega), upd_ne (by omega), upd_eq]; rfl
      · rw [upd_ne (by omega), upd_ne (by omega), upd_eq]; rfl
      · rw [upd_ne (by omega), upd_eq]; rfl
      · rw [upd_eq]; rfl
      · omega
    · rw [if_neg hkn, upd_ne (by omega), upd_ne (by omega), upd_ne (by omega), upd_ne (by omega), upd_ne (by omega)]
  simp only [ln]
  rw [g 0 (by omega), g 1 (by omega), g 2 (by omega), g 3 (by omega), g 4 (by omega)]
  by_cases hkn : k = nl a
  · subst hkn
    simp [mU, upd, ht]
  · obtain ⟨t0, t1, t2, t3, t4⟩ := hT.2 k (by omega)
    simp [mU, upd, hkn, t0, t1, t2, t3, t4]
theorem c_X1_add {u len : Int32} (hP : PL p) (hT : QJ M p a) (hn0 : a 6 = nI (nj a)) (h6 : nj a < 30) : PO yX1_add I_X1_add [.ref (p + 15), .int u, .int len] M L dd none (fun M' L' => L' = L ∧ Fr (p + 15) (p + 23) M M' ∧ QJ M' p (adJ a u len)) := by
  refine po_mk (fun Q hq => ?_)
  refine a_met (by decide +kernel) rfl rfl (Nat.le_of_ble_eq_true rfl) (by simp [Value.category]) (by decide) rfl ?_
  show AW I_X1_add 0 [.ref (p + 15), .int u, .int len] [] (hS M L dd) 0 0 Q
  have e := hT.1.trans hn0
  refine r_aload_n dX1_add_0 rfl ?_
  refine m_cv0 dX1_add_1 cv_X1_47 (c_X1_isFull hP) rfl (ob_jobs hP) ⟨_, rfl, rfl⟩ ⟨rfl, rfl⟩ (by decide) (by decide) (Nat.le_of_ble_eq_true rfl) ?_
  refine r_if_eq 8 dX1_add_4 (by decide) (fun _ => ?_) (fun z => absurd (bI_f (by rw [e]; exact nI_ge h6 (by decide))) z)
  refine r_aload_n dX1_add_8 rfl ?_
  refine m_get 1 1 dX1_add_9 fl_X1_9 (ob_jobs hP) rfl ?_
  refine r_aload_n dX1_add_12 rfl ?_
  refine m_get 1 0 dX1_add_13 fl_X1_33 (ob_jobs hP) rfl ?_
  refine r_iload_n dX1_add_16 rfl ?_
  refine m_iast (nj a) dX1_add_17 (ai_leaf hP) (by simp [mU, e]) (by omega) (by first | decide | assumption) ?_
  refine r_aload_n dX1_add_18 rfl ?_
  refine m_get 1 2 dX1_add_19 fl_X1_15 (ob_jobs hP) rfl ?_
  refine r_aload_n dX1_add_22 rfl ?_
  refine m_get 1 0 dX1_add_23 fl_X1_33 (ob_jobs hP) rfl ?_
  refine r_iload_n dX1_add_26 rfl ?_
  refine m_iast (nj a) dX1_add_27 (ai_length hP) (by simp [mU, e]) (by omega) (by first | decide | assumption) ?_
  refine r_aload_n dX1_add_28 rfl ?_
  refine m_get 1 3 dX1_add_29 fl_X1_18 (ob_jobs hP) rfl ?_
  refine r_aload_n dX1_add_32 rfl ?_
  refine m_get 1 0 dX1_add_33 fl_X1_33 (ob_jobs hP) rfl ?_
  refine r_iconst_0 dX1_add_36 ?_
  refine m_iast (nj a) dX1_add_37 (ai_work hP) (by simp [mU, e]) (by omega) (by first | decide | assumption) ?_
  refine r_aload_n dX1_add_38 rfl ?_
  refine m_get 1 4 dX1_add_39 fl_X1_21 (ob_jobs hP) rfl ?_
  refine r_aload_n dX1_add_42 rfl ?_
  refine m_get 1 0 dX1_add_43 fl_X1_33 (ob_jobs hP) rfl ?_
  refine r_iconst_0 dX1_add_46 ?_
  refine m_iast (nj a) dX1_add_47 (ai_state hP) (by simp [mU, e]) (by omega) (by first | decide | assumption) ?_
  refine r_aload_n dX1_add_48 rfl ?_
  refine m_get 1 5 dX1_add_49 fl_X1_24 (ob_jobs hP) rfl ?_
  refine r_aload_n dX1_add_52 rfl ?_
  refine m_get 1 0 dX1_add_53 fl_X1_33 (ob_jobs hP) rfl ?_
  refine r_iconst_m1 dX1_add_56 ?_
  refine m_iast (nj a) dX1_add_57 (ai_machine hP) (by simp [mU, e]) (by omega) (by first | decide | assumption) ?_
  refine r_aload_n dX1_add_58 rfl ?_
  refine m_get 1 6 dX1_add_59 fl_X1_27 (ob_jobs hP) rfl ?_
  refine r_aload_n dX1_add_62 rfl ?_
  refine m_get 1 0 dX1_add_63 fl_X1_33 (ob_jobs hP) rfl ?_
  refine r_iconst_m1 dX1_add_66 ?_
  refine m_iast (nj a) dX1_add_67 (ai_ended hP) (by simp [mU, e]) (by omega) (by first | decide | assumption) ?_
  refine r_aload_n dX1_add_68 rfl ?_
  refine m_get 1 7 dX1_add_69 fl_X1_30 (ob_jobs hP) rfl ?_
  refine r_aload_n dX1_add_72 rfl ?_
  refine m_get 1 0 dX1_add_73 fl_X1_33 (ob_jobs hP) rfl ?_
  refine r_iconst_0 dX1_add_76 ?_
  refine m_iast (nj a) dX1_add_77 (ai_waited hP) (by simp [mU, e]) (by omega) (by first | decide | assumption) ?_
  refine r_aload_n dX1_add_78 rfl ?_
  refine r_dup dX1_add_79 rfl ?_
  refine m_get 1 0 dX1_add_80 fl_X1_33 (ob_jobs hP) rfl ?_
  refine r_iconst_1 dX1_add_83 ?_
  refine r_iadd dX1_add_84 ?_
  refine m_put 1 0 dX1_add_85 fl_X1_33 (fun r hr => by cases hr; rfl) (ob_jobs hP) (Nat.le_of_ble_eq_true rfl) rfl ?_
  refine r_vret dX1_add_88 rfl (hq _ _ ⟨rfl, fr_u (fr_u (fr_u (fr_u (fr_u (fr_u (fr_u (fr_u fr_r (by omega)) (by omega)) (by omega)) (by omega)) (by omega)) (by omega)) (by omega)) (by omega), by simp [mU, upd, adJ, hT.1], fun k hk => ?_⟩)
  have e3 : nj (adJ a u len) = nj a + 1 := by show zN (upd _ 6 (a 6 + 1) 6) = nj a + 1; rw [upd_eq, hn0, nI_1, zN, nI_clamp (by omega)]
  rw [e3] at hk
  have g : ∀ f, f < 7 → adJ a u len (58 + 7 * k + f) = if k = nj a then [u, len, 0, 0, -1, -1, 0].getD f 0 else jb a k f := by
    intro f hf
    unfold adJ
    rw [upd_ne (by omega)]
    simp only [layJ]
    by_cases hkn : k = nj a
    · subst hkn
      rw [if_pos rfl]
      rcases f with _ | _ | _ | _ | _ | _ | _ | f
      · rw [upd_ne (by omega), upd_ne (by omega), upd_ne (by omega), upd_ne (by omega), upd_ne (by omega), upd_ne (by omega), upd_eq]; rfl
      · rw [upd_ne (by omega), upd_ne (by omega), upd_ne (by omega), upd_ne (by omega), upd_ne (by omega), upd_eq]; rfl
      · rw [upd_ne (by omega), upd_ne (by omega), upd_ne (by omega), upd_ne (by omega), upd_eq]; rfl
      · rw [upd_ne (by omega), upd_ne (by omega), upd_ne (by omega), upd_eq]; rfl
      · rw [upd_ne (by omega), upd_ne (by omega), upd_eq]; rfl
      · rw [upd_ne (by omega), upd_eq]; rfl
      · rw [upd_eq]; rfl
      · omega
    · rw [if_neg hkn, upd_ne (by omega), upd_ne (by omega), upd_ne (by omega), upd_ne (by omega), upd_ne (by omega), upd_ne (by omega), upd_ne (by omega)]
  simp only [jb]
  rw [g 0 (by omega), g 1 (by omega), g 2 (by omega), g 3 (by omega), g 4 (by omega), g 5 (by omega), g 6 (by omega)]
  by_cases hkn : k = nj a
  · subst hkn
    simp [mU, upd]
  · obtain ⟨t0, t1, t2, t3, t4, t5, t6⟩ := hT.2 k (by omega)
    simp [mU, upd, hkn, t0, t1, t2, t3, t4, t5, t6]
theorem c_X1_start {j : Nat} {m : Int32} (hP : PL p) (hT : QJ M p a) (hn0 : a 6 = nI (nj a)) (h8 : nj a ≤ 30) (hj : j < nj a) : PO yX1_start I_X1_start [.ref (p + 15), .int (nI j), .int m] M L dd none (fun M' L' => L' = L ∧ Fr (p + 15) (p + 23) M M' ∧ QJ M' p (runS a j m)) := by
  refine po_mk (fun Q hq => ?_)
  refine a_met (by decide +kernel) rfl rfl (Nat.le_of_ble_eq_true rfl) (by simp [Value.category]) (by decide) rfl ?_
  show AW I_X1_start 0 [.ref (p + 15), .int (nI j), .int m] [] (hS M L dd) 0 0 Q
  have hn := hT.1.trans hn0
  refine r_aload_n dX1_start_0 rfl ?_
  refine r_iload_n dX1_start_1 rfl ?_
  refine m_cv1 dX1_start_2 cv_X1_43 (c_X1_has hP) rfl (ob_jobs hP) ⟨_, rfl, rfl⟩ ⟨rfl, rfl⟩ (by decide) (by decide) (Nat.le_of_ble_eq_true rfl) ?_
  refine r_if_eq 22 dX1_start_5 (by decide) (fun z => absurd z (by rw [bI_t ⟨nI_pos' (by omega), by rw [hn]; exact nI_lt hj (by omega)⟩]; decide)) (fun _ => ?_)
  refine r_aload_n dX1_start_8 rfl ?_
  refine m_get 1 4 dX1_start_9 fl_X1_21 (ob_jobs hP) rfl ?_
  refine r_iload_n dX1_start_12 rfl ?_
  refine r_iconst_1 dX1_start_13 ?_
  refine m_iast j dX1_start_14 (ai_state hP) rfl (by omega) (by first | decide | assumption) ?_
  refine r_aload_n dX1_start_15 rfl ?_
  refine m_get 1 5 dX1_start_16 fl_X1_24 (ob_jobs hP) rfl ?_
  refine r_iload_n dX1_start_19 rfl ?_
  refine r_iload_n dX1_start_20 rfl ?_
  refine m_iast j dX1_start_21 (ai_machine hP) rfl (by omega) (by first | decide | assumption) ?_
  exact r_vret dX1_start_22 rfl (hq _ _ ⟨rfl, fr_u (fr_u fr_r (by omega)) (by omega), qj_lay 4 (qj_lay 3 hT hj h8 (by omega)) (by rw [nj_lay]; exact hj) (by rw [nj_lay]; exact h8) (by omega)⟩)
theorem c_X1_end {j : Nat} {s t : Int32} (hP : PL p) (hT : QJ M p a) (hn0 : a 6 = nI (nj a)) (h8 : nj a ≤ 30) (hj : j < nj a) (ht : t = a 0) : PO yX1_end I_X1_end [.ref (p + 15), .int (nI j), .int s, .int t] M L dd none (fun M' L' => L' = L ∧ Fr (p + 15) (p + 23) M M' ∧ QJ M' p (endS a j s)) := by
  subst ht
  refine po_mk (fun Q hq => ?_)
  refine a_met (by decide +kernel) rfl rfl (Nat.le_of_ble_eq_true rfl) (by simp [Value.category]) (by decide) rfl ?_
  show AW I_X1_end 0 [.ref (p + 15), .int (nI j), .int s, .int (a 0)] [] (hS M L dd) 0 0 Q
  have hn := hT.1.trans hn0
  refine r_aload_n dX1_end_0 rfl ?_
  refine r_iload_n dX1_end_1 rfl ?_
  refine m_cv1 dX1_end_2 cv_X1_43 (c_X1_has hP) rfl (ob_jobs hP) ⟨_, rfl, rfl⟩ ⟨rfl, rfl⟩ (by decide) (by decide) (Nat.le_of_ble_eq_true rfl) ?_
  refine r_if_eq 29 dX1_end_5 (by decide) (fun z => absurd z (by rw [bI_t ⟨nI_pos' (by omega), by rw [hn]; exact nI_lt hj (by omega)⟩]; decide)) (fun _ => ?_)
  refine r_aload_n dX1_end_8 rfl ?_
  refine m_get 1 4 dX1_end_9 fl_X1_21 (ob_jobs hP) rfl ?_
  refine r_iload_n dX1_end_12 rfl ?_
  refine r_iload_n dX1_end_13 rfl ?_
  refine m_iast j dX1_end_14 (ai_state hP) rfl (by omega) (by first | decide | assumption) ?_
  refine r_aload_n dX1_end_15 rfl ?_
  refine m_get 1 5 dX1_end_16 fl_X1_24 (ob_jobs hP) rfl ?_
  refine r_iload_n dX1_end_19 rfl ?_
  refine r_iconst_m1 dX1_end_20 ?_
  refine m_iast j dX1_end_21 (ai_machine hP) rfl (by omega) (by first | decide | assumption) ?_
  refine r_aload_n dX1_end_22 rfl ?_
  refine m_get 1 6 dX1_end_23 fl_X1_27 (ob_jobs hP) rfl ?_
  refine r_iload_n dX1_end_26 rfl ?_
  refine r_iload_n dX1_end_27 rfl ?_
  refine m_iast j dX1_end_28 (ai_ended hP) rfl (by omega) (by first | decide | assumption) ?_
  exact r_vret dX1_end_29 rfl (hq _ _ ⟨rfl, fr_u (fr_u (fr_u fr_r (by omega)) (by omega)) (by omega), qj_lay 5 (qj_lay 4 (qj_lay 3 hT hj h8 (by omega)) (by rw [nj_lay]; exact hj) (by rw [nj_lay]; exact h8) (by omega)) (by rw [nj_lay, nj_lay]; exact hj) (by rw [nj_lay, nj_lay]; exact h8) (by omega)⟩)
theorem c_X1_stop {j : Nat} {w : Int32} (hP : PL p) (hT : QJ M p a) (hn0 : a 6 = nI (nj a)) (h8 : nj a ≤ 30) (hj : j < nj a) : PO yX1_stop I_X1_stop [.ref (p + 15), .int (nI j), .int w] M L dd none (fun M' L' => L' = L ∧ Fr (p + 15) (p + 23) M M' ∧ QJ M' p (layJ (layJ (layJ a j 3 0) j 4 (-1)) j 2 w)) := by
  refine po_mk (fun Q hq => ?_)
  refine a_met (by decide +kernel) rfl rfl (Nat.le_of_ble_eq_true rfl) (by simp [Value.category]) (by decide) rfl ?_
  show AW I_X1_stop 0 [.ref (p + 15), .int (nI j), .int w] [] (hS M L dd) 0 0 Q
  have hn := hT.1.trans hn0
  refine r_aload_n dX1_stop_0 rfl ?_
  refine r_iload_n dX1_stop_1 rfl ?_
  refine m_cv1 dX1_stop_2 cv_X1_43 (c_X1_has hP) rfl (ob_jobs hP) ⟨_, rfl, rfl⟩ ⟨rfl, rfl⟩ (by decide) (by decide) (Nat.le_of_ble_eq_true rfl) ?_
  refine r_if_eq 29 dX1_stop_5 (by decide) (fun z => absurd z (by rw [bI_t ⟨nI_pos' (by omega), by rw [hn]; exact nI_lt hj (by omega)⟩]; decide)) (fun _ => ?_)
  refine r_aload_n dX1_stop_8 rfl ?_
  refine m_get 1 4 dX1_stop_9 fl_X1_21 (ob_jobs hP) rfl ?_
  refine r_iload_n dX1_stop_12 rfl ?_
  refine r_iconst_0 dX1_stop_13 ?_
  refine m_iast j dX1_stop_14 (ai_state hP) rfl (by omega) (by first | decide | assumption) ?_
  refine r_aload_n dX1_stop_15 rfl ?_
  refine m_get 1 5 dX1_stop_16 fl_X1_24 (ob_jobs hP) rfl ?_
  refine r_iload_n dX1_stop_19 rfl ?_
  refine r_iconst_m1 dX1_stop_20 ?_
  refine m_iast j dX1_stop_21 (ai_machine hP) rfl (by omega) (by first | decide | assumption) ?_
  refine r_aload_n dX1_stop_22 rfl ?_
  refine m_get 1 3 dX1_stop_23 fl_X1_18 (ob_jobs hP) rfl ?_
  refine r_iload_n dX1_stop_26 rfl ?_
  refine r_iload_n dX1_stop_27 rfl ?_
  refine m_iast j dX1_stop_28 (ai_work hP) rfl (by omega) (by first | decide | assumption) ?_
  exact r_vret dX1_stop_29 rfl (hq _ _ ⟨rfl, fr_u (fr_u (fr_u fr_r (by omega)) (by omega)) (by omega), qj_lay 2 (qj_lay 4 (qj_lay 3 hT hj h8 (by omega)) (by rw [nj_lay]; exact hj) (by rw [nj_lay]; exact h8) (by omega)) (by rw [nj_lay, nj_lay]; exact hj) (by rw [nj_lay, nj_lay]; exact h8) (by omega)⟩)
end LJM
