/-! THE CHECK'S OWN CLASS: what it reads off its row -/
theorem ix_j (j f : Nat) : (58 : Int32) + 7 * nI j + nI f = nI (58 + 7 * j + f) := by
  rw [show (58 : Int32) = nI 58 from rfl, show (7 : Int32) = nI 7 from rfl, pk_mul, nI_add, nI_add]
theorem ix_l (l f : Nat) : (268 : Int32) + 5 * nI l + nI f = nI (268 + 5 * l + f) := by
  rw [show (268 : Int32) = nI 268 from rfl, show (5 : Int32) = nI 5 from rfl, pk_mul, nI_add, nI_add]
section MODEL1
variable {M : Nat → Nat → Int32} {L : Nat → Nat → Int64} {dd : UInt64} {a : Nat → Int32}
theorem c_X10_isIn {v lo hi : Int32} : AD yX10_isIn I_X10_isIn [.int v, .int lo, .int hi] (hS M L dd) (.inl (some (.int (bI (lo ≤ v ∧ v ≤ hi))))) (hS M L dd) := by
  intro Q hq
  refine a_met (by decide +kernel) rfl rfl (Nat.le_of_ble_eq_true rfl) (by simp [Value.category]) (by decide) rfl ?_
  show AW I_X10_isIn 0 [.int v, .int lo, .int hi] [] (hS M L dd) 0 0 Q
  refine r_iload_n dX10_isIn_0 rfl ?_
  refine r_iload_n dX10_isIn_1 rfl ?_
  refine r_icmp_lt 14 dX10_isIn_2 (by decide) (fun h2 => ?_) (fun h2 => ?_)
  · refine r_iconst_0 dX10_isIn_14 ?_
    exact e_zret dX10_isIn_15 rfl hq (by grind [bI])
  · refine r_iload_n dX10_isIn_5 rfl ?_
    refine r_iload_n dX10_isIn_6 rfl ?_
    refine r_icmp_gt 14 dX10_isIn_7 (by decide) (fun h7 => ?_) (fun h7 => ?_)
    · refine r_iconst_0 dX10_isIn_14 ?_
      exact e_zret dX10_isIn_15 rfl hq (by grind [bI])
    · refine r_iconst_1 dX10_isIn_10 ?_
      refine r_goto 15 dX10_isIn_11 (by decide) ?_
      exact e_zret dX10_isIn_15 rfl hq (by grind [bI])
theorem c_X10_of {j f : Nat} (hA : M 318 = a) (hj : j < 30) (hf : f < 7) : AD yX10_of I_X10_of [.ref 317, .int (nI j), .int (nI f)] (hS M L dd) (.inl (some (.int (jb a j f)))) (hS M L dd) := by
  subst hA
  intro Q hq
  refine a_met (by decide +kernel) rfl rfl (Nat.le_of_ble_eq_true rfl) (by simp [Value.category]) (by decide) rfl ?_
  show AW I_X10_of 0 [.ref 317, .int (nI j), .int (nI f)] [] (hS M L dd) 0 0 Q
  refine r_aload_n dX10_of_0 rfl ?_
  refine m_get 10 0 dX10_of_1 fl_X10_7 ob_model rfl ?_
  refine r_bipush 58 dX10_of_4 (by decide) ?_
  refine r_bipush 7 dX10_of_6 (by decide) ?_
  refine r_iload_n dX10_of_8 rfl ?_
  refine r_imul dX10_of_9 ?_
  refine r_iadd dX10_of_10 ?_
  refine r_iload_n dX10_of_11 rfl ?_
  refine r_iadd dX10_of_12 ?_
  refine m_iald (58 + 7 * j + f) dX10_of_13 ai_a (ix_j j f) (by omega) (by first | decide | assumption) ?_
  exact e_iret dX10_of_14 rfl hq (rfl)
theorem c_X10_lent {l f : Nat} (hA : M 318 = a) (hj : l < 8) (hf : f < 5) : AD yX10_lent I_X10_lent [.ref 317, .int (nI l), .int (nI f)] (hS M L dd) (.inl (some (.int (ln a l f)))) (hS M L dd) := by
  subst hA
  intro Q hq
  refine a_met (by decide +kernel) rfl rfl (Nat.le_of_ble_eq_true rfl) (by simp [Value.category]) (by decide) rfl ?_
  show AW I_X10_lent 0 [.ref 317, .int (nI l), .int (nI f)] [] (hS M L dd) 0 0 Q
  refine r_aload_n dX10_lent_0 rfl ?_
  refine m_get 10 0 dX10_lent_1 fl_X10_7 ob_model rfl ?_
  refine r_sipush 268 dX10_lent_4 (by decide) ?_
  refine r_iconst_5 dX10_lent_7 ?_
  refine r_iload_n dX10_lent_8 rfl ?_
  refine r_imul dX10_lent_9 ?_
  refine r_iadd dX10_lent_10 ?_
  refine r_iload_n dX10_lent_11 rfl ?_
  refine r_iadd dX10_lent_12 ?_
  refine m_iald (268 + 5 * l + f) dX10_lent_13 ai_a (ix_l l f) (by omega) (by first | decide | assumption) ?_
  exact e_iret dX10_lent_14 rfl hq (rfl)
theorem le_pred {u x : Int32} {n : Nat} (hx : x = nI n) (hn : n < 1000) (h0 : 0 ≤ u) : u ≤ x - 1 ↔ u < x := by
  subst hx
  obtain ⟨j, hj, rfl⟩ := nI_of (x := u) (by rw [Int32.not_lt]; exact h0)
  rw [nI_ltI hj (by omega)]
  by_cases h : n = 0
  · subst h
    rw [Int32.le_iff_toInt_le, nI_toInt hj]
    have : (nI 0 - 1).toInt = -1 := by decide
    omega
  · rw [show (1 : Int32) = nI 1 from rfl, pk_sub (by omega), nI_leI hj (by omega)]
    omega
theorem c_X10_isUser {u : Int32} (hA : M 318 = a) (h0 : a 4 = nI (nu a)) (hn : nu a ≤ 12) : AD yX10_isUser I_X10_isUser [.ref 317, .int u] (hS M L dd) (.inl (some (.int (bI (0 ≤ u ∧ u < a 4))))) (hS M L dd) := by
  subst hA
  intro Q hq
  refine a_met (by decide +kernel) rfl rfl (Nat.le_of_ble_eq_true rfl) (by simp [Value.category]) (by decide) rfl ?_
  show AW I_X10_isUser 0 [.ref 317, .int u] [] (hS M L dd) 0 0 Q
  refine r_iload_n dX10_isUser_0 rfl ?_
  refine r_iconst_0 dX10_isUser_1 ?_
  refine r_aload_n dX10_isUser_2 rfl ?_
  refine m_get 10 0 dX10_isUser_3 fl_X10_7 ob_model rfl ?_
  refine r_iconst_4 dX10_isUser_6 ?_
  refine m_iald 4 dX10_isUser_7 ai_a rfl (by omega) (by first | decide | assumption) ?_
  refine r_iconst_1 dX10_isUser_8 ?_
  refine r_isub dX10_isUser_9 ?_
  refine m_cs3 dX10_isUser_10 cs_X10_54 (c_X10_isIn) rfl ⟨rfl, rfl⟩ (by decide) (by decide) (Nat.le_of_ble_eq_true rfl) ?_
  exact e_zret dX10_isUser_13 rfl hq (by unfold bI; by_cases z : 0 ≤ u <;> simp [z, le_pred h0 (by omega)])
theorem c_X10_isMachine {u : Int32} (hA : M 318 = a) (h0 : a 5 = nI (nm a)) (hn : nm a ≤ 6) : AD yX10_isMachine I_X10_isMachine [.ref 317, .int u] (hS M L dd) (.inl (some (.int (bI (0 ≤ u ∧ u < a 5))))) (hS M L dd) := by
  subst hA
  intro Q hq
  refine a_met (by decide +kernel) rfl rfl (Nat.le_of_ble_eq_true rfl) (by simp [Value.category]) (by decide) rfl ?_
  show AW I_X10_isMachine 0 [.ref 317, .int u] [] (hS M L dd) 0 0 Q
  refine r_iload_n dX10_isMachine_0 rfl ?_
  refine r_iconst_0 dX10_isMachine_1 ?_
  refine r_aload_n dX10_isMachine_2 rfl ?_
  refine m_get 10 0 dX10_isMachine_3 fl_X10_7 ob_model rfl ?_
  refine r_iconst_5 dX10_isMachine_6 ?_
  refine m_iald 5 dX10_isMachine_7 ai_a rfl (by omega) (by first | decide | assumption) ?_
  refine r_iconst_1 dX10_isMachine_8 ?_
  refine r_isub dX10_isMachine_9 ?_
  refine m_cs3 dX10_isMachine_10 cs_X10_54 (c_X10_isIn) rfl ⟨rfl, rfl⟩ (by decide) (by decide) (Nat.le_of_ble_eq_true rfl) ?_
  exact e_zret dX10_isMachine_13 rfl hq (by unfold bI; by_cases z : 0 ≤ u <;> simp [z, le_pred h0 (by omega)])
theorem c_X10_isJob {u : Int32} (hA : M 318 = a) (h0 : a 6 = nI (nj a)) (hn : nj a ≤ 30) : AD yX10_isJob I_X10_isJob [.ref 317, .int u] (hS M L dd) (.inl (some (.int (bI (0 ≤ u ∧ u < a 6))))) (hS M L dd) := by
  subst hA
  intro Q hq
  refine a_met (by decide +kernel) rfl rfl (Nat.le_of_ble_eq_true rfl) (by simp [Value.category]) (by decide) rfl ?_
  show AW I_X10_isJob 0 [.ref 317, .int u] [] (hS M L dd) 0 0 Q
  refine r_iload_n dX10_isJob_0 rfl ?_
  refine r_iconst_0 dX10_isJob_1 ?_
  refine r_aload_n dX10_isJob_2 rfl ?_
  refine m_get 10 0 dX10_isJob_3 fl_X10_7 ob_model rfl ?_
  refine r_bipush 6 dX10_isJob_6 (by decide) ?_
  refine m_iald 6 dX10_isJob_8 ai_a rfl (by omega) (by first | decide | assumption) ?_
  refine r_iconst_1 dX10_isJob_9 ?_
  refine r_isub dX10_isJob_10 ?_
  refine m_cs3 dX10_isJob_11 cs_X10_54 (c_X10_isIn) rfl ⟨rfl, rfl⟩ (by decide) (by decide) (Nat.le_of_ble_eq_true rfl) ?_
  exact e_zret dX10_isJob_14 rfl hq (by unfold bI; by_cases z : 0 ≤ u <;> simp [z, le_pred h0 (by omega)])
theorem c_X10_childrenOf {u : Int32} (hA : M 318 = a) (h0 : a 4 = nI (nu a)) (h12 : nu a ≤ 12) : AD yX10_childrenOf I_X10_childrenOf [.ref 317, .int u] (hS M L dd) (.inl (some (.int (chS a u)))) (hS M L dd) := by
  subst hA
  intro Q hq
  refine a_met (by decide +kernel) rfl rfl (Nat.le_of_ble_eq_true rfl) (by simp [Value.category]) (by decide) rfl ?_
  show AW I_X10_childrenOf 0 [.ref 317, .int u, .null, .null] [] (hS M L dd) 0 0 Q
  refine r_iconst_0 dX10_childrenOf_0 ?_
  refine s_istore_n 2 dX10_childrenOf_1 (by decide) rfl rfl ?_
  refine r_iconst_0 dX10_childrenOf_2 ?_
  refine s_istore_n 3 dX10_childrenOf_3 (by decide) rfl rfl ?_
  have lp : ∀ k, k ≤ nu (M 318) → AW I_X10_childrenOf 4 [.ref 317, .int u, .int (sumI (fun k => if M 318 (10 + k) = u then 1 else 0) k), .int (nI k)] [] (hS M L dd) 0 0 Q := by
    refine lp_up _ ?_ ?_
    · refine r_iload_n dX10_childrenOf_4 rfl ?_
      refine r_aload_n dX10_childrenOf_5 rfl ?_
      refine m_get 10 0 dX10_childrenOf_6 fl_X10_7 ob_model rfl ?_
      refine r_iconst_4 dX10_childrenOf_9 ?_
      refine m_iald 4 dX10_childrenOf_10 ai_a rfl (by omega) (by first | decide | assumption) ?_
      refine r_icmp_ge 41 dX10_childrenOf_11 (by decide) (fun _ => ?_) (fun z => absurd (by rw [h0]; exact nI_le (Nat.le_refl _) (by omega)) z)
      refine r_iload_n dX10_childrenOf_41 rfl ?_
      exact e_iret dX10_childrenOf_42 rfl hq (rfl)
    · intro k hk ih 
      refine r_iload_n dX10_childrenOf_4 rfl ?_
      refine r_aload_n dX10_childrenOf_5 rfl ?_
      refine m_get 10 0 dX10_childrenOf_6 fl_X10_7 ob_model rfl ?_
      refine r_iconst_4 dX10_childrenOf_9 ?_
      refine m_iald 4 dX10_childrenOf_10 ai_a rfl (by omega) (by first | decide | assumption) ?_
      refine r_icmp_ge 41 dX10_childrenOf_11 (by decide) (fun z => absurd z (by rw [h0]; exact nI_ge hk (by omega))) (fun _ => ?_)
      refine r_iload_n dX10_childrenOf_14 rfl ?_
      refine r_aload_n dX10_childrenOf_15 rfl ?_
      refine m_get 10 0 dX10_childrenOf_16 fl_X10_7 ob_model rfl ?_
      refine r_bipush 10 dX10_childrenOf_19 (by decide) ?_
      refine r_iload_n dX10_childrenOf_21 rfl ?_
      refine r_iadd dX10_childrenOf_22 ?_
      refine m_iald (10 + k) dX10_childrenOf_23 ai_a (nI_add 10 k) (by omega) (by first | decide | assumption) ?_
      refine r_iload_n dX10_childrenOf_24 rfl ?_
      refine r_icmp_ne 32 dX10_childrenOf_25 (by decide) (fun h25 => ?_) (fun h25 => ?_)
      · refine r_iconst_0 dX10_childrenOf_32 ?_
        refine r_iadd dX10_childrenOf_33 ?_
        refine s_istore_n 2 dX10_childrenOf_34 (by decide) rfl rfl ?_
        refine s_iinc dX10_childrenOf_35 rfl (by decide) rfl ?_
        refine r_goto 4 dX10_childrenOf_38 (by decide) ?_
        exact m_sub ih (by simp [a_sub, sumI, nI_succ, h25])
      · refine r_iconst_1 dX10_childrenOf_28 ?_
        refine r_goto 33 dX10_childrenOf_29 (by decide) ?_
        refine r_iadd dX10_childrenOf_33 ?_
        refine s_istore_n 2 dX10_childrenOf_34 (by decide) rfl rfl ?_
        refine s_iinc dX10_childrenOf_35 rfl (by decide) rfl ?_
        refine r_goto 4 dX10_childrenOf_38 (by decide) ?_
        exact m_sub ih (by simp [a_sub, sumI, nI_succ, h25])
  exact m_sub (lp 0 (Nat.zero_le _)) (by simp [a_sub, sumI, nI_0])
theorem c_X10_isLeaf {u : Nat} (hA : M 318 = a) (h0 : a 4 = nI (nu a)) (h12 : nu a ≤ 12) : AD yX10_isLeaf I_X10_isLeaf [.ref 317, .int (nI u)] (hS M L dd) (.inl (some (.int (bI (lfS a u))))) (hS M L dd) := by
  subst hA
  intro Q hq
  refine a_met (by decide +kernel) rfl rfl (Nat.le_of_ble_eq_true rfl) (by simp [Value.category]) (by decide) rfl ?_
  show AW I_X10_isLeaf 0 [.ref 317, .int (nI u)] [] (hS M L dd) 0 0 Q
  refine r_aload_n dX10_isLeaf_0 rfl ?_
  refine r_iload_n dX10_isLeaf_1 rfl ?_
  refine m_cv1 dX10_isLeaf_2 cv_X10_172 (c_X10_childrenOf rfl h0 h12) rfl ob_model ⟨_, rfl, rfl⟩ ⟨rfl, rfl⟩ (by decide) (by decide) (Nat.le_of_ble_eq_true rfl) ?_
  refine r_if_ne 12 dX10_isLeaf_5 (by decide) (fun h5 => ?_) (fun h5 => ?_)
  · refine r_iconst_0 dX10_isLeaf_12 ?_
    exact e_zret dX10_isLeaf_13 rfl hq (by grind [bI])
  · refine r_iconst_1 dX10_isLeaf_8 ?_
    refine r_goto 13 dX10_isLeaf_9 (by decide) ?_
    exact e_zret dX10_isLeaf_13 rfl hq (by grind [bI])
theorem c_X10_hasJobs {u : Int32} (hA : M 318 = a) (h0 : a 6 = nI (nj a)) (h30 : nj a ≤ 30) : AD yX10_hasJobs I_X10_hasJobs [.ref 317, .int u] (hS M L dd) (.inl (some (.int (bI (anJ a u = true))))) (hS M L dd) := by
  subst hA
  intro Q hq
  refine a_met (by decide +kernel) rfl rfl (Nat.le_of_ble_eq_true rfl) (by simp [Value.category]) (by decide) rfl ?_
  show AW I_X10_hasJobs 0 [.ref 317, .int u, .null, .null] [] (hS M L dd) 0 0 Q
  refine r_iconst_0 dX10_hasJobs_0 ?_
  refine s_istore_n 2 dX10_hasJobs_1 (by decide) rfl rfl ?_
  refine r_iconst_0 dX10_hasJobs_2 ?_
  refine s_istore_n 3 dX10_hasJobs_3 (by decide) rfl rfl ?_
  have lp : ∀ k, k ≤ nj (M 318) → AW I_X10_hasJobs 4 [.ref 317, .int u, .int (bI (anyB (fun j => decide (jb (M 318) j 0 = u)) k = true)), .int (nI k)] [] (hS M L dd) 0 0 Q := by
    refine lp_up _ ?_ ?_
    · refine r_iload_n dX10_hasJobs_4 rfl ?_
      refine r_aload_n dX10_hasJobs_5 rfl ?_
      refine m_get 10 0 dX10_hasJobs_6 fl_X10_7 ob_model rfl ?_
      refine r_bipush 6 dX10_hasJobs_9 (by decide) ?_
      refine m_iald 6 dX10_hasJobs_11 ai_a rfl (by omega) (by first | decide | assumption) ?_
      refine r_icmp_ge 41 dX10_hasJobs_12 (by decide) (fun _ => ?_) (fun z => absurd (by rw [h0]; exact nI_le (Nat.le_refl _) (by omega)) z)
      refine r_iload_n dX10_hasJobs_41 rfl ?_
      exact e_zret dX10_hasJobs_42 rfl hq (rfl)
    · intro k hk ih 
      refine r_iload_n dX10_hasJobs_4 rfl ?_
      refine r_aload_n dX10_hasJobs_5 rfl ?_
      refine m_get 10 0 dX10_hasJobs_6 fl_X10_7 ob_model rfl ?_
      refine r_bipush 6 dX10_hasJobs_9 (by decide) ?_
      refine m_iald 6 dX10_hasJobs_11 ai_a rfl (by omega) (by first | decide | assumption) ?_
      refine r_icmp_ge 41 dX10_hasJobs_12 (by decide) (fun z => absurd z (by rw [h0]; exact nI_ge hk (by omega))) (fun _ => ?_)
      refine r_iload_n dX10_hasJobs_15 rfl ?_
      refine r_if_ne 29 dX10_hasJobs_16 (by decide) (fun h16 => ?_) (fun h16 => ?_)
      · refine r_iconst_1 dX10_hasJobs_29 ?_
        refine r_goto 34 dX10_hasJobs_30 (by decide) ?_
        refine s_istore_n 2 dX10_hasJobs_34 (by decide) rfl rfl ?_
        refine s_iinc dX10_hasJobs_35 rfl (by decide) rfl ?_
        refine r_goto 4 dX10_hasJobs_38 (by decide) ?_
        exact m_sub ih (by rw [bI_0] at h16; simp_all [a_sub, nI_succ, anyB, bI])
      · refine r_aload_n dX10_hasJobs_19 rfl ?_
        refine r_iload_n dX10_hasJobs_20 rfl ?_
        refine r_iconst_0 dX10_hasJobs_21 ?_
        refine m_cv2 dX10_hasJobs_22 cv_X10_175 (c_X10_of (f := 0) rfl (by omega) (by omega)) rfl ob_model ⟨_, rfl, rfl⟩ ⟨rfl, rfl⟩ (by decide) (by decide) (Nat.le_of_ble_eq_true rfl) ?_
        refine r_iload_n dX10_hasJobs_25 rfl ?_
        refine r_icmp_ne 33 dX10_hasJobs_26 (by decide) (fun h26 => ?_) (fun h26 => ?_)
        · refine r_iconst_0 dX10_hasJobs_33 ?_
          refine s_istore_n 2 dX10_hasJobs_34 (by decide) rfl rfl ?_
          refine s_iinc dX10_hasJobs_35 rfl (by decide) rfl ?_
          refine r_goto 4 dX10_hasJobs_38 (by decide) ?_
          exact m_sub ih (by rw [bI_0] at h16; simp_all [a_sub, nI_succ, anyB, bI])
        · refine r_iconst_1 dX10_hasJobs_29 ?_
          refine r_goto 34 dX10_hasJobs_30 (by decide) ?_
          refine s_istore_n 2 dX10_hasJobs_34 (by decide) rfl rfl ?_
          refine s_iinc dX10_hasJobs_35 rfl (by decide) rfl ?_
          refine r_goto 4 dX10_hasJobs_38 (by decide) ?_
          exact m_sub ih (by rw [bI_0] at h16; simp_all [a_sub, nI_succ, anyB, bI])
  exact m_sub (lp 0 (Nat.zero_le _)) (by simp [a_sub, anyB, nI_0, bI])
theorem c_X10_hasLoan {u : Int32} (hA : M 318 = a) (h0 : a 7 = nI (nl a)) (h8 : nl a ≤ 8) : AD yX10_hasLoan I_X10_hasLoan [.ref 317, .int u] (hS M L dd) (.inl (some (.int (bI (anL a u = true))))) (hS M L dd) := by
  subst hA
  intro Q hq
  refine a_met (by decide +kernel) rfl rfl (Nat.le_of_ble_eq_true rfl) (by simp [Value.category]) (by decide) rfl ?_
  show AW I_X10_hasLoan 0 [.ref 317, .int u, .null, .null] [] (hS M L dd) 0 0 Q
  refine r_iconst_0 dX10_hasLoan_0 ?_
  refine s_istore_n 2 dX10_hasLoan_1 (by decide) rfl rfl ?_
  refine r_iconst_0 dX10_hasLoan_2 ?_
  refine s_istore_n 3 dX10_hasLoan_3 (by decide) rfl rfl ?_
  have lp : ∀ k, k ≤ nl (M 318) → AW I_X10_hasLoan 4 [.ref 317, .int u, .int (bI (anyB (fun l => decide (ln (M 318) l 0 = u ∨ ln (M 318) l 1 = u)) k = true)), .int (nI k)] [] (hS M L dd) 0 0 Q := by
    refine lp_up _ ?_ ?_
    · refine r_iload_n dX10_hasLoan_4 rfl ?_
      refine r_aload_n dX10_hasLoan_5 rfl ?_
      refine m_get 10 0 dX10_hasLoan_6 fl_X10_7 ob_model rfl ?_
      refine r_bipush 7 dX10_hasLoan_9 (by decide) ?_
      refine m_iald 7 dX10_hasLoan_11 ai_a rfl (by omega) (by first | decide | assumption) ?_
      refine r_icmp_ge 51 dX10_hasLoan_12 (by decide) (fun _ => ?_) (fun z => absurd (by rw [h0]; exact nI_le (Nat.le_refl _) (by omega)) z)
      refine r_iload_n dX10_hasLoan_51 rfl ?_
      exact e_zret dX10_hasLoan_52 rfl hq (rfl)
    · intro k hk ih 
      refine r_iload_n dX10_hasLoan_4 rfl ?_
      refine r_aload_n dX10_hasLoan_5 rfl ?_
      refine m_get 10 0 dX10_hasLoan_6 fl_X10_7 ob_model rfl ?_
      refine r_bipush 7 dX10_hasLoan_9 (by decide) ?_
      refine m_iald 7 dX10_hasLoan_11 ai_a rfl (by omega) (by first | decide | assumption) ?_
      refine r_icmp_ge 51 dX10_hasLoan_12 (by decide) (fun z => absurd z (by rw [h0]; exact nI_ge hk (by omega))) (fun _ => ?_)
      refine r_iload_n dX10_hasLoan_15 rfl ?_
      refine r_if_ne 39 dX10_hasLoan_16 (by decide) (fun h16 => ?_) (fun h16 => ?_)
      · refine r_iconst_1 dX10_hasLoan_39 ?_
        refine r_goto 44 dX10_hasLoan_40 (by decide) ?_
        refine s_istore_n 2 dX10_hasLoan_44 (by decide) rfl rfl ?_
        refine s_iinc dX10_hasLoan_45 rfl (by decide) rfl ?_
        refine r_goto 4 dX10_hasLoan_48 (by decide) ?_
        exact m_sub ih (by rw [bI_0] at h16; simp_all [a_sub, nI_succ, anyB, bI])
      · refine r_aload_n dX10_hasLoan_19 rfl ?_
        refine r_iload_n dX10_hasLoan_20 rfl ?_
        refine r_iconst_0 dX10_hasLoan_21 ?_
        refine m_cv2 dX10_hasLoan_22 cv_X10_178 (c_X10_lent (f := 0) rfl (by omega) (by omega)) rfl ob_model ⟨_, rfl, rfl⟩ ⟨rfl, rfl⟩ (by decide) (by decide) (Nat.le_of_ble_eq_true rfl) ?_
        refine r_iload_n dX10_hasLoan_25 rfl ?_
        refine r_icmp_eq 39 dX10_hasLoan_26 (by decide) (fun h26 => ?_) (fun h26 => ?_)
        · refine r_iconst_1 dX10_hasLoan_39 ?_
          refine r_goto 44 dX10_hasLoan_40 (by decide) ?_
          refine s_istore_n 2 dX10_hasLoan_44 (by decide) rfl rfl ?_
          refine s_iinc dX10_hasLoan_45 rfl (by decide) rfl ?_
          refine r_goto 4 dX10_hasLoan_48 (by decide) ?_
          exact m_sub ih (by rw [bI_0] at h16; simp_all [a_sub, nI_succ, anyB, bI])
        · refine r_aload_n dX10_hasLoan_29 rfl ?_
          refine r_iload_n dX10_hasLoan_30 rfl ?_
          refine r_iconst_1 dX10_hasLoan_31 ?_
          refine m_cv2 dX10_hasLoan_32 cv_X10_178 (c_X10_lent (f := 1) rfl (by omega) (by omega)) rfl ob_model ⟨_, rfl, rfl⟩ ⟨rfl, rfl⟩ (by decide) (by decide) (Nat.le_of_ble_eq_true rfl) ?_
          refine r_iload_n dX10_hasLoan_35 rfl ?_
          refine r_icmp_ne 43 dX10_hasLoan_36 (by decide) (fun h36 => ?_) (fun h36 => ?_)
          · refine r_iconst_0 dX10_hasLoan_43 ?_
            refine s_istore_n 2 dX10_hasLoan_44 (by decide) rfl rfl ?_
            refine s_iinc dX10_hasLoan_45 rfl (by decide) rfl ?_
            refine r_goto 4 dX10_hasLoan_48 (by decide) ?_
            exact m_sub ih (by rw [bI_0] at h16; simp_all [a_sub, nI_succ, anyB, bI])
          · refine r_iconst_1 dX10_hasLoan_39 ?_
            refine r_goto 44 dX10_hasLoan_40 (by decide) ?_
            refine s_istore_n 2 dX10_hasLoan_44 (by decide) rfl rfl ?_
            refine s_iinc dX10_hasLoan_45 rfl (by decide) rfl ?_
            refine r_goto 4 dX10_hasLoan_48 (by decide) ?_
            exact m_sub ih (by rw [bI_0] at h16; simp_all [a_sub, nI_succ, anyB, bI])
  exact m_sub (lp 0 (Nat.zero_le _)) (by simp [a_sub, anyB, nI_0, bI])
theorem c_X10_inState {u : Int32} (hA : M 318 = a) (h0 : a 6 = nI (nj a)) (h30 : nj a ≤ 30) : AD yX10_inState I_X10_inState [.ref 317, .int u] (hS M L dd) (.inl (some (.int (inS a u)))) (hS M L dd) := by
  subst hA
  intro Q hq
  refine a_met (by decide +kernel) rfl rfl (Nat.le_of_ble_eq_true rfl) (by simp [Value.category]) (by decide) rfl ?_
  show AW I_X10_inState 0 [.ref 317, .int u, .null, .null] [] (hS M L dd) 0 0 Q
  refine r_iconst_0 dX10_inState_0 ?_
  refine s_istore_n 2 dX10_inState_1 (by decide) rfl rfl ?_
  refine r_iconst_0 dX10_inState_2 ?_
  refine s_istore_n 3 dX10_inState_3 (by decide) rfl rfl ?_
  have lp : ∀ k, k ≤ nj (M 318) → AW I_X10_inState 4 [.ref 317, .int u, .int (sumI (fun j => if jb (M 318) j 3 = u then 1 else 0) k), .int (nI k)] [] (hS M L dd) 0 0 Q := by
    refine lp_up _ ?_ ?_
    · refine r_iload_n dX10_inState_4 rfl ?_
      refine r_aload_n dX10_inState_5 rfl ?_
      refine m_get 10 0 dX10_inState_6 fl_X10_7 ob_model rfl ?_
      refine r_bipush 6 dX10_inState_9 (by decide) ?_
      refine m_iald 6 dX10_inState_11 ai_a rfl (by omega) (by first | decide | assumption) ?_
      refine r_icmp_ge 39 dX10_inState_12 (by decide) (fun _ => ?_) (fun z => absurd (by rw [h0]; exact nI_le (Nat.le_refl _) (by omega)) z)
      refine r_iload_n dX10_inState_39 rfl ?_
      exact e_iret dX10_inState_40 rfl hq (rfl)
    · intro k hk ih 
      refine r_iload_n dX10_inState_4 rfl ?_
      refine r_aload_n dX10_inState_5 rfl ?_
      refine m_get 10 0 dX10_inState_6 fl_X10_7 ob_model rfl ?_
      refine r_bipush 6 dX10_inState_9 (by decide) ?_
      refine m_iald 6 dX10_inState_11 ai_a rfl (by omega) (by first | decide | assumption) ?_
      refine r_icmp_ge 39 dX10_inState_12 (by decide) (fun z => absurd z (by rw [h0]; exact nI_ge hk (by omega))) (fun _ => ?_)
      refine r_iload_n dX10_inState_15 rfl ?_
      refine r_aload_n dX10_inState_16 rfl ?_
      refine r_iload_n dX10_inState_17 rfl ?_
      refine r_iconst_3 dX10_inState_18 ?_
      refine m_cv2 dX10_inState_19 cv_X10_175 (c_X10_of (f := 3) rfl (by omega) (by omega)) rfl ob_model ⟨_, rfl, rfl⟩ ⟨rfl, rfl⟩ (by decide) (by decide) (Nat.le_of_ble_eq_true rfl) ?_
      refine r_iload_n dX10_inState_22 rfl ?_
      refine r_icmp_ne 30 dX10_inState_23 (by decide) (fun h23 => ?_) (fun h23 => ?_)
      · refine r_iconst_0 dX10_inState_30 ?_
        refine r_iadd dX10_inState_31 ?_
        refine s_istore_n 2 dX10_inState_32 (by decide) rfl rfl ?_
        refine s_iinc dX10_inState_33 rfl (by decide) rfl ?_
        refine r_goto 4 dX10_inState_36 (by decide) ?_
        exact m_sub ih (by simp [a_sub, nI_succ, sumI, h23])
      · refine r_iconst_1 dX10_inState_26 ?_
        refine r_goto 31 dX10_inState_27 (by decide) ?_
        refine r_iadd dX10_inState_31 ?_
        refine s_istore_n 2 dX10_inState_32 (by decide) rfl rfl ?_
        refine s_iinc dX10_inState_33 rfl (by decide) rfl ?_
        refine r_goto 4 dX10_inState_36 (by decide) ?_
        exact m_sub ih (by simp [a_sub, nI_succ, sumI, h23])
  exact m_sub (lp 0 (Nat.zero_le _)) (by simp [a_sub, sumI, nI_0])
theorem c_X10_loadOf {u : Nat} (hA : M 318 = a) (h0 : a 6 = nI (nj a)) (h30 : nj a ≤ 30) : AD yX10_loadOf I_X10_loadOf [.ref 317, .int (nI u)] (hS M L dd) (.inl (some (.int (loS a u)))) (hS M L dd) := by
  subst hA
  intro Q hq
  refine a_met (by decide +kernel) rfl rfl (Nat.le_of_ble_eq_true rfl) (by simp [Value.category]) (by decide) rfl ?_
  show AW I_X10_loadOf 0 [.ref 317, .int (nI u), .null, .null] [] (hS M L dd) 0 0 Q
  refine r_iconst_0 dX10_loadOf_0 ?_
  refine s_istore_n 2 dX10_loadOf_1 (by decide) rfl rfl ?_
  refine r_iconst_0 dX10_loadOf_2 ?_
  refine s_istore_n 3 dX10_loadOf_3 (by decide) rfl rfl ?_
  have lp : ∀ k, k ≤ nj (M 318) → AW I_X10_loadOf 4 [.ref 317, .int (nI u), .int (sumI (fun j => if jb (M 318) j 3 = 1 ∧ jb (M 318) j 0 = nI u then 1 else 0) k), .int (nI k)] [] (hS M L dd) 0 0 Q := by
    refine lp_up _ ?_ ?_
    · refine r_iload_n dX10_loadOf_4 rfl ?_
      refine r_aload_n dX10_loadOf_5 rfl ?_
      refine m_get 10 0 dX10_loadOf_6 fl_X10_7 ob_model rfl ?_
      refine r_bipush 6 dX10_loadOf_9 (by decide) ?_
      refine m_iald 6 dX10_loadOf_11 ai_a rfl (by omega) (by first | decide | assumption) ?_
      refine r_icmp_ge 49 dX10_loadOf_12 (by decide) (fun _ => ?_) (fun z => absurd (by rw [h0]; exact nI_le (Nat.le_refl _) (by omega)) z)
      refine r_iload_n dX10_loadOf_49 rfl ?_
      exact e_iret dX10_loadOf_50 rfl hq (rfl)
    · intro k hk ih 
      refine r_iload_n dX10_loadOf_4 rfl ?_
      refine r_aload_n dX10_loadOf_5 rfl ?_
      refine m_get 10 0 dX10_loadOf_6 fl_X10_7 ob_model rfl ?_
      refine r_bipush 6 dX10_loadOf_9 (by decide) ?_
      refine m_iald 6 dX10_loadOf_11 ai_a rfl (by omega) (by first | decide | assumption) ?_
      refine r_icmp_ge 49 dX10_loadOf_12 (by decide) (fun z => absurd z (by rw [h0]; exact nI_ge hk (by omega))) (fun _ => ?_)
      refine r_iload_n dX10_loadOf_15 rfl ?_
      refine r_aload_n dX10_loadOf_16 rfl ?_
      refine r_iload_n dX10_loadOf_17 rfl ?_
      refine r_iconst_3 dX10_loadOf_18 ?_
      refine m_cv2 dX10_loadOf_19 cv_X10_175 (c_X10_of (f := 3) rfl (by omega) (by omega)) rfl ob_model ⟨_, rfl, rfl⟩ ⟨rfl, rfl⟩ (by decide) (by decide) (Nat.le_of_ble_eq_true rfl) ?_
      refine r_iconst_1 dX10_loadOf_22 ?_
      refine r_icmp_ne 40 dX10_loadOf_23 (by decide) (fun h23 => ?_) (fun h23 => ?_)
      · refine r_iconst_0 dX10_loadOf_40 ?_
        refine r_iadd dX10_loadOf_41 ?_
        refine s_istore_n 2 dX10_loadOf_42 (by decide) rfl rfl ?_
        refine s_iinc dX10_loadOf_43 rfl (by decide) rfl ?_
        refine r_goto 4 dX10_loadOf_46 (by decide) ?_
        first | (refine m_sub ih ?_; simp [a_sub, nI_succ, sumI, h23]; done) | (refine m_sub ih ?_; simp [a_sub, nI_succ, sumI, h23, h33])
      · refine r_aload_n dX10_loadOf_26 rfl ?_
        refine r_iload_n dX10_loadOf_27 rfl ?_
        refine r_iconst_0 dX10_loadOf_28 ?_
        refine m_cv2 dX10_loadOf_29 cv_X10_175 (c_X10_of (f := 0) rfl (by omega) (by omega)) rfl ob_model ⟨_, rfl, rfl⟩ ⟨rfl, rfl⟩ (by decide) (by decide) (Nat.le_of_ble_eq_true rfl) ?_
        refine r_iload_n dX10_loadOf_32 rfl ?_
        refine r_icmp_ne 40 dX10_loadOf_33 (by decide) (fun h33 => ?_) (fun h33 => ?_)
        · refine r_iconst_0 dX10_loadOf_40 ?_
          refine r_iadd dX10_loadOf_41 ?_
          refine s_istore_n 2 dX10_loadOf_42 (by decide) rfl rfl ?_
          refine s_iinc dX10_loadOf_43 rfl (by decide) rfl ?_
          refine r_goto 4 dX10_loadOf_46 (by decide) ?_
          first | (refine m_sub ih ?_; simp [a_sub, nI_succ, sumI, h23]; done) | (refine m_sub ih ?_; simp [a_sub, nI_succ, sumI, h23, h33])
        · refine r_iconst_1 dX10_loadOf_36 ?_
          refine r_goto 41 dX10_loadOf_37 (by decide) ?_
          refine r_iadd dX10_loadOf_41 ?_
          refine s_istore_n 2 dX10_loadOf_42 (by decide) rfl rfl ?_
          refine s_iinc dX10_loadOf_43 rfl (by decide) rfl ?_
          refine r_goto 4 dX10_loadOf_46 (by decide) ?_
          first | (refine m_sub ih ?_; simp [a_sub, nI_succ, sumI, h23]; done) | (refine m_sub ih ?_; simp [a_sub, nI_succ, sumI, h23, h33])
  exact m_sub (lp 0 (Nat.zero_le _)) (by simp [a_sub, sumI, nI_0])
theorem c_X10_runningOn {m : Nat} (hA : M 318 = a) (h0 : a 6 = nI (nj a)) (h30 : nj a ≤ 30) : AD yX10_runningOn I_X10_runningOn [.ref 317, .int (nI m)] (hS M L dd) (.inl (some (.int (buS a m)))) (hS M L dd) := by
  subst hA
  intro Q hq
  refine a_met (by decide +kernel) rfl rfl (Nat.le_of_ble_eq_true rfl) (by simp [Value.category]) (by decide) rfl ?_
  show AW I_X10_runningOn 0 [.ref 317, .int (nI m), .null, .null] [] (hS M L dd) 0 0 Q
  refine r_iconst_0 dX10_runningOn_0 ?_
  refine s_istore_n 2 dX10_runningOn_1 (by decide) rfl rfl ?_
  refine r_iconst_0 dX10_runningOn_2 ?_
  refine s_istore_n 3 dX10_runningOn_3 (by decide) rfl rfl ?_
  have lp : ∀ k, k ≤ nj (M 318) → AW I_X10_runningOn 4 [.ref 317, .int (nI m), .int (sumI (fun j => if jb (M 318) j 3 = 1 ∧ jb (M 318) j 4 = nI m then 1 else 0) k), .int (nI k)] [] (hS M L dd) 0 0 Q := by
    refine lp_up _ ?_ ?_
    · refine r_iload_n dX10_runningOn_4 rfl ?_
      refine r_aload_n dX10_runningOn_5 rfl ?_
      refine m_get 10 0 dX10_runningOn_6 fl_X10_7 ob_model rfl ?_
      refine r_bipush 6 dX10_runningOn_9 (by decide) ?_
      refine m_iald 6 dX10_runningOn_11 ai_a rfl (by omega) (by first | decide | assumption) ?_
      refine r_icmp_ge 49 dX10_runningOn_12 (by decide) (fun _ => ?_) (fun z => absurd (by rw [h0]; exact nI_le (Nat.le_refl _) (by omega)) z)
      refine r_iload_n dX10_runningOn_49 rfl ?_
      exact e_iret dX10_runningOn_50 rfl hq (rfl)
    · intro k hk ih 
      refine r_iload_n dX10_runningOn_4 rfl ?_
      refine r_aload_n dX10_runningOn_5 rfl ?_
      refine m_get 10 0 dX10_runningOn_6 fl_X10_7 ob_model rfl ?_
      refine r_bipush 6 dX10_runningOn_9 (by decide) ?_
      refine m_iald 6 dX10_runningOn_11 ai_a rfl (by omega) (by first | decide | assumption) ?_
      refine r_icmp_ge 49 dX10_runningOn_12 (by decide) (fun z => absurd z (by rw [h0]; exact nI_ge hk (by omega))) (fun _ => ?_)
      refine r_iload_n dX10_runningOn_15 rfl ?_
      refine r_aload_n dX10_runningOn_16 rfl ?_
      refine r_iload_n dX10_runningOn_17 rfl ?_
      refine r_iconst_3 dX10_runningOn_18 ?_
      refine m_cv2 dX10_runningOn_19 cv_X10_175 (c_X10_of (f := 3) rfl (by omega) (by omega)) rfl ob_model ⟨_, rfl, rfl⟩ ⟨rfl, rfl⟩ (by decide) (by decide) (Nat.le_of_ble_eq_true rfl) ?_
      refine r_iconst_1 dX10_runningOn_22 ?_
      refine r_icmp_ne 40 dX10_runningOn_23 (by decide) (fun h23 => ?_) (fun h23 => ?_)
      · refine r_iconst_0 dX10_runningOn_40 ?_
        refine r_iadd dX10_runningOn_41 ?_
        refine s_istore_n 2 dX10_runningOn_42 (by decide) rfl rfl ?_
        refine s_iinc dX10_runningOn_43 rfl (by decide) rfl ?_
        refine r_goto 4 dX10_runningOn_46 (by decide) ?_
        first | (refine m_sub ih ?_; simp [a_sub, nI_succ, sumI, h23]; done) | (refine m_sub ih ?_; simp [a_sub, nI_succ, sumI, h23, h33])
      · refine r_aload_n dX10_runningOn_26 rfl ?_
        refine r_iload_n dX10_runningOn_27 rfl ?_
        refine r_iconst_4 dX10_runningOn_28 ?_
        refine m_cv2 dX10_runningOn_29 cv_X10_175 (c_X10_of (f := 4) rfl (by omega) (by omega)) rfl ob_model ⟨_, rfl, rfl⟩ ⟨rfl, rfl⟩ (by decide) (by decide) (Nat.le_of_ble_eq_true rfl) ?_
        refine r_iload_n dX10_runningOn_32 rfl ?_
        refine r_icmp_ne 40 dX10_runningOn_33 (by decide) (fun h33 => ?_) (fun h33 => ?_)
        · refine r_iconst_0 dX10_runningOn_40 ?_
          refine r_iadd dX10_runningOn_41 ?_
          refine s_istore_n 2 dX10_runningOn_42 (by decide) rfl rfl ?_
          refine s_iinc dX10_runningOn_43 rfl (by decide) rfl ?_
          refine r_goto 4 dX10_runningOn_46 (by decide) ?_
          first | (refine m_sub ih ?_; simp [a_sub, nI_succ, sumI, h23]; done) | (refine m_sub ih ?_; simp [a_sub, nI_succ, sumI, h23, h33])
        · refine r_iconst_1 dX10_runningOn_36 ?_
          refine r_goto 41 dX10_runningOn_37 (by decide) ?_
          refine r_iadd dX10_runningOn_41 ?_
          refine s_istore_n 2 dX10_runningOn_42 (by decide) rfl rfl ?_
          refine s_iinc dX10_runningOn_43 rfl (by decide) rfl ?_
          refine r_goto 4 dX10_runningOn_46 (by decide) ?_
          first | (refine m_sub ih ?_; simp [a_sub, nI_succ, sumI, h23]; done) | (refine m_sub ih ?_; simp [a_sub, nI_succ, sumI, h23, h33])
  exact m_sub (lp 0 (Nat.zero_le _)) (by simp [a_sub, sumI, nI_0])
theorem c_X10_goneAt {l : Nat} (hA : M 318 = a) (hl : l < 8) : AD yX10_goneAt I_X10_goneAt [.ref 317, .int (nI l)] (hS M L dd) (.inl (some (.int (gnS a l)))) (hS M L dd) := by
  subst hA
  intro Q hq
  refine a_met (by decide +kernel) rfl rfl (Nat.le_of_ble_eq_true rfl) (by simp [Value.category]) (by decide) rfl ?_
  show AW I_X10_goneAt 0 [.ref 317, .int (nI l)] [] (hS M L dd) 0 0 Q
  refine r_aload_n dX10_goneAt_0 rfl ?_
  refine r_iload_n dX10_goneAt_1 rfl ?_
  refine r_iconst_3 dX10_goneAt_2 ?_
  refine m_cv2 dX10_goneAt_3 cv_X10_178 (c_X10_lent (f := 3) rfl hl (by omega)) rfl ob_model ⟨_, rfl, rfl⟩ ⟨rfl, rfl⟩ (by decide) (by decide) (Nat.le_of_ble_eq_true rfl) ?_
  refine r_iconst_2 dX10_goneAt_6 ?_
  refine r_aload_n dX10_goneAt_7 rfl ?_
  refine r_iload_n dX10_goneAt_8 rfl ?_
  refine r_iconst_4 dX10_goneAt_9 ?_
  refine m_cv2 dX10_goneAt_10 cv_X10_178 (c_X10_lent (f := 4) rfl hl (by omega)) rfl ob_model ⟨_, rfl, rfl⟩ ⟨rfl, rfl⟩ (by decide) (by decide) (Nat.le_of_ble_eq_true rfl) ?_
  refine r_imul dX10_goneAt_13 ?_
  refine r_iadd dX10_goneAt_14 ?_
  exact e_iret dX10_goneAt_15 rfl hq (rfl)
theorem c_X10_isLent {l : Nat} (hA : M 318 = a) (hl : l < 8) : AD yX10_isLent I_X10_isLent [.ref 317, .int (nI l)] (hS M L dd) (.inl (some (.int (bI (a 0 < duS a l))))) (hS M L dd) := by
  subst hA
  intro Q hq
  refine a_met (by decide +kernel) rfl rfl (Nat.le_of_ble_eq_true rfl) (by simp [Value.category]) (by decide) rfl ?_
  show AW I_X10_isLent 0 [.ref 317, .int (nI l)] [] (hS M L dd) 0 0 Q
  refine r_aload_n dX10_isLent_0 rfl ?_
  refine m_get 10 0 dX10_isLent_1 fl_X10_7 ob_model rfl ?_
  refine r_iconst_0 dX10_isLent_4 ?_
  refine m_iald 0 dX10_isLent_5 ai_a rfl (by omega) (by first | decide | assumption) ?_
  refine r_aload_n dX10_isLent_6 rfl ?_
  refine r_iload_n dX10_isLent_7 rfl ?_
  refine r_iconst_3 dX10_isLent_8 ?_
  refine m_cv2 dX10_isLent_9 cv_X10_178 (c_X10_lent (f := 3) rfl hl (by omega)) rfl ob_model ⟨_, rfl, rfl⟩ ⟨rfl, rfl⟩ (by decide) (by decide) (Nat.le_of_ble_eq_true rfl) ?_
  refine r_aload_n dX10_isLent_12 rfl ?_
  refine r_iload_n dX10_isLent_13 rfl ?_
  refine r_iconst_4 dX10_isLent_14 ?_
  refine m_cv2 dX10_isLent_15 cv_X10_178 (c_X10_lent (f := 4) rfl hl (by omega)) rfl ob_model ⟨_, rfl, rfl⟩ ⟨rfl, rfl⟩ (by decide) (by decide) (Nat.le_of_ble_eq_true rfl) ?_
  refine r_iadd dX10_isLent_18 ?_
  refine r_icmp_ge 26 dX10_isLent_19 (by decide) (fun h19 => ?_) (fun h19 => ?_)
  · refine r_iconst_0 dX10_isLent_26 ?_
    exact e_zret dX10_isLent_27 rfl hq (by grind [bI])
  · refine r_iconst_1 dX10_isLent_22 ?_
    refine r_goto 27 dX10_isLent_23 (by decide) ?_
    exact e_zret dX10_isLent_27 rfl hq (by grind [bI])
theorem c_X10_freeMachine (hA : M 318 = a) (hM : WM a) (h0 : a 6 = nI (nj a)) (h30 : nj a ≤ 30) : AD yX10_freeMachine I_X10_freeMachine [.ref 317] (hS M L dd) (.inl (some (.int (fmS a)))) (hS M L dd) := by
  subst hA
  have h6 := hM.2.1
  intro Q hq
  refine a_met (by decide +kernel) rfl rfl (Nat.le_of_ble_eq_true rfl) (by simp [Value.category]) (by decide) rfl ?_
  show AW I_X10_freeMachine 0 [.ref 317, .null] [] (hS M L dd) 0 0 Q
  refine r_iconst_0 dX10_freeMachine_0 ?_
  refine s_istore_n 1 dX10_freeMachine_1 (by decide) rfl rfl ?_
  have lp : ∀ k, k ≤ nm (M 318) → fstB (fun m => decide (M 318 (52 + m) = 1 ∧ buS (M 318) m < M 318 (46 + m))) k = -1 → AW I_X10_freeMachine 2 [.ref 317, .int (nI k)] [] (hS M L dd) 0 0 Q := by
    refine lp_up _ ?_ ?_
    · intro hz 
      refine r_iload_n dX10_freeMachine_2 rfl ?_
      refine r_aload_n dX10_freeMachine_3 rfl ?_
      refine m_get 10 0 dX10_freeMachine_4 fl_X10_7 ob_model rfl ?_
      refine r_iconst_5 dX10_freeMachine_7 ?_
      refine m_iald 5 dX10_freeMachine_8 ai_a rfl (by omega) (by first | decide | assumption) ?_
      refine r_icmp_ge 50 dX10_freeMachine_9 (by decide) (fun _ => ?_) (fun z => absurd (by rw [hM.1]; exact nI_le (Nat.le_refl _) (by omega)) z)
      refine r_iconst_m1 dX10_freeMachine_50 ?_
      exact e_iret dX10_freeMachine_51 rfl hq (by exact hz.symm)
    · intro k hk ih hz 
      refine r_iload_n dX10_freeMachine_2 rfl ?_
      refine r_aload_n dX10_freeMachine_3 rfl ?_
      refine m_get 10 0 dX10_freeMachine_4 fl_X10_7 ob_model rfl ?_
      refine r_iconst_5 dX10_freeMachine_7 ?_
      refine m_iald 5 dX10_freeMachine_8 ai_a rfl (by omega) (by first | decide | assumption) ?_
      refine r_icmp_ge 50 dX10_freeMachine_9 (by decide) (fun z => absurd z (by rw [hM.1]; exact nI_ge hk (by omega))) (fun _ => ?_)
      refine r_aload_n dX10_freeMachine_12 rfl ?_
      refine m_get 10 0 dX10_freeMachine_13 fl_X10_7 ob_model rfl ?_
      refine r_bipush 52 dX10_freeMachine_16 (by decide) ?_
      refine r_iload_n dX10_freeMachine_18 rfl ?_
      refine r_iadd dX10_freeMachine_19 ?_
      refine m_iald (52 + k) dX10_freeMachine_20 ai_a (nI_add 52 k) (by omega) (by first | decide | assumption) ?_
      refine r_iconst_1 dX10_freeMachine_21 ?_
      refine r_icmp_ne 44 dX10_freeMachine_22 (by decide) (fun h22 => ?_) (fun h22 => ?_)
      · refine s_iinc dX10_freeMachine_44 rfl (by decide) rfl ?_
        refine r_goto 2 dX10_freeMachine_47 (by decide) ?_
        exact m_sub (ih (fstB_s hz (decide_eq_false (by first | exact fun z => h22 z.1 | exact fun z => absurd z.2 (by rwa [Int32.not_lt]))))) (by simp [a_sub, nI_succ])
      · refine r_aload_n dX10_freeMachine_25 rfl ?_
        refine r_iload_n dX10_freeMachine_26 rfl ?_
        refine m_cv1 dX10_freeMachine_27 cv_X10_230 (c_X10_runningOn rfl h0 h30) rfl ob_model ⟨_, rfl, rfl⟩ ⟨rfl, rfl⟩ (by decide) (by decide) (Nat.le_of_ble_eq_true rfl) ?_
        refine r_aload_n dX10_freeMachine_30 rfl ?_
        refine m_get 10 0 dX10_freeMachine_31 fl_X10_7 ob_model rfl ?_
        refine r_bipush 46 dX10_freeMachine_34 (by decide) ?_
        refine r_iload_n dX10_freeMachine_36 rfl ?_
        refine r_iadd dX10_freeMachine_37 ?_
        refine m_iald (46 + k) dX10_freeMachine_38 ai_a (nI_add 46 k) (by omega) (by first | decide | assumption) ?_
        refine r_icmp_ge 44 dX10_freeMachine_39 (by decide) (fun h39 => ?_) (fun h39 => ?_)
        · refine s_iinc dX10_freeMachine_44 rfl (by decide) rfl ?_
          refine r_goto 2 dX10_freeMachine_47 (by decide) ?_
          exact m_sub (ih (fstB_s hz (decide_eq_false (by first | exact fun z => h22 z.1 | exact fun z => absurd z.2 (by rwa [Int32.not_lt]))))) (by simp [a_sub, nI_succ])
        · refine r_iload_n dX10_freeMachine_42 rfl ?_
          exact e_iret dX10_freeMachine_43 rfl hq ((by rw [Int32.not_le] at h39; exact (fstB_at hz (decide_eq_true ⟨h22, h39⟩) hk (by omega)).symm))
  exact m_sub (lp 0 (Nat.zero_le _) rfl) (by simp [a_sub, nI_0])
theorem c_X10_freeSlots (hA : M 318 = a) (hM : WM a) (h0 : a 6 = nI (nj a)) (h30 : nj a ≤ 30) : AD yX10_freeSlots I_X10_freeSlots [.ref 317] (hS M L dd) (.inl (some (.int (fsS a)))) (hS M L dd) := by
  subst hA
  have h6 := hM.2.1
  intro Q hq
  refine a_met (by decide +kernel) rfl rfl (Nat.le_of_ble_eq_true rfl) (by simp [Value.category]) (by decide) rfl ?_
  show AW I_X10_freeSlots 0 [.ref 317, .null, .null] [] (hS M L dd) 0 0 Q
  refine r_iconst_0 dX10_freeSlots_0 ?_
  refine s_istore_n 1 dX10_freeSlots_1 (by decide) rfl rfl ?_
  refine r_iconst_0 dX10_freeSlots_2 ?_
  refine s_istore_n 2 dX10_freeSlots_3 (by decide) rfl rfl ?_
  have lp : ∀ k, k ≤ nm (M 318) → AW I_X10_freeSlots 4 [.ref 317, .int (sumI (fun m => if M 318 (52 + m) = 1 then M 318 (46 + m) - buS (M 318) m else 0) k), .int (nI k)] [] (hS M L dd) 0 0 Q := by
    refine lp_up _ ?_ ?_
    · refine r_iload_n dX10_freeSlots_4 rfl ?_
      refine r_aload_n dX10_freeSlots_5 rfl ?_
      refine m_get 10 0 dX10_freeSlots_6 fl_X10_7 ob_model rfl ?_
      refine r_iconst_5 dX10_freeSlots_9 ?_
      refine m_iald 5 dX10_freeSlots_10 ai_a rfl (by omega) (by first | decide | assumption) ?_
      refine r_icmp_ge 55 dX10_freeSlots_11 (by decide) (fun _ => ?_) (fun z => absurd (by rw [hM.1]; exact nI_le (Nat.le_refl _) (by omega)) z)
      refine r_iload_n dX10_freeSlots_55 rfl ?_
      exact e_iret dX10_freeSlots_56 rfl hq (rfl)
    · intro k hk ih 
      refine r_iload_n dX10_freeSlots_4 rfl ?_
      refine r_aload_n dX10_freeSlots_5 rfl ?_
      refine m_get 10 0 dX10_freeSlots_6 fl_X10_7 ob_model rfl ?_
      refine r_iconst_5 dX10_freeSlots_9 ?_
      refine m_iald 5 dX10_freeSlots_10 ai_a rfl (by omega) (by first | decide | assumption) ?_
      refine r_icmp_ge 55 dX10_freeSlots_11 (by decide) (fun z => absurd z (by rw [hM.1]; exact nI_ge hk (by omega))) (fun _ => ?_)
      refine r_iload_n dX10_freeSlots_14 rfl ?_
      refine r_aload_n dX10_freeSlots_15 rfl ?_
      refine m_get 10 0 dX10_freeSlots_16 fl_X10_7 ob_model rfl ?_
      refine r_bipush 52 dX10_freeSlots_19 (by decide) ?_
      refine r_iload_n dX10_freeSlots_21 rfl ?_
      refine r_iadd dX10_freeSlots_22 ?_
      refine m_iald (52 + k) dX10_freeSlots_23 ai_a (nI_add 52 k) (by omega) (by first | decide | assumption) ?_
      refine r_iconst_1 dX10_freeSlots_24 ?_
      refine r_icmp_ne 46 dX10_freeSlots_25 (by decide) (fun h25 => ?_) (fun h25 => ?_)
      · refine r_iconst_0 dX10_freeSlots_46 ?_
        refine r_iadd dX10_freeSlots_47 ?_
        refine s_istore_n 1 dX10_freeSlots_48 (by decide) rfl rfl ?_
        refine s_iinc dX10_freeSlots_49 rfl (by decide) rfl ?_
        refine r_goto 4 dX10_freeSlots_52 (by decide) ?_
        exact m_sub ih (by simp [a_sub, nI_succ, sumI, h25])
      · refine r_aload_n dX10_freeSlots_28 rfl ?_
        refine m_get 10 0 dX10_freeSlots_29 fl_X10_7 ob_model rfl ?_
        refine r_bipush 46 dX10_freeSlots_32 (by decide) ?_
        refine r_iload_n dX10_freeSlots_34 rfl ?_
        refine r_iadd dX10_freeSlots_35 ?_
        refine m_iald (46 + k) dX10_freeSlots_36 ai_a (nI_add 46 k) (by omega) (by first | decide | assumption) ?_
        refine r_aload_n dX10_freeSlots_37 rfl ?_
        refine r_iload_n dX10_freeSlots_38 rfl ?_
        refine m_cv1 dX10_freeSlots_39 cv_X10_230 (c_X10_runningOn rfl h0 h30) rfl ob_model ⟨_, rfl, rfl⟩ ⟨rfl, rfl⟩ (by decide) (by decide) (Nat.le_of_ble_eq_true rfl) ?_
        refine r_isub dX10_freeSlots_42 ?_
        refine r_goto 47 dX10_freeSlots_43 (by decide) ?_
        refine r_iadd dX10_freeSlots_47 ?_
        refine s_istore_n 1 dX10_freeSlots_48 (by decide) rfl rfl ?_
        refine s_iinc dX10_freeSlots_49 rfl (by decide) rfl ?_
        refine r_goto 4 dX10_freeSlots_52 (by decide) ?_
        exact m_sub ih (by simp [a_sub, nI_succ, sumI, h25])
  exact m_sub (lp 0 (Nat.zero_le _)) (by simp [a_sub, sumI, nI_0])
theorem bel_m1 {t : Int32} (f : Nat) : bel a t f (-1) = false := by
  cases f with
  | zero => rfl
  | succ f => rw [bel, if_neg (fun z => absurd z.1 (by decide))]
theorem c_X10_isBelow {u : Nat} {t : Int32} (hA : M 318 = a) (hW : WU a) (hu : u < nu a) (ht : 0 ≤ t) : AD yX10_isBelow I_X10_isBelow [.ref 317, .int (nI u), .int t] (hS M L dd) (.inl (some (.int (bI (bel a t 12 (nI u) = true))))) (hS M L dd) := by
  subst hA
  have h12 := hW.2.2.1
  intro Q hq
  refine a_met (by decide +kernel) rfl rfl (Nat.le_of_ble_eq_true rfl) (by simp [Value.category]) (by decide) rfl ?_
  show AW I_X10_isBelow 0 [.ref 317, .int (nI u), .int t, .null] [] (hS M L dd) 0 0 Q
  refine r_iload_n dX10_isBelow_0 rfl ?_
  refine s_istore_n 3 dX10_isBelow_1 (by decide) rfl rfl ?_
  have lp : ∀ n, ∀ v f, v ≤ n → v < nu (M 318) → v < f → bel (M 318) t f (nI v) = bel (M 318) t 12 (nI u) → AW I_X10_isBelow 2 [.ref 317, .int (nI u), .int t, .int (nI v)] [] (hS M L dd) 0 0 Q := by
    intro n
    induction n with
    | zero =>
      intro v f h1 h2 h3 h4
      have hv : v = 0 := by omega
      subst hv
      obtain ⟨g, rfl⟩ : ∃ g, f = g + 1 := ⟨f - 1, by omega⟩
      rw [bel, if_pos ⟨nI_pos' (by omega), by rw [hW.1]; exact nI_lt h2 (by omega)⟩] at h4
      refine r_iload_n dX10_isBelow_2 rfl ?_
      refine r_iconst_m1 dX10_isBelow_3 ?_
      refine r_icmp_eq 25 dX10_isBelow_4 (by decide) (fun z => absurd z (nI_m1 (by omega))) (fun _ => ?_)
      refine r_iload_n dX10_isBelow_7 rfl ?_
      refine r_iload_n dX10_isBelow_8 rfl ?_
      refine r_icmp_eq 25 dX10_isBelow_9 (by decide) (fun h9 => ?_) (fun h9 => ?_)
      · rw [if_pos h9] at h4
        refine r_iload_n dX10_isBelow_25 rfl ?_
        refine r_iload_n dX10_isBelow_26 rfl ?_
        refine r_icmp_ne 34 dX10_isBelow_27 (by decide) (fun z => absurd h9 z) (fun _ => ?_)
        refine r_iconst_1 dX10_isBelow_30 ?_
        refine r_goto 35 dX10_isBelow_31 (by decide) ?_
        exact e_zret dX10_isBelow_35 rfl hq (by rw [← h4]; rfl)
      · rw [if_neg h9, show zN (nI 0) = 0 from rfl, hW.2.2.2.1, bel_m1] at h4
        refine r_aload_n dX10_isBelow_12 rfl ?_
        refine m_get 10 0 dX10_isBelow_13 fl_X10_7 ob_model rfl ?_
        refine r_bipush 10 dX10_isBelow_16 (by decide) ?_
        refine r_iload_n dX10_isBelow_18 rfl ?_
        refine r_iadd dX10_isBelow_19 ?_
        refine m_iald 10 dX10_isBelow_20 ai_a (nI_add 10 0) (by omega) (by first | decide | assumption) ?_
        refine s_istore_n 3 dX10_isBelow_21 (by decide) rfl rfl ?_
        refine r_goto 2 dX10_isBelow_22 (by decide) ?_
        rw [hW.2.2.2.1]
        refine r_iload_n dX10_isBelow_2 rfl ?_
        refine r_iconst_m1 dX10_isBelow_3 ?_
        refine r_icmp_eq 25 dX10_isBelow_4 (by decide) (fun _ => ?_) (fun z => absurd rfl z)
        refine r_iload_n dX10_isBelow_25 rfl ?_
        refine r_iload_n dX10_isBelow_26 rfl ?_
        refine r_icmp_ne 34 dX10_isBelow_27 (by decide) (fun _ => ?_) (fun z => absurd z (fun z => by rw [← z] at ht; exact absurd ht (by decide)))
        refine r_iconst_0 dX10_isBelow_34 ?_
        exact e_zret dX10_isBelow_35 rfl hq (by rw [← h4]; rfl)
    | succ n ih =>
      intro v f h1 h2 h3 h4
      by_cases hv : v ≤ n
      · exact ih v f hv h2 h3 h4
      obtain ⟨g, rfl⟩ : ∃ g, f = g + 1 := ⟨f - 1, by omega⟩
      rw [bel, if_pos ⟨nI_pos' (by omega), by rw [hW.1]; exact nI_lt h2 (by omega)⟩] at h4
      obtain ⟨q, hq2, hpq⟩ := hW.2.2.2.2.1 v (by omega) h2
      refine r_iload_n dX10_isBelow_2 rfl ?_
      refine r_iconst_m1 dX10_isBelow_3 ?_
      refine r_icmp_eq 25 dX10_isBelow_4 (by decide) (fun z => absurd z (nI_m1 (by omega))) (fun _ => ?_)
      refine r_iload_n dX10_isBelow_7 rfl ?_
      refine r_iload_n dX10_isBelow_8 rfl ?_
      refine r_icmp_eq 25 dX10_isBelow_9 (by decide) (fun h9 => ?_) (fun h9 => ?_)
      · rw [if_pos h9] at h4
        refine r_iload_n dX10_isBelow_25 rfl ?_
        refine r_iload_n dX10_isBelow_26 rfl ?_
        refine r_icmp_ne 34 dX10_isBelow_27 (by decide) (fun z => absurd h9 z) (fun _ => ?_)
        refine r_iconst_1 dX10_isBelow_30 ?_
        refine r_goto 35 dX10_isBelow_31 (by decide) ?_
        exact e_zret dX10_isBelow_35 rfl hq (by rw [← h4]; rfl)
      · rw [if_neg h9, zN, nI_clamp (by omega), hpq] at h4
        refine r_aload_n dX10_isBelow_12 rfl ?_
        refine m_get 10 0 dX10_isBelow_13 fl_X10_7 ob_model rfl ?_
        refine r_bipush 10 dX10_isBelow_16 (by decide) ?_
        refine r_iload_n dX10_isBelow_18 rfl ?_
        refine r_iadd dX10_isBelow_19 ?_
        refine m_iald (10 + v) dX10_isBelow_20 ai_a (nI_add 10 v) (by omega) (by first | decide | assumption) ?_
        refine s_istore_n 3 dX10_isBelow_21 (by decide) rfl rfl ?_
        refine r_goto 2 dX10_isBelow_22 (by decide) ?_
        rw [hpq]
        exact m_sub (ih q g (by omega) (by omega) (by omega) h4) (by simp [a_sub])
  exact m_sub (lp u u 12 (Nat.le_refl _) hu (by omega) rfl) (by simp [a_sub])
theorem c_X10_useOf {t : Int32} (hA : M 318 = a) (hW : WU a) (ht : 0 ≤ t) : AD yX10_useOf I_X10_useOf [.ref 317, .int t] (hS M L dd) (.inl (some (.int (sbS a t (fun k => a (34 + k)))))) (hS M L dd) := by
  subst hA
  have h12 := hW.2.2.1
  have h0 := hW.1
  intro Q hq
  refine a_met (by decide +kernel) rfl rfl (Nat.le_of_ble_eq_true rfl) (by simp [Value.category]) (by decide) rfl ?_
  show AW I_X10_useOf 0 [.ref 317, .int t, .null, .null] [] (hS M L dd) 0 0 Q
  refine r_iconst_0 dX10_useOf_0 ?_
  refine s_istore_n 2 dX10_useOf_1 (by decide) rfl rfl ?_
  refine r_iconst_0 dX10_useOf_2 ?_
  refine s_istore_n 3 dX10_useOf_3 (by decide) rfl rfl ?_
  have lp : ∀ k, k ≤ nu (M 318) → AW I_X10_useOf 4 [.ref 317, .int t, .int (sumI (fun k => if lfS (M 318) k ∧ bel (M 318) t 12 (nI k) = true then M 318 (34 + k) else 0) k), .int (nI k)] [] (hS M L dd) 0 0 Q := by
    refine lp_up _ ?_ ?_
    · refine r_iload_n dX10_useOf_4 rfl ?_
      refine r_aload_n dX10_useOf_5 rfl ?_
      refine m_get 10 0 dX10_useOf_6 fl_X10_7 ob_model rfl ?_
      refine r_iconst_4 dX10_useOf_9 ?_
      refine m_iald 4 dX10_useOf_10 ai_a rfl (by omega) (by first | decide | assumption) ?_
      refine r_icmp_ge 53 dX10_useOf_11 (by decide) (fun _ => ?_) (fun z => absurd (by rw [h0]; exact nI_le (Nat.le_refl _) (by omega)) z)
      refine r_iload_n dX10_useOf_53 rfl ?_
      exact e_iret dX10_useOf_54 rfl hq (rfl)
    · intro k hk ih 
      refine r_iload_n dX10_useOf_4 rfl ?_
      refine r_aload_n dX10_useOf_5 rfl ?_
      refine m_get 10 0 dX10_useOf_6 fl_X10_7 ob_model rfl ?_
      refine r_iconst_4 dX10_useOf_9 ?_
      refine m_iald 4 dX10_useOf_10 ai_a rfl (by omega) (by first | decide | assumption) ?_
      refine r_icmp_ge 53 dX10_useOf_11 (by decide) (fun z => absurd z (by rw [h0]; exact nI_ge hk (by omega))) (fun _ => ?_)
      refine r_iload_n dX10_useOf_14 rfl ?_
      refine r_aload_n dX10_useOf_15 rfl ?_
      refine r_iload_n dX10_useOf_16 rfl ?_
      refine m_cv1 dX10_useOf_17 cv_X10_119 (c_X10_isLeaf rfl h0 h12) rfl ob_model ⟨_, rfl, rfl⟩ ⟨rfl, rfl⟩ (by decide) (by decide) (Nat.le_of_ble_eq_true rfl) ?_
      refine r_if_eq 44 dX10_useOf_20 (by decide) (fun h20 => ?_) (fun h20 => ?_)
      · refine r_iconst_0 dX10_useOf_44 ?_
        refine r_iadd dX10_useOf_45 ?_
        refine s_istore_n 2 dX10_useOf_46 (by decide) rfl rfl ?_
        refine s_iinc dX10_useOf_47 rfl (by decide) rfl ?_
        refine r_goto 4 dX10_useOf_50 (by decide) ?_
        exact m_sub ih (by simp_all [a_sub, nI_succ, sumI, bI_0, lfS])
      · refine r_aload_n dX10_useOf_23 rfl ?_
        refine r_iload_n dX10_useOf_24 rfl ?_
        refine r_iload_n dX10_useOf_25 rfl ?_
        refine m_cv2 dX10_useOf_26 cv_X10_188 (c_X10_isBelow rfl hW hk ht) rfl ob_model ⟨_, rfl, rfl⟩ ⟨rfl, rfl⟩ (by decide) (by decide) (Nat.le_of_ble_eq_true rfl) ?_
        refine r_if_eq 44 dX10_useOf_29 (by decide) (fun h29 => ?_) (fun h29 => ?_)
        · refine r_iconst_0 dX10_useOf_44 ?_
          refine r_iadd dX10_useOf_45 ?_
          refine s_istore_n 2 dX10_useOf_46 (by decide) rfl rfl ?_
          refine s_iinc dX10_useOf_47 rfl (by decide) rfl ?_
          refine r_goto 4 dX10_useOf_50 (by decide) ?_
          exact m_sub ih (by simp_all [a_sub, nI_succ, sumI, bI_0, lfS])
        · refine r_aload_n dX10_useOf_32 rfl ?_
          refine m_get 10 0 dX10_useOf_33 fl_X10_7 ob_model rfl ?_
          refine r_bipush 34 dX10_useOf_36 (by decide) ?_
          refine r_iload_n dX10_useOf_38 rfl ?_
          refine r_iadd dX10_useOf_39 ?_
          refine m_iald (34 + k) dX10_useOf_40 ai_a (nI_add 34 k) (by omega) (by first | decide | assumption) ?_
          refine r_goto 45 dX10_useOf_41 (by decide) ?_
          refine r_iadd dX10_useOf_45 ?_
          refine s_istore_n 2 dX10_useOf_46 (by decide) rfl rfl ?_
          refine s_iinc dX10_useOf_47 rfl (by decide) rfl ?_
          refine r_goto 4 dX10_useOf_50 (by decide) ?_
          exact m_sub ih (by simp_all [a_sub, nI_succ, sumI, bI_0, lfS])
  exact m_sub (lp 0 (Nat.zero_le _)) (by simp [a_sub, sumI, nI_0])
theorem c_X10_jobsOf {t s : Int32} (hA : M 318 = a) (hW : WU a) (hJ : WJ a) (ht : 0 ≤ t) : AD yX10_jobsOf I_X10_jobsOf [.ref 317, .int t, .int s] (hS M L dd) (.inl (some (.int (sumI (fun j => if jb a j 3 = s ∧ bel a t 12 (jb a j 0) = true then 1 else 0) (nj a))))) (hS M L dd) := by
  subst hA
  have h30 := hJ.2.1
  intro Q hq
  refine a_met (by decide +kernel) rfl rfl (Nat.le_of_ble_eq_true rfl) (by simp [Value.category]) (by decide) rfl ?_
  show AW I_X10_jobsOf 0 [.ref 317, .int t, .int s, .null, .null] [] (hS M L dd) 0 0 Q
  refine r_iconst_0 dX10_jobsOf_0 ?_
  refine s_istore_n 3 dX10_jobsOf_1 (by decide) rfl rfl ?_
  refine r_iconst_0 dX10_jobsOf_2 ?_
  refine s_istore dX10_jobsOf_3 (by decide) rfl ?_
  have lp : ∀ k, k ≤ nj (M 318) → AW I_X10_jobsOf 5 [.ref 317, .int t, .int s, .int (sumI (fun j => if jb (M 318) j 3 = s ∧ bel (M 318) t 12 (jb (M 318) j 0) = true then 1 else 0) k), .int (nI k)] [] (hS M L dd) 0 0 Q := by
    refine lp_up _ ?_ ?_
    · refine r_iload dX10_jobsOf_5 rfl ?_
      refine r_aload_n dX10_jobsOf_7 rfl ?_
      refine m_get 10 0 dX10_jobsOf_8 fl_X10_7 ob_model rfl ?_
      refine r_bipush 6 dX10_jobsOf_11 (by decide) ?_
      refine m_iald 6 dX10_jobsOf_13 ai_a rfl (by omega) (by first | decide | assumption) ?_
      refine r_icmp_ge 57 dX10_jobsOf_14 (by decide) (fun _ => ?_) (fun z => absurd (by rw [hJ.1]; exact nI_le (Nat.le_refl _) (by omega)) z)
      refine r_iload_n dX10_jobsOf_57 rfl ?_
      exact e_iret dX10_jobsOf_58 rfl hq (rfl)
    · intro k hk ih 
      obtain ⟨u, hu, hu2, -⟩ := hJ.2.2.1 k hk
      refine r_iload dX10_jobsOf_5 rfl ?_
      refine r_aload_n dX10_jobsOf_7 rfl ?_
      refine m_get 10 0 dX10_jobsOf_8 fl_X10_7 ob_model rfl ?_
      refine r_bipush 6 dX10_jobsOf_11 (by decide) ?_
      refine m_iald 6 dX10_jobsOf_13 ai_a rfl (by omega) (by first | decide | assumption) ?_
      refine r_icmp_ge 57 dX10_jobsOf_14 (by decide) (fun z => absurd z (by rw [hJ.1]; exact nI_ge hk (by omega))) (fun _ => ?_)
      refine r_iload_n dX10_jobsOf_17 rfl ?_
      refine r_aload_n dX10_jobsOf_18 rfl ?_
      refine r_iload dX10_jobsOf_19 rfl ?_
      refine r_iconst_3 dX10_jobsOf_21 ?_
      refine m_cv2 dX10_jobsOf_22 cv_X10_175 (c_X10_of (f := 3) rfl (by omega) (by omega)) rfl ob_model ⟨_, rfl, rfl⟩ ⟨rfl, rfl⟩ (by decide) (by decide) (Nat.le_of_ble_eq_true rfl) ?_
      refine r_iload_n dX10_jobsOf_25 rfl ?_
      refine r_icmp_ne 48 dX10_jobsOf_26 (by decide) (fun h26 => ?_) (fun h26 => ?_)
      · refine r_iconst_0 dX10_jobsOf_48 ?_
        refine r_iadd dX10_jobsOf_49 ?_
        refine s_istore_n 3 dX10_jobsOf_50 (by decide) rfl rfl ?_
        refine s_iinc dX10_jobsOf_51 rfl (by decide) rfl ?_
        refine r_goto 5 dX10_jobsOf_54 (by decide) ?_
        exact m_sub ih (by simp [a_sub, nI_succ, sumI, h26])
      · refine r_aload_n dX10_jobsOf_29 rfl ?_
        refine r_aload_n dX10_jobsOf_30 rfl ?_
        refine r_iload dX10_jobsOf_31 rfl ?_
        refine r_iconst_0 dX10_jobsOf_33 ?_
        refine m_cv2 dX10_jobsOf_34 cv_X10_175 (c_X10_of (f := 0) rfl (by omega) (by omega)) rfl ob_model ⟨_, rfl, rfl⟩ ⟨rfl, rfl⟩ (by decide) (by decide) (Nat.le_of_ble_eq_true rfl) ?_
        refine r_iload_n dX10_jobsOf_37 rfl ?_
        simp only [Option.toList_some, List.singleton_append]
        rw [hu2]
        refine m_cv2 dX10_jobsOf_38 cv_X10_188 (c_X10_isBelow rfl hW hu ht) rfl ob_model ⟨_, rfl, rfl⟩ ⟨rfl, rfl⟩ (by decide) (by decide) (Nat.le_of_ble_eq_true rfl) ?_
        refine r_if_eq 48 dX10_jobsOf_41 (by decide) (fun h41 => ?_) (fun h41 => ?_)
        · refine r_iconst_0 dX10_jobsOf_48 ?_
          refine r_iadd dX10_jobsOf_49 ?_
          refine s_istore_n 3 dX10_jobsOf_50 (by decide) rfl rfl ?_
          refine s_iinc dX10_jobsOf_51 rfl (by decide) rfl ?_
          refine r_goto 5 dX10_jobsOf_54 (by decide) ?_
          exact m_sub ih (by rw [bI_0] at h41; simp_all [a_sub, nI_succ, sumI])
        · refine r_iconst_1 dX10_jobsOf_44 ?_
          refine r_goto 49 dX10_jobsOf_45 (by decide) ?_
          refine r_iadd dX10_jobsOf_49 ?_
          refine s_istore_n 3 dX10_jobsOf_50 (by decide) rfl rfl ?_
          refine s_iinc dX10_jobsOf_51 rfl (by decide) rfl ?_
          refine r_goto 5 dX10_jobsOf_54 (by decide) ?_
          exact m_sub ih (by rw [bI_0] at h41; simp_all [a_sub, nI_succ, sumI])
  exact m_sub (lp 0 (Nat.zero_le _)) (by simp [a_sub, sumI, nI_0])
end MODEL1
