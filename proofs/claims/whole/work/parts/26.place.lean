section PLACE
variable {M : Nat → Nat → Int32} {L : Nat → Nat → Int64} {dd : UInt64} {p T : Nat} {a : Nat → Int32}
theorem bw_n {k : Nat} (h : ¬ jb a k 3 = 0) : bwP a (k + 1) = bwP a k := by
  show bwF _ _ (k + 1) = _
  rw [bwF, if_neg (by simp [h])]
theorem bw_y {k u : Nat} (h : jb a k 3 = 0) (hu : jb a k 0 = nI u) (hu2 : u < 12) (c : (bwP a k).1 = -1 ∨ (bwP a k).2 < wnS a u) : bwP a (k + 1) = (nI k, wnS a u) := by
  have e : zN (jb a k 0) = u := by rw [hu, zN, nI_clamp (by omega)]
  show bwF _ _ (k + 1) = _
  rw [bwF, if_pos (decide_eq_true h)]
  simp only [e]
  rw [if_pos c]
theorem bw_k {k u : Nat} (h : jb a k 3 = 0) (hu : jb a k 0 = nI u) (hu2 : u < 12) (c1 : ¬ (bwP a k).1 = -1) (c2 : ¬ (bwP a k).2 < wnS a u) : bwP a (k + 1) = bwP a k := by
  have e : zN (jb a k 0) = u := by rw [hu, zN, nI_clamp (by omega)]
  show bwF _ _ (k + 1) = _
  rw [bwF, if_pos (decide_eq_true h)]
  simp only [e]
  rw [if_neg (fun z => z.elim c1 c2)]
theorem lr_n {k m : Nat} (h : ¬ (jb a k 3 = 1 ∧ jb a k 4 = nI m)) : lrP a m (k + 1) = lrP a m k := by
  show lrF _ _ (k + 1) = _
  rw [lrF, if_neg (by simp only [decide_eq_true_eq]; exact h)]
theorem lr_y {k u m : Nat} (h : jb a k 3 = 1 ∧ jb a k 4 = nI m) (hu : jb a k 0 = nI u) (hu2 : u < 12) (c : (lrP a m k).1 = -1 ∨ wwS a u ≤ (lrP a m k).2) : lrP a m (k + 1) = (nI k, wwS a u) := by
  have e : zN (jb a k 0) = u := by rw [hu, zN, nI_clamp (by omega)]
  show lrF _ _ (k + 1) = _
  rw [lrF, if_pos (decide_eq_true h)]
  simp only [e]
  rw [if_pos c]
theorem lr_k {k u m : Nat} (h : jb a k 3 = 1 ∧ jb a k 4 = nI m) (hu : jb a k 0 = nI u) (hu2 : u < 12) (c1 : ¬ (lrP a m k).1 = -1) (c2 : ¬ wwS a u ≤ (lrP a m k).2) : lrP a m (k + 1) = lrP a m k := by
  have e : zN (jb a k 0) = u := by rw [hu, zN, nI_clamp (by omega)]
  show lrF _ _ (k + 1) = _
  rw [lrF, if_pos (decide_eq_true h)]
  simp only [e]
  rw [if_neg (fun z => z.elim c1 c2)]
theorem c_X5_bestWaiting (hP : PL p) (hJ : QJ M p a) (hC : QC M L p a) (wU : WU a) (wJ : WJ a) : AD yX5_bestWaiting I_X5_bestWaiting [.ref p] (hS M L dd) (.inl (some (.int (bwS a)))) (hS M L dd) := by
  intro Q hq
  refine a_met (by decide +kernel) rfl rfl (Nat.le_of_ble_eq_true rfl) (by simp [Value.category]) (by decide) rfl ?_
  show AW I_X5_bestWaiting 0 [.ref p, .null, .null, .null, .null, .null, .null] [] (hS M L dd) 0 0 Q
  have h30 := wJ.2.1
  have h12 := wU.2.2.1
  have hn := hJ.1.trans wJ.1
  refine r_iconst_m1 dX5_bestWaiting_0 ?_
  refine s_istore_n 1 dX5_bestWaiting_1 (by decide) rfl rfl ?_
  refine r_lconst_0 dX5_bestWaiting_2 ?_
  refine s_lstore_n 2 dX5_bestWaiting_3 (by decide) rfl rfl ?_
  refine r_iconst_0 dX5_bestWaiting_4 ?_
  refine s_istore dX5_bestWaiting_5 (by decide) rfl ?_
  have lp : ∀ k, k ≤ nj a → AW I_X5_bestWaiting 7 [.ref p, .int (bwP a k).1, .long (bwP a k).2, .null, .int (nI k), .null, .null] [] (hS M L dd) 0 0 Q := by
    refine lp_up _ ?_ ?_
    · refine r_iload dX5_bestWaiting_7 rfl ?_
      refine r_aload_n dX5_bestWaiting_9 rfl ?_
      refine m_get 5 3 dX5_bestWaiting_10 fl_X5_35 (ob_place hP) rfl ?_
      refine m_get 1 0 dX5_bestWaiting_13 fl_X5_120 (ob_jobs hP) rfl ?_
      refine r_icmp_ge 75 dX5_bestWaiting_16 (by decide) (fun _ => ?_) (fun z => absurd (by rw [hn]; exact nI_le (Nat.le_refl _) (by omega)) z)
      refine r_iload_n dX5_bestWaiting_75 rfl ?_
      exact e_iret dX5_bestWaiting_76 rfl hq (rfl)
    · intro k hk ih 
      obtain ⟨t0, t1, t2, t3, t4, t5, t6⟩ := hJ.2 k hk
      obtain ⟨u, hu, hu2, hlf⟩ := wJ.2.2.1 k hk
      refine r_iload dX5_bestWaiting_7 rfl ?_
      refine r_aload_n dX5_bestWaiting_9 rfl ?_
      refine m_get 5 3 dX5_bestWaiting_10 fl_X5_35 (ob_place hP) rfl ?_
      refine m_get 1 0 dX5_bestWaiting_13 fl_X5_120 (ob_jobs hP) rfl ?_
      refine r_icmp_ge 75 dX5_bestWaiting_16 (by decide) (fun z => absurd z (by rw [hn]; exact nI_ge hk (by omega))) (fun _ => ?_)
      refine r_aload_n dX5_bestWaiting_19 rfl ?_
      refine m_get 5 3 dX5_bestWaiting_20 fl_X5_35 (ob_place hP) rfl ?_
      refine m_get 1 4 dX5_bestWaiting_23 fl_X5_121 (ob_jobs hP) rfl ?_
      refine r_iload dX5_bestWaiting_26 rfl ?_
      refine m_iald k dX5_bestWaiting_28 (ai_state hP) rfl (by omega) (by first | decide | assumption) ?_
      rw [t3]
      refine r_if_ne 69 dX5_bestWaiting_29 (by decide) (fun h29 => ?_) (fun h29 => ?_)
      · refine s_iinc dX5_bestWaiting_69 rfl (by decide) rfl ?_
        refine r_goto 7 dX5_bestWaiting_72 (by decide) ?_
        exact m_sub ih (by simp [a_sub, nI_succ, bw_n h29])
      · refine r_aload_n dX5_bestWaiting_32 rfl ?_
        refine m_get 5 4 dX5_bestWaiting_33 fl_X5_42 (ob_place hP) rfl ?_
        refine r_aload_n dX5_bestWaiting_36 rfl ?_
        refine m_get 5 3 dX5_bestWaiting_37 fl_X5_35 (ob_place hP) rfl ?_
        refine m_get 1 1 dX5_bestWaiting_40 fl_X5_124 (ob_jobs hP) rfl ?_
        refine r_iload dX5_bestWaiting_43 rfl ?_
        refine m_iald k dX5_bestWaiting_45 (ai_leaf hP) rfl (by omega) (by first | decide | assumption) ?_
        rw [t0, hu2]
        refine m_cv1 dX5_bestWaiting_46 cv_X5_127 (c_X6_nextWorthOf hP (by omega)) rfl (ob_scale hP) ⟨_, rfl, rfl⟩ ⟨rfl, rfl⟩ (by decide) (by decide) (Nat.le_of_ble_eq_true rfl) ?_
        rw [(hC.1 u hu).2.2.1]
        refine s_lstore dX5_bestWaiting_49 (by decide) rfl ?_
        refine r_iload_n dX5_bestWaiting_51 rfl ?_
        refine r_iconst_m1 dX5_bestWaiting_52 ?_
        refine r_icmp_eq 63 dX5_bestWaiting_53 (by decide) (fun h53 => ?_) (fun h53 => ?_)
        · refine r_iload dX5_bestWaiting_63 rfl ?_
          refine s_istore_n 1 dX5_bestWaiting_65 (by decide) rfl rfl ?_
          refine r_lload dX5_bestWaiting_66 rfl ?_
          refine s_lstore_n 2 dX5_bestWaiting_68 (by decide) rfl rfl ?_
          refine s_iinc dX5_bestWaiting_69 rfl (by decide) rfl ?_
          refine r_goto 7 dX5_bestWaiting_72 (by decide) ?_
          first | (have e := bw_y h29 hu2 (by omega) (Or.inl h53); exact m_sub ih (by simp [a_sub, nI_succ, e])) | (rw [lg_cmp_le, ← Int64.not_lt] at h60; have e := bw_k h29 hu2 (by omega) h53 h60; exact m_sub ih (by simp [a_sub, nI_succ, e])) | (rw [lg_cmp_le, Int64.not_le] at h60; have e := bw_y h29 hu2 (by omega) (Or.inr h60); exact m_sub ih (by simp [a_sub, nI_succ, e]))
        · refine r_lload dX5_bestWaiting_56 rfl ?_
          refine r_lload_n dX5_bestWaiting_58 rfl ?_
          refine r_lcmp dX5_bestWaiting_59 ?_
          refine r_if_le 69 dX5_bestWaiting_60 (by decide) (fun h60 => ?_) (fun h60 => ?_)
          · refine s_iinc dX5_bestWaiting_69 rfl (by decide) rfl ?_
            refine r_goto 7 dX5_bestWaiting_72 (by decide) ?_
            first | (have e := bw_y h29 hu2 (by omega) (Or.inl h53); exact m_sub ih (by simp [a_sub, nI_succ, e])) | (rw [lg_cmp_le, ← Int64.not_lt] at h60; have e := bw_k h29 hu2 (by omega) h53 h60; exact m_sub ih (by simp [a_sub, nI_succ, e])) | (rw [lg_cmp_le, Int64.not_le] at h60; have e := bw_y h29 hu2 (by omega) (Or.inr h60); exact m_sub ih (by simp [a_sub, nI_succ, e]))
          · refine r_iload dX5_bestWaiting_63 rfl ?_
            refine s_istore_n 1 dX5_bestWaiting_65 (by decide) rfl rfl ?_
            refine r_lload dX5_bestWaiting_66 rfl ?_
            refine s_lstore_n 2 dX5_bestWaiting_68 (by decide) rfl rfl ?_
            refine s_iinc dX5_bestWaiting_69 rfl (by decide) rfl ?_
            refine r_goto 7 dX5_bestWaiting_72 (by decide) ?_
            first | (have e := bw_y h29 hu2 (by omega) (Or.inl h53); exact m_sub ih (by simp [a_sub, nI_succ, e])) | (rw [lg_cmp_le, ← Int64.not_lt] at h60; have e := bw_k h29 hu2 (by omega) h53 h60; exact m_sub ih (by simp [a_sub, nI_succ, e])) | (rw [lg_cmp_le, Int64.not_le] at h60; have e := bw_y h29 hu2 (by omega) (Or.inr h60); exact m_sub ih (by simp [a_sub, nI_succ, e]))
  exact m_sub (lp 0 (Nat.zero_le _)) (by simp [a_sub, nI_0, bwF])
theorem c_X5_leastRunning {m : Nat} (hP : PL p) (hJ : QJ M p a) (hC : QC M L p a) (wU : WU a) (wJ : WJ a) : AD yX5_leastRunning I_X5_leastRunning [.ref p, .int (nI m)] (hS M L dd) (.inl (some (.int (lrS a m)))) (hS M L dd) := by
  intro Q hq
  refine a_met (by decide +kernel) rfl rfl (Nat.le_of_ble_eq_true rfl) (by simp [Value.category]) (by decide) rfl ?_
  show AW I_X5_leastRunning 0 [.ref p, .int (nI m), .null, .null, .null, .null, .null, .null] [] (hS M L dd) 0 0 Q
  have h30 := wJ.2.1
  have h12 := wU.2.2.1
  have hn := hJ.1.trans wJ.1
  refine r_iconst_m1 dX5_leastRunning_0 ?_
  refine s_istore_n 2 dX5_leastRunning_1 (by decide) rfl rfl ?_
  refine r_lconst_0 dX5_leastRunning_2 ?_
  refine s_lstore_n 3 dX5_leastRunning_3 (by decide) rfl rfl ?_
  refine r_iconst_0 dX5_leastRunning_4 ?_
  refine s_istore dX5_leastRunning_5 (by decide) rfl ?_
  have lp : ∀ k, k ≤ nj a → AW I_X5_leastRunning 7 [.ref p, .int (nI m), .int (lrP a m k).1, .long (lrP a m k).2, .null, .int (nI k), .null, .null] [] (hS M L dd) 0 0 Q := by
    refine lp_up _ ?_ ?_
    · refine r_iload dX5_leastRunning_7 rfl ?_
      refine r_aload_n dX5_leastRunning_9 rfl ?_
      refine m_get 5 3 dX5_leastRunning_10 fl_X5_35 (ob_place hP) rfl ?_
      refine m_get 1 0 dX5_leastRunning_13 fl_X5_120 (ob_jobs hP) rfl ?_
      refine r_icmp_ge 75 dX5_leastRunning_16 (by decide) (fun _ => ?_) (fun z => absurd (by rw [hn]; exact nI_le (Nat.le_refl _) (by omega)) z)
      refine r_iload_n dX5_leastRunning_75 rfl ?_
      exact e_iret dX5_leastRunning_76 rfl hq (rfl)
    · intro k hk ih 
      obtain ⟨t0, t1, t2, t3, t4, t5, t6⟩ := hJ.2 k hk
      obtain ⟨u, hu, hu2, hlf⟩ := wJ.2.2.1 k hk
      refine r_iload dX5_leastRunning_7 rfl ?_
      refine r_aload_n dX5_leastRunning_9 rfl ?_
      refine m_get 5 3 dX5_leastRunning_10 fl_X5_35 (ob_place hP) rfl ?_
      refine m_get 1 0 dX5_leastRunning_13 fl_X5_120 (ob_jobs hP) rfl ?_
      refine r_icmp_ge 75 dX5_leastRunning_16 (by decide) (fun z => absurd z (by rw [hn]; exact nI_ge hk (by omega))) (fun _ => ?_)
      refine r_aload_n dX5_leastRunning_19 rfl ?_
      refine m_get 5 3 dX5_leastRunning_20 fl_X5_35 (ob_place hP) rfl ?_
      refine r_iload dX5_leastRunning_23 rfl ?_
      refine r_iload_n dX5_leastRunning_25 rfl ?_
      refine m_cv2 dX5_leastRunning_26 cv_X5_131 (c_X1_runsOn hP hJ wJ.1 h30 hk) rfl (ob_jobs hP) ⟨_, rfl, rfl⟩ ⟨rfl, rfl⟩ (by decide) (by decide) (Nat.le_of_ble_eq_true rfl) ?_
      refine r_if_eq 69 dX5_leastRunning_29 (by decide) (fun h29 => ?_) (fun h29 => ?_)
      · rw [bI_0] at h29
        refine s_iinc dX5_leastRunning_69 rfl (by decide) rfl ?_
        refine r_goto 7 dX5_leastRunning_72 (by decide) ?_
        exact m_sub ih (by simp [a_sub, nI_succ, lr_n h29])
      · rw [bI_0, Decidable.not_not] at h29
        refine r_aload_n dX5_leastRunning_32 rfl ?_
        refine m_get 5 4 dX5_leastRunning_33 fl_X5_42 (ob_place hP) rfl ?_
        refine r_aload_n dX5_leastRunning_36 rfl ?_
        refine m_get 5 3 dX5_leastRunning_37 fl_X5_35 (ob_place hP) rfl ?_
        refine m_get 1 1 dX5_leastRunning_40 fl_X5_124 (ob_jobs hP) rfl ?_
        refine r_iload dX5_leastRunning_43 rfl ?_
        refine m_iald k dX5_leastRunning_45 (ai_leaf hP) rfl (by omega) (by first | decide | assumption) ?_
        rw [t0, hu2]
        refine m_cv1 dX5_leastRunning_46 cv_X5_135 (c_X6_nowWorthOf hP (by omega)) rfl (ob_scale hP) ⟨_, rfl, rfl⟩ ⟨rfl, rfl⟩ (by decide) (by decide) (Nat.le_of_ble_eq_true rfl) ?_
        rw [(hC.1 u hu).2.2.2]
        refine s_lstore dX5_leastRunning_49 (by decide) rfl ?_
        refine r_iload_n dX5_leastRunning_51 rfl ?_
        refine r_iconst_m1 dX5_leastRunning_52 ?_
        refine r_icmp_eq 63 dX5_leastRunning_53 (by decide) (fun h53 => ?_) (fun h53 => ?_)
        · refine r_iload dX5_leastRunning_63 rfl ?_
          refine s_istore_n 2 dX5_leastRunning_65 (by decide) rfl rfl ?_
          refine r_lload dX5_leastRunning_66 rfl ?_
          refine s_lstore_n 3 dX5_leastRunning_68 (by decide) rfl rfl ?_
          refine s_iinc dX5_leastRunning_69 rfl (by decide) rfl ?_
          refine r_goto 7 dX5_leastRunning_72 (by decide) ?_
          first | (have e := lr_y h29 hu2 (by omega) (Or.inl h53); exact m_sub ih (by simp [a_sub, nI_succ, e])) | (rw [lg_cmp_gt, ← Int64.not_le] at h60; have e := lr_k h29 hu2 (by omega) h53 h60; exact m_sub ih (by simp [a_sub, nI_succ, e])) | (rw [lg_cmp_gt, Int64.not_lt] at h60; have e := lr_y h29 hu2 (by omega) (Or.inr h60); exact m_sub ih (by simp [a_sub, nI_succ, e]))
        · refine r_lload dX5_leastRunning_56 rfl ?_
          refine r_lload_n dX5_leastRunning_58 rfl ?_
          refine r_lcmp dX5_leastRunning_59 ?_
          refine r_if_gt 69 dX5_leastRunning_60 (by decide) (fun h60 => ?_) (fun h60 => ?_)
          · refine s_iinc dX5_leastRunning_69 rfl (by decide) rfl ?_
            refine r_goto 7 dX5_leastRunning_72 (by decide) ?_
            first | (have e := lr_y h29 hu2 (by omega) (Or.inl h53); exact m_sub ih (by simp [a_sub, nI_succ, e])) | (rw [lg_cmp_gt, ← Int64.not_le] at h60; have e := lr_k h29 hu2 (by omega) h53 h60; exact m_sub ih (by simp [a_sub, nI_succ, e])) | (rw [lg_cmp_gt, Int64.not_lt] at h60; have e := lr_y h29 hu2 (by omega) (Or.inr h60); exact m_sub ih (by simp [a_sub, nI_succ, e]))
          · refine r_iload dX5_leastRunning_63 rfl ?_
            refine s_istore_n 2 dX5_leastRunning_65 (by decide) rfl rfl ?_
            refine r_lload dX5_leastRunning_66 rfl ?_
            refine s_lstore_n 3 dX5_leastRunning_68 (by decide) rfl rfl ?_
            refine s_iinc dX5_leastRunning_69 rfl (by decide) rfl ?_
            refine r_goto 7 dX5_leastRunning_72 (by decide) ?_
            first | (have e := lr_y h29 hu2 (by omega) (Or.inl h53); exact m_sub ih (by simp [a_sub, nI_succ, e])) | (rw [lg_cmp_gt, ← Int64.not_le] at h60; have e := lr_k h29 hu2 (by omega) h53 h60; exact m_sub ih (by simp [a_sub, nI_succ, e])) | (rw [lg_cmp_gt, Int64.not_lt] at h60; have e := lr_y h29 hu2 (by omega) (Or.inr h60); exact m_sub ih (by simp [a_sub, nI_succ, e]))
  exact m_sub (lp 0 (Nat.zero_le _)) (by simp [a_sub, nI_0, lrF])
theorem c_X5_freeMachine (hP : PL p) (hM : QM M p a) (hC : QC M L p a) (wM : WM a) : AD yX5_freeMachine I_X5_freeMachine [.ref p] (hS M L dd) (.inl (some (.int (fmS a)))) (hS M L dd) := by
  intro Q hq
  refine a_met (by decide +kernel) rfl rfl (Nat.le_of_ble_eq_true rfl) (by simp [Value.category]) (by decide) rfl ?_
  show AW I_X5_freeMachine 0 [.ref p, .null] [] (hS M L dd) 0 0 Q
  have h6 := wM.2.1
  have hn := hM.1.trans wM.1
  refine r_iconst_0 dX5_freeMachine_0 ?_
  refine s_istore_n 1 dX5_freeMachine_1 (by decide) rfl rfl ?_
  have lp : ∀ k, k ≤ nm a → fstB (fun m => decide (a (52 + m) = 1 ∧ buS a m < a (46 + m))) k = -1 → AW I_X5_freeMachine 2 [.ref p, .int (nI k)] [] (hS M L dd) 0 0 Q := by
    refine lp_up _ ?_ ?_
    · intro hz 
      refine r_iload_n dX5_freeMachine_2 rfl ?_
      refine r_aload_n dX5_freeMachine_3 rfl ?_
      refine m_get 5 2 dX5_freeMachine_4 fl_X5_28 (ob_place hP) rfl ?_
      refine m_get 3 0 dX5_freeMachine_7 fl_X5_107 (ob_machines hP) rfl ?_
      refine r_icmp_ge 53 dX5_freeMachine_10 (by decide) (fun _ => ?_) (fun z => absurd (by rw [hn]; exact nI_le (Nat.le_refl _) (by omega)) z)
      refine r_iconst_m1 dX5_freeMachine_53 ?_
      exact e_iret dX5_freeMachine_54 rfl hq (by exact hz.symm)
    · intro k hk ih hz 
      obtain ⟨t0, t1⟩ := hM.2 k hk
      have t2 := hC.2 k hk
      refine r_iload_n dX5_freeMachine_2 rfl ?_
      refine r_aload_n dX5_freeMachine_3 rfl ?_
      refine m_get 5 2 dX5_freeMachine_4 fl_X5_28 (ob_place hP) rfl ?_
      refine m_get 3 0 dX5_freeMachine_7 fl_X5_107 (ob_machines hP) rfl ?_
      refine r_icmp_ge 53 dX5_freeMachine_10 (by decide) (fun z => absurd z (by rw [hn]; exact nI_ge hk (by omega))) (fun _ => ?_)
      refine r_aload_n dX5_freeMachine_13 rfl ?_
      refine m_get 5 2 dX5_freeMachine_14 fl_X5_28 (ob_place hP) rfl ?_
      refine r_iload_n dX5_freeMachine_17 rfl ?_
      refine m_cv1 dX5_freeMachine_18 cv_X5_110 (c_X3_isUp hP hM wM.1 h6 hk) rfl (ob_machines hP) ⟨_, rfl, rfl⟩ ⟨rfl, rfl⟩ (by decide) (by decide) (Nat.le_of_ble_eq_true rfl) ?_
      refine r_if_eq 47 dX5_freeMachine_21 (by decide) (fun h21 => ?_) (fun h21 => ?_)
      · refine s_iinc dX5_freeMachine_47 rfl (by decide) rfl ?_
        refine r_goto 2 dX5_freeMachine_50 (by decide) ?_
        exact m_sub (ih (fstB_s hz (decide_eq_false (by first | (rw [bI_0] at h21; exact fun z => h21 z.1) | (rw [t0, t2] at h42; exact fun z => absurd z.2 (by rwa [Int32.not_lt])))))) (by simp [a_sub, nI_succ])
      · refine r_aload_n dX5_freeMachine_24 rfl ?_
        refine m_get 5 4 dX5_freeMachine_25 fl_X5_42 (ob_place hP) rfl ?_
        refine m_get 6 3 dX5_freeMachine_28 fl_X5_114 (ob_scale hP) rfl ?_
        refine r_iload_n dX5_freeMachine_31 rfl ?_
        refine m_iald k dX5_freeMachine_32 (ai_busy hP) rfl (by omega) (by first | decide | assumption) ?_
        refine r_aload_n dX5_freeMachine_33 rfl ?_
        refine m_get 5 2 dX5_freeMachine_34 fl_X5_28 (ob_place hP) rfl ?_
        refine m_get 3 1 dX5_freeMachine_37 fl_X5_117 (ob_machines hP) rfl ?_
        refine r_iload_n dX5_freeMachine_40 rfl ?_
        refine m_iald k dX5_freeMachine_41 (ai_slots hP) rfl (by omega) (by first | decide | assumption) ?_
        refine r_icmp_ge 47 dX5_freeMachine_42 (by decide) (fun h42 => ?_) (fun h42 => ?_)
        · refine s_iinc dX5_freeMachine_47 rfl (by decide) rfl ?_
          refine r_goto 2 dX5_freeMachine_50 (by decide) ?_
          exact m_sub (ih (fstB_s hz (decide_eq_false (by first | (rw [bI_0] at h21; exact fun z => h21 z.1) | (rw [t0, t2] at h42; exact fun z => absurd z.2 (by rwa [Int32.not_lt])))))) (by simp [a_sub, nI_succ])
        · refine r_iload_n dX5_freeMachine_45 rfl ?_
          exact e_iret dX5_freeMachine_46 rfl hq ((by rw [bI_0, Decidable.not_not] at h21; rw [t0, t2, Int32.not_le] at h42; exact (fstB_at hz (decide_eq_true ⟨h21, h42⟩) hk (by omega)).symm))
  exact m_sub (lp 0 (Nat.zero_le _) rfl) (by simp [a_sub, nI_0])
theorem c_X5_keptWork {w : Int32} (hP : PL p) (hQ : QS M p a) (wS : WS T a) : AD yX5_keptWork I_X5_keptWork [.ref p, .int w] (hS M L dd) (.inl (some (.int (w - w % a 3)))) (hS M L dd) := by
  intro Q hq
  refine a_met (by decide +kernel) rfl rfl (Nat.le_of_ble_eq_true rfl) (by simp [Value.category]) (by decide) rfl ?_
  show AW I_X5_keptWork 0 [.ref p, .int w, .null] [] (hS M L dd) 0 0 Q
  have e := hQ.2.2.1
  have e2 : ¬ M (p + 30) 2 ≤ 0 := by rw [e, wS.2.2.2.2.2.2.2.2.1]; exact nI_nle (by have := wS.2.2.2.2.2.2.2.2.2.1; omega) (by have := wS.2.2.2.2.2.2.2.2.2.2; omega)
  refine r_aload_n dX5_keptWork_0 rfl ?_
  refine m_get 5 5 dX5_keptWork_1 fl_X5_46 (ob_place hP) rfl ?_
  refine r_iconst_2 dX5_keptWork_4 ?_
  refine m_iald 2 dX5_keptWork_5 (ai_settings hP) rfl (by omega) (by first | decide | assumption) ?_
  refine s_istore_n 2 dX5_keptWork_6 (by decide) rfl rfl ?_
  refine r_iload_n dX5_keptWork_7 rfl ?_
  refine r_if_le 19 dX5_keptWork_8 (by decide) (fun z => absurd z e2) (fun _ => ?_)
  refine r_iload_n dX5_keptWork_11 rfl ?_
  refine r_iload_n dX5_keptWork_12 rfl ?_
  refine r_iload_n dX5_keptWork_13 rfl ?_
  refine r_irem dX5_keptWork_14 (fun z => e2 (by rw [z]; decide)) ?_
  refine r_isub dX5_keptWork_15 ?_
  refine r_goto 20 dX5_keptWork_16 (by decide) ?_
  exact e_iret dX5_keptWork_20 rfl hq (by rw [e])
theorem c_X5_outweighs {b r u v : Nat} (hP : PL p) (hJ : QJ M p a) (hQ : QS M p a) (hC : QC M L p a) (wU : WU a) (wJ : WJ a) (wS : WS T a) (hb : b < nj a) (hr : r < nj a) (hu : jb a b 0 = nI u) (hu2 : u < nu a) (hv : jb a r 0 = nI v) (hv2 : v < nu a) : AD yX5_outweighs I_X5_outweighs [.ref p, .int (nI b), .int (nI r)] (hS M L dd) (.inl (some (.int (bI ((100 + (a 2).toInt64) * wwS a v < 100 * wnS a u))))) (hS M L dd) := by
  intro Q hq
  refine a_met (by decide +kernel) rfl rfl (Nat.le_of_ble_eq_true rfl) (by simp [Value.category]) (by decide) rfl ?_
  show AW I_X5_outweighs 0 [.ref p, .int (nI b), .int (nI r), .null, .null, .null, .null] [] (hS M L dd) 0 0 Q
  have h30 := wJ.2.1
  have h12 := wU.2.2.1
  have hn := hJ.1.trans wJ.1
  have eb := (hJ.2 b hb).1.trans hu
  have er := (hJ.2 r hr).1.trans hv
  have es := hQ.2.1
  have e100 : (100 + a 2).toInt64 = 100 + (a 2).toInt64 := by
    have h1 := wS.2.2.2.2.2.2.1
    have h2 := wS.2.2.2.2.2.2.2.1
    rw [h1, show (100 : Int32) = nI 100 from rfl, nI_add, nI_l (by omega), nI_l (by omega), show (100 : Int64) = lN 100 from rfl, lN_add]
  refine r_aload_n dX5_outweighs_0 rfl ?_
  refine m_get 5 3 dX5_outweighs_1 fl_X5_35 (ob_place hP) rfl ?_
  refine r_iload_n dX5_outweighs_4 rfl ?_
  refine m_cv1 dX5_outweighs_5 cv_X5_138 (c_X1_has hP) rfl (ob_jobs hP) ⟨_, rfl, rfl⟩ ⟨rfl, rfl⟩ (by decide) (by decide) (Nat.le_of_ble_eq_true rfl) ?_
  refine r_if_eq 22 dX5_outweighs_8 (by decide) (fun z => absurd z (by rw [bI_t ⟨nI_pos' (by omega), by rw [hn]; exact nI_lt hb (by omega)⟩]; decide)) (fun _ => ?_)
  refine r_aload_n dX5_outweighs_11 rfl ?_
  refine m_get 5 3 dX5_outweighs_12 fl_X5_35 (ob_place hP) rfl ?_
  refine r_iload_n dX5_outweighs_15 rfl ?_
  refine m_cv1 dX5_outweighs_16 cv_X5_138 (c_X1_has hP) rfl (ob_jobs hP) ⟨_, rfl, rfl⟩ ⟨rfl, rfl⟩ (by decide) (by decide) (Nat.le_of_ble_eq_true rfl) ?_
  refine r_if_ne 24 dX5_outweighs_19 (by decide) (fun _ => ?_) (fun z => absurd z (by rw [bI_t ⟨nI_pos' (by omega), by rw [hn]; exact nI_lt hr (by omega)⟩]; decide))
  refine r_aload_n dX5_outweighs_24 rfl ?_
  refine m_get 5 4 dX5_outweighs_25 fl_X5_42 (ob_place hP) rfl ?_
  refine r_aload_n dX5_outweighs_28 rfl ?_
  refine m_get 5 3 dX5_outweighs_29 fl_X5_35 (ob_place hP) rfl ?_
  refine m_get 1 1 dX5_outweighs_32 fl_X5_124 (ob_jobs hP) rfl ?_
  refine r_iload_n dX5_outweighs_35 rfl ?_
  refine m_iald b dX5_outweighs_36 (ai_leaf hP) rfl (by omega) (by first | decide | assumption) ?_
  rw [eb]
  refine m_cv1 dX5_outweighs_37 cv_X5_127 (c_X6_nextWorthOf hP (by omega)) rfl (ob_scale hP) ⟨_, rfl, rfl⟩ ⟨rfl, rfl⟩ (by decide) (by decide) (Nat.le_of_ble_eq_true rfl) ?_
  refine s_lstore_n 3 dX5_outweighs_40 (by decide) rfl rfl ?_
  refine r_aload_n dX5_outweighs_41 rfl ?_
  refine m_get 5 4 dX5_outweighs_42 fl_X5_42 (ob_place hP) rfl ?_
  refine r_aload_n dX5_outweighs_45 rfl ?_
  refine m_get 5 3 dX5_outweighs_46 fl_X5_35 (ob_place hP) rfl ?_
  refine m_get 1 1 dX5_outweighs_49 fl_X5_124 (ob_jobs hP) rfl ?_
  refine r_iload_n dX5_outweighs_52 rfl ?_
  refine m_iald r dX5_outweighs_53 (ai_leaf hP) rfl (by omega) (by first | decide | assumption) ?_
  rw [er]
  refine m_cv1 dX5_outweighs_54 cv_X5_135 (c_X6_nowWorthOf hP (by omega)) rfl (ob_scale hP) ⟨_, rfl, rfl⟩ ⟨rfl, rfl⟩ (by decide) (by decide) (Nat.le_of_ble_eq_true rfl) ?_
  refine s_lstore dX5_outweighs_57 (by decide) rfl ?_
  refine r_ldc2 100 dX5_outweighs_59 k_1134 ?_
  refine r_lload_n dX5_outweighs_62 rfl ?_
  refine r_lmul dX5_outweighs_63 ?_
  refine r_bipush 100 dX5_outweighs_64 (by decide) ?_
  refine r_aload_n dX5_outweighs_66 rfl ?_
  refine m_get 5 5 dX5_outweighs_67 fl_X5_46 (ob_place hP) rfl ?_
  refine r_iconst_1 dX5_outweighs_70 ?_
  refine m_iald 1 dX5_outweighs_71 (ai_settings hP) rfl (by omega) (by first | decide | assumption) ?_
  refine r_iadd dX5_outweighs_72 ?_
  refine r_i2l dX5_outweighs_73 ?_
  refine r_lload dX5_outweighs_74 rfl ?_
  refine r_lmul dX5_outweighs_76 ?_
  rw [(hC.1 u hu2).2.2.1, (hC.1 v hv2).2.2.2, es, e100]
  refine r_lcmp dX5_outweighs_77 ?_
  refine r_if_le 85 dX5_outweighs_78 (by decide) (fun h78 => ?_) (fun h78 => ?_)
  · refine r_iconst_0 dX5_outweighs_85 ?_
    exact e_zret dX5_outweighs_86 rfl hq (by rw [lg_cmp_le] at h78; first | rw [bI_f (by rwa [Int64.not_lt])] | rw [bI_t (by rwa [← Int64.not_le])])
  · refine r_iconst_1 dX5_outweighs_81 ?_
    refine r_goto 86 dX5_outweighs_82 (by decide) ?_
    exact e_zret dX5_outweighs_86 rfl hq (by rw [lg_cmp_le] at h78; first | rw [bI_f (by rwa [Int64.not_lt])] | rw [bI_t (by rwa [← Int64.not_le])])
theorem qx_je {b : Nat → Int32} (h : JE a b) (hW : WF T a) (hT : QT M p a) (hB : QB M p a) (hL : QL M p a) (hM : QM M p a) : QT M p b ∧ QB M p b ∧ QL M p b ∧ QM M p b :=
  ⟨qt_c (fun i hi => h i (by omega)) hW.1.2.2.1 hT, qb_c (je_te h) hW.1 hB, ql_c (fun i hi => h i (by omega)) hW.2.2.2.2.1.2.1 hL, qm_c (fun i hi => h i (by omega)) hW.2.2.1.2.1 hM⟩
theorem c_X5_startJob {j m : Nat} (hP : PL p) (hQ : QP M p a) (hC : QC M L p a) (hW : WF T a) (hj : j < nj a) (h3 : jb a j 3 = 0) (hm : m < nm a) : PO yX5_startJob I_X5_startJob [.ref p, .int (nI j), .int (nI m)] M L dd none (fun M' L' => Fr (p + 15) (p + 28) M M' ∧ FrL (p + 28) (p + 30) L L' ∧ QP M' p (runS a j (nI m)) ∧ QC M' L' p (runS a j (nI m))) := by
  obtain ⟨qT, qB, qL, qM, qJ, qS⟩ := hQ
  have wU := hW.1
  have wM := hW.2.2.1
  have wJ := hW.2.2.2.1
  have h30 := wJ.2.1
  have h12 := wU.2.2.1
  have h6 := wM.2.1
  have hn := qJ.1.trans wJ.1
  obtain ⟨u, hu, hu2, hlf⟩ := wJ.2.2.1 j hj
  have hJE := je_run (a := a) (j := j) (m := nI m) (by omega)
  refine po_mk (fun Q hq => ?_)
  refine a_met (by decide +kernel) rfl rfl (Nat.le_of_ble_eq_true rfl) (by simp [Value.category]) (by decide) rfl ?_
  show AW I_X5_startJob 0 [.ref p, .int (nI j), .int (nI m)] [] (hS M L dd) 0 0 Q
  refine r_aload_n dX5_startJob_0 rfl ?_
  refine m_get 5 3 dX5_startJob_1 fl_X5_35 (ob_place hP) rfl ?_
  refine r_iload_n dX5_startJob_4 rfl ?_
  refine m_cv1 dX5_startJob_5 cv_X5_138 (c_X1_has hP) rfl (ob_jobs hP) ⟨_, rfl, rfl⟩ ⟨rfl, rfl⟩ (by decide) (by decide) (Nat.le_of_ble_eq_true rfl) ?_
  refine r_if_eq 39 dX5_startJob_8 (by decide) (fun z => absurd z (by rw [bI_t ⟨nI_pos' (by omega), by rw [hn]; exact nI_lt hj (by omega)⟩]; decide)) (fun _ => ?_)
  refine r_aload_n dX5_startJob_11 rfl ?_
  refine m_get 5 3 dX5_startJob_12 fl_X5_35 (ob_place hP) rfl ?_
  refine r_iload_n dX5_startJob_15 rfl ?_
  refine r_iload_n dX5_startJob_16 rfl ?_
  refine m_pv2 dX5_startJob_17 cv_X5_141 (c_X1_start hP qJ wJ.1 h30 hj) (ob_jobs hP) ⟨_, rfl, rfl⟩ ⟨rfl, rfl⟩ (by decide) (by decide) (Nat.le_of_ble_eq_true rfl) (fun M1 L1 ⟨x1, x2, x3⟩ => ?_)
  subst x1
  refine r_aload_n dX5_startJob_20 rfl ?_
  refine m_get 5 4 dX5_startJob_21 fl_X5_42 (ob_place hP) rfl ?_
  refine r_aload_n dX5_startJob_24 rfl ?_
  refine r_aload_n dX5_startJob_25 rfl ?_
  refine m_get 5 3 dX5_startJob_26 fl_X5_35 (ob_place hP) rfl ?_
  refine m_get 1 1 dX5_startJob_29 fl_X5_124 (ob_jobs hP) rfl ?_
  refine r_iload_n dX5_startJob_32 rfl ?_
  refine m_iald j dX5_startJob_33 (ai_leaf hP) rfl (by omega) (by first | decide | assumption) ?_
  rw [(x3.2 j (by rw [nj_run]; exact hj)).1, show jb (runS a j (nI m)) j 0 = nI u from by rw [jb_run (by omega), if_neg (fun z => by omega), if_neg (fun z => by omega), hu2]]
  have hC1 : QC M1 L1 p a := by
    unfold QC
    rw [x2 (p + 24) (by omega), x2 (p + 26) (by omega), x2 (p + 27) (by omega)]
    exact hC
  refine r_iload_n dX5_startJob_34 rfl ?_
  refine r_iconst_1 dX5_startJob_35 ?_
  refine m_pv4 dX5_startJob_36 cv_X5_144 (c_X6_shift hP (rt_fr qT x2 (by omega)) (qm_f x2 (by omega) qM) wU wM hC1 hu hm (b := runS a j (nI m)) (te_nu (je_te hJE)) (congrArg zN (hJE 5 (by omega))) (fun v hv => lo_run hj h3 hu2 (by omega) (by omega)) (fun v hv => bu_run hj h3 (by omega) (by omega)) (fun v hv => ⟨tk_je hJE wU hv, hJE _ (by omega)⟩)) (ob_scale hP) ⟨_, rfl, rfl⟩ ⟨rfl, rfl⟩ (by decide) (by decide) (Nat.le_of_ble_eq_true rfl) (fun M2 L2 ⟨y1, y2, y3⟩ => ?_)
  have hF : Fr (p + 15) (p + 28) M M2 := fr_t (fr_w x2 (by omega) (by omega)) (fr_w y1 (by omega) (by omega))
  obtain ⟨z1, z2, z3, z4⟩ := qx_je hJE hW (rt_fr qT hF (by omega)) (qb_f hF (by omega) qB) (ql_f hF (by omega) qL) (qm_f hF (by omega) qM)
  exact r_vret dX5_startJob_39 rfl (hq _ _ ⟨hF, y2, ⟨z1, z2, z3, z4, qj_f y1 (by omega) x3, qs_c (fun i hi => by unfold runS; exact (upd_ne (by omega)).trans (upd_ne (by omega))) (qs_f hF (by omega) qS)⟩, y3⟩)
theorem int_row {j : Nat} (hj : j < 30) : ∀ i, (i = 6 ∨ 58 ≤ i ∧ i < 268) → intS a j i = layJ (layJ (layJ a j 3 0) j 4 (-1)) j 2 (jb a j 2 - jb a j 2 % a 3) i := by
  intro i hi
  simp only [intS, layJ, upd]
  have h8 : ¬ i = 8 := by omega
  have h9 : ¬ i = 9 := by omega
  simp only [h8, h9, if_false]
  by_cases e4 : i = 58 + 7 * j + 4
  · simp [e4]
  · by_cases e3 : i = 58 + 7 * j + 3
    · simp [e3]
    · simp [e4, e3]
theorem c_X5_interruptJob {j m : Nat} (hP : PL p) (hQ : QP M p a) (hC : QC M L p a) (hW : WF T a) (hj : j < nj a) (h3 : jb a j 3 = 1) (h4 : jb a j 4 = nI m) (hm : m < nm a) : PO yX5_interruptJob I_X5_interruptJob [.ref p, .int (nI j)] M L dd none (fun M' L' => Fr p (p + 28) M M' ∧ FrL (p + 28) (p + 30) L L' ∧ QP M' p (intS a j) ∧ QC M' L' p (intS a j)) := by
  obtain ⟨qT, qB, qL, qM, qJ, qS⟩ := hQ
  have wU := hW.1
  have wM := hW.2.2.1
  have wJ := hW.2.2.2.1
  have h30 := wJ.2.1
  have h12 := wU.2.2.1
  have h6 := wM.2.1
  have hn := qJ.1.trans wJ.1
  obtain ⟨u, hu, hu2, hlf⟩ := wJ.2.2.1 j hj
  obtain ⟨t0, t1, t2, t3, t4, t5, t6⟩ := qJ.2 j hj
  have hJE := je_int (a := a) (j := j) (by omega)
  refine po_mk (fun Q hq => ?_)
  refine a_met (by decide +kernel) rfl rfl (Nat.le_of_ble_eq_true rfl) (by simp [Value.category]) (by decide) rfl ?_
  show AW I_X5_interruptJob 0 [.ref p, .int (nI j), .null] [] (hS M L dd) 0 0 Q
  refine r_aload_n dX5_interruptJob_0 rfl ?_
  refine m_get 5 3 dX5_interruptJob_1 fl_X5_35 (ob_place hP) rfl ?_
  refine r_iload_n dX5_interruptJob_4 rfl ?_
  refine m_cv1 dX5_interruptJob_5 cv_X5_138 (c_X1_has hP) rfl (ob_jobs hP) ⟨_, rfl, rfl⟩ ⟨rfl, rfl⟩ (by decide) (by decide) (Nat.le_of_ble_eq_true rfl) ?_
  refine r_if_ne 12 dX5_interruptJob_8 (by decide) (fun _ => ?_) (fun z => absurd z (by rw [bI_t ⟨nI_pos' (by omega), by rw [hn]; exact nI_lt hj (by omega)⟩]; decide))
  refine r_aload_n dX5_interruptJob_12 rfl ?_
  refine r_aload_n dX5_interruptJob_13 rfl ?_
  refine m_get 5 3 dX5_interruptJob_14 fl_X5_35 (ob_place hP) rfl ?_
  refine m_get 1 3 dX5_interruptJob_17 fl_X5_148 (ob_jobs hP) rfl ?_
  refine r_iload_n dX5_interruptJob_20 rfl ?_
  refine m_iald j dX5_interruptJob_21 (ai_work hP) rfl (by omega) (by first | decide | assumption) ?_
  rw [t2]
  refine m_cv1 dX5_interruptJob_22 cv_X5_151 (c_X5_keptWork hP qS hW.2.2.2.2.2) rfl (ob_place hP) ⟨_, rfl, rfl⟩ ⟨rfl, rfl⟩ (by decide) (by decide) (Nat.le_of_ble_eq_true rfl) ?_
  refine s_istore_n 2 dX5_interruptJob_25 (by decide) rfl rfl ?_
  refine r_aload_n dX5_interruptJob_26 rfl ?_
  refine r_dup dX5_interruptJob_27 rfl ?_
  refine m_get 5 7 dX5_interruptJob_28 fl_X5_70 (ob_place hP) rfl ?_
  refine r_iconst_1 dX5_interruptJob_31 ?_
  refine r_iadd dX5_interruptJob_32 ?_
  refine m_put 5 7 dX5_interruptJob_33 fl_X5_70 (fun r hr => by cases hr; rfl) (ob_place hP) (Nat.le_of_ble_eq_true rfl) rfl ?_
  refine r_aload_n dX5_interruptJob_36 rfl ?_
  refine r_dup dX5_interruptJob_37 rfl ?_
  refine m_get 5 8 dX5_interruptJob_38 fl_X5_73 (ob_place hP) rfl ?_
  refine r_aload_n dX5_interruptJob_41 rfl ?_
  refine m_get 5 3 dX5_interruptJob_42 fl_X5_35 (ob_place hP) rfl ?_
  refine m_get 1 3 dX5_interruptJob_45 fl_X5_148 (ob_jobs hP) rfl ?_
  refine r_iload_n dX5_interruptJob_48 rfl ?_
  refine m_iald j dX5_interruptJob_49 (ai_work hP) rfl (by omega) (by first | decide | assumption) ?_
  refine r_iload_n dX5_interruptJob_50 rfl ?_
  refine r_isub dX5_interruptJob_51 ?_
  refine r_iadd dX5_interruptJob_52 ?_
  refine m_put 5 8 dX5_interruptJob_53 fl_X5_73 (fun r hr => by cases hr; rfl) (ob_place hP) (Nat.le_of_ble_eq_true rfl) rfl ?_
  refine m_abs (fun M2 => Fr p (p + 1) M M2 ∧ M2 p 6 = a 0 ∧ M2 p 7 = a 8 + 1 ∧ M2 p 8 = a 9 + jb a j 2 % a 3) ⟨fr_u (fr_u fr_r (by omega)) (by omega), ?_, ?_, ?_⟩ (fun M2 ⟨f2, s6, s7, s8⟩ => ?_)
  · simp [mU, upd, qS.2.2.2.1]
  · simp [mU, upd, qS.2.2.2.2.1]
  · simp [mU, upd, qS.2.2.2.2.2, t2]
    grind
  have qJ2 := qj_f f2 (by omega) qJ
  have hC2 : QC M2 L p a := by
    unfold QC
    rw [f2 (p + 24) (by omega), f2 (p + 26) (by omega), f2 (p + 27) (by omega)]
    exact hC
  refine r_aload_n dX5_interruptJob_56 rfl ?_
  refine m_get 5 4 dX5_interruptJob_57 fl_X5_42 (ob_place hP) rfl ?_
  refine r_aload_n dX5_interruptJob_60 rfl ?_
  refine r_aload_n dX5_interruptJob_61 rfl ?_
  refine m_get 5 3 dX5_interruptJob_62 fl_X5_35 (ob_place hP) rfl ?_
  refine m_get 1 1 dX5_interruptJob_65 fl_X5_124 (ob_jobs hP) rfl ?_
  refine r_iload_n dX5_interruptJob_68 rfl ?_
  refine m_iald j dX5_interruptJob_69 (ai_leaf hP) rfl (by omega) (by first | decide | assumption) ?_
  refine r_aload_n dX5_interruptJob_70 rfl ?_
  refine m_get 5 3 dX5_interruptJob_71 fl_X5_35 (ob_place hP) rfl ?_
  refine m_get 1 5 dX5_interruptJob_74 fl_X5_155 (ob_jobs hP) rfl ?_
  refine r_iload_n dX5_interruptJob_77 rfl ?_
  refine m_iald j dX5_interruptJob_78 (ai_machine hP) rfl (by omega) (by first | decide | assumption) ?_
  rw [(qJ2.2 j hj).1, (qJ2.2 j hj).2.2.2.2.1, hu2, h4]
  refine r_iconst_m1 dX5_interruptJob_79 ?_
  refine m_pv4 dX5_interruptJob_80 cv_X5_144 (c_X6_shift hP (rt_fr qT f2 (by omega)) (qm_f f2 (by omega) qM) wU wM hC2 hu hm (b := intS a j) (te_nu (je_te hJE)) (congrArg zN (hJE 5 (by omega))) (fun v hv => lo_int hj h3 hu2 (by omega) (by omega)) (fun v hv => bu_int hj h3 h4 (by omega) (by omega)) (fun v hv => ⟨tk_je hJE wU hv, hJE _ (by omega)⟩)) (ob_scale hP) ⟨_, rfl, rfl⟩ ⟨rfl, rfl⟩ (by decide) (by decide) (Nat.le_of_ble_eq_true rfl) (fun M3 L3 ⟨y1, y2, y3⟩ => ?_)
  refine r_aload_n dX5_interruptJob_83 rfl ?_
  refine m_get 5 3 dX5_interruptJob_84 fl_X5_35 (ob_place hP) rfl ?_
  refine r_iload_n dX5_interruptJob_87 rfl ?_
  refine r_iload_n dX5_interruptJob_88 rfl ?_
  have qJ3 := qj_f y1 (by omega) qJ2
  refine m_pv2 dX5_interruptJob_89 cv_X5_158 (c_X1_stop hP qJ3 wJ.1 h30 hj) (ob_jobs hP) ⟨_, rfl, rfl⟩ ⟨rfl, rfl⟩ (by decide) (by decide) (Nat.le_of_ble_eq_true rfl) (fun M4 L4 ⟨v1, v2, v3⟩ => ?_)
  subst v1
  have hF : Fr p (p + 28) M M4 := fr_t (fr_w f2 (by omega) (by omega)) (fr_t (fr_w y1 (by omega) (by omega)) (fr_w v2 (by omega) (by omega)))
  have hF2 : Fr (p + 15) (p + 28) M2 M4 := fr_t (fr_w y1 (by omega) (by omega)) (fr_w v2 (by omega) (by omega))
  obtain ⟨z1, z2, z3, z4⟩ := qx_je hJE hW (rt_fr (rt_fr qT f2 (by omega)) hF2 (by omega)) (qb_f hF2 (by omega) (qb_f f2 (by omega) qB)) (ql_f hF2 (by omega) (ql_f f2 (by omega) qL)) (qm_f hF2 (by omega) (qm_f f2 (by omega) qM))
  refine r_vret dX5_interruptJob_92 rfl (hq _ _ ⟨hF, y2, ⟨z1, z2, z3, z4, qj_c (int_row (by omega)) (by rw [nj_lay, nj_lay, nj_lay]; exact h30) v3, ?_⟩, ?_⟩)
  · have e : ∀ i, i < 8 → intS a j i = a i := fun i hi => hJE i (by omega)
    refine ⟨?_, ?_, ?_, ?_, ?_, ?_⟩
    · rw [hF2 _ (by omega), f2 _ (by omega), e 1 (by omega)]; exact qS.1
    · rw [hF2 _ (by omega), f2 _ (by omega), e 2 (by omega)]; exact qS.2.1
    · rw [hF2 _ (by omega), f2 _ (by omega), e 3 (by omega)]; exact qS.2.2.1
    · rw [hF2 _ (by omega), s6, e 0 (by omega)]
    · rw [hF2 _ (by omega), s7]; rfl
    · rw [hF2 _ (by omega), s8]; rfl
  · unfold QC at y3 ⊢
    rw [v2 (p + 24) (by omega), v2 (p + 26) (by omega), v2 (p + 27) (by omega)]
    exact y3
theorem c_X5_fillSlots (hP : PL p) (hQ : QP M p a) (hC : QC M L p a) (hW : WF T a) : PO yX5_fillSlots I_X5_fillSlots [.ref p] M L dd none (fun M' L' => Fr (p + 15) (p + 28) M M' ∧ FrL (p + 28) (p + 30) L L' ∧ QP M' p (fiS a) ∧ QC M' L' p (fiS a)) := by
  refine po_mk (fun Q hq => ?_)
  refine a_met (by decide +kernel) rfl rfl (Nat.le_of_ble_eq_true rfl) (by simp [Value.category]) (by decide) rfl ?_
  show AW I_X5_fillSlots 0 [.ref p, .null, .null, .null] [] (hS M L dd) 0 0 Q
  refine r_iconst_0 dX5_fillSlots_0 ?_
  refine s_istore_n 1 dX5_fillSlots_1 (by decide) rfl rfl ?_
  have lp : ∀ k, k ≤ 30 → ∀ (M' : Nat → Nat → Int32) (L' : Nat → Nat → Int64) (b : Nat → Int32), Fr (p + 15) (p + 28) M M' → FrL (p + 28) (p + 30) L L' → QP M' p b → QC M' L' p b → WF T b → fiF (30 - k) b = fiS a → AW I_X5_fillSlots 2 [.ref p, .int (nI k), .null, .null] [] (hS M' L' dd) 0 0 Q := by
    refine lp_up _ ?_ ?_
    · intro M' L' b f1 f2 g1 g2 g3 g4 
      have g5 : b = fiS a := g4
      subst g5
      refine r_iload_n dX5_fillSlots_2 rfl ?_
      refine r_bipush 30 dX5_fillSlots_3 (by decide) ?_
      refine r_icmp_ge 42 dX5_fillSlots_5 (by decide) (fun _ => ?_) (fun z => absurd (by decide) z)
      exact r_vret dX5_fillSlots_42 rfl (hq _ _ ⟨f1, f2, g1, g2⟩)
    · intro k hk ih M' L' b f1 f2 g1 g2 g3 g4 
      rw [show 30 - k = (30 - (k + 1)) + 1 by omega, fiF] at g4
      have wM := g3.2.2.1
      have wJ := g3.2.2.2.1
      have h6 := wM.2.1
      have h30 := wJ.2.1
      refine r_iload_n dX5_fillSlots_2 rfl ?_
      refine r_bipush 30 dX5_fillSlots_3 (by decide) ?_
      refine r_icmp_ge 42 dX5_fillSlots_5 (by decide) (fun z => absurd z (nI_ge hk (by decide))) (fun _ => ?_)
      refine r_aload_n dX5_fillSlots_8 rfl ?_
      refine m_cv0 dX5_fillSlots_9 cv_X5_96 (c_X5_freeMachine hP g1.2.2.2.1 g2 wM) rfl (ob_place hP) ⟨_, rfl, rfl⟩ ⟨rfl, rfl⟩ (by decide) (by decide) (Nat.le_of_ble_eq_true rfl) ?_
      refine s_istore_n 2 dX5_fillSlots_12 (by decide) rfl rfl ?_
      refine r_iload_n dX5_fillSlots_13 rfl ?_
      refine r_iconst_m1 dX5_fillSlots_14 ?_
      refine r_icmp_ne 19 dX5_fillSlots_15 (by decide) (fun h15 => ?_) (fun h15 => ?_)
      · rw [if_neg h15] at g4
        refine r_aload_n dX5_fillSlots_19 rfl ?_
        refine m_cv0 dX5_fillSlots_20 cv_X5_100 (c_X5_bestWaiting hP g1.2.2.2.2.1 g2 g3.1 wJ) rfl (ob_place hP) ⟨_, rfl, rfl⟩ ⟨rfl, rfl⟩ (by decide) (by decide) (Nat.le_of_ble_eq_true rfl) ?_
        refine s_istore_n 3 dX5_fillSlots_23 (by decide) rfl rfl ?_
        refine r_iload_n dX5_fillSlots_24 rfl ?_
        refine r_iconst_m1 dX5_fillSlots_25 ?_
        refine r_icmp_ne 30 dX5_fillSlots_26 (by decide) (fun h26 => ?_) (fun h26 => ?_)
        · rw [if_neg h26] at g4
          obtain ⟨m, hm, em, hup, -⟩ := (fmS_ok wM).resolve_left (fun z => h15 z.1)
          obtain ⟨j, hj, ej, hj3⟩ := (bwS_ok wJ).resolve_left (fun z => h26 z.1)
          rw [ej, em, zN, nI_clamp (by omega)] at g4
          refine r_aload_n dX5_fillSlots_30 rfl ?_
          refine r_iload_n dX5_fillSlots_31 rfl ?_
          refine r_iload_n dX5_fillSlots_32 rfl ?_
          rw [ej, em]
          refine m_pv2 dX5_fillSlots_33 cv_X5_103 (c_X5_startJob hP g1 g2 g3 hj hj3 hm) (ob_place hP) ⟨_, rfl, rfl⟩ ⟨rfl, rfl⟩ (by decide) (by decide) (Nat.le_of_ble_eq_true rfl) (fun M1 L1 ⟨x1, x2, x3, x4⟩ => ?_)
          refine s_iinc dX5_fillSlots_36 rfl (by decide) rfl ?_
          refine r_goto 2 dX5_fillSlots_39 (by decide) ?_
          exact m_sub (ih M1 L1 _ (fr_t f1 x1) (fr_Lt f2 x2) x3 x4 (wf_run g3 hj hm) g4) (by simp [a_sub, nI_succ])
        · rw [if_pos h26] at g4
          subst g4
          exact r_vret dX5_fillSlots_29 rfl (hq _ _ ⟨f1, f2, g1, g2⟩)
      · rw [if_pos h15] at g4
        subst g4
        exact r_vret dX5_fillSlots_18 rfl (hq _ _ ⟨f1, f2, g1, g2⟩)
  exact m_sub (lp 0 (Nat.zero_le _) M L a fr_r fr_Lr hQ hC hW rfl) (by simp [a_sub, nI_0])
theorem c_X5_settle (hP : PL p) (hQ : QP M p a) (hW : WF T a) : PO yX5_settle I_X5_settle [.ref p] M L dd none (fun M' L' => Fr (p + 15) (p + 28) M M' ∧ FrL (p + 28) (p + 30) L L' ∧ QP M' p (fiS a) ∧ QC M' L' p (fiS a)) := by
  refine po_mk (fun Q hq => ?_)
  refine a_met (by decide +kernel) rfl rfl (Nat.le_of_ble_eq_true rfl) (by simp [Value.category]) (by decide) rfl ?_
  show AW I_X5_settle 0 [.ref p] [] (hS M L dd) 0 0 Q
  refine r_aload_n dX5_settle_0 rfl ?_
  refine m_get 5 4 dX5_settle_1 fl_X5_42 (ob_place hP) rfl ?_
  refine r_aload_n dX5_settle_4 rfl ?_
  refine m_pv1 dX5_settle_5 cv_X5_89 (c_X6_survey hP hQ hW) (ob_scale hP) ⟨_, rfl, rfl⟩ ⟨rfl, rfl⟩ (by decide) (by decide) (Nat.le_of_ble_eq_true rfl) (fun M1 L1 ⟨x1, x2, x3, x4⟩ => ?_)
  refine r_aload_n dX5_settle_8 rfl ?_
  refine m_pv0 dX5_settle_9 cv_X5_93 (c_X5_fillSlots hP (qp_f2 x1 hQ) x3 hW) (ob_place hP) ⟨_, rfl, rfl⟩ ⟨rfl, rfl⟩ (by decide) (by decide) (Nat.le_of_ble_eq_true rfl) (fun M2 L2 ⟨y1, y2, y3, y4⟩ => ?_)
  exact r_vret dX5_settle_12 rfl (hq _ _ ⟨fr_t (fr_w x1 (by omega) (by omega)) y1, fr_Lt x2 y2, y3, y4⟩)
theorem c_X5_freeSlots (hP : PL p) (hQ : QP M p a) (hW : WF T a) : PO yX5_freeSlots I_X5_freeSlots [.ref p] M L dd (some (.int (fsS a))) (fun M' L' => Fr (p + 24) (p + 28) M M' ∧ FrL (p + 28) (p + 30) L L') := by
  refine po_mk (fun Q hq => ?_)
  refine a_met (by decide +kernel) rfl rfl (Nat.le_of_ble_eq_true rfl) (by simp [Value.category]) (by decide) rfl ?_
  show AW I_X5_freeSlots 0 [.ref p, .null, .null] [] (hS M L dd) 0 0 Q
  have wM := hW.2.2.1
  have h6 := wM.2.1
  refine r_aload_n dX5_freeSlots_0 rfl ?_
  refine m_get 5 4 dX5_freeSlots_1 fl_X5_42 (ob_place hP) rfl ?_
  refine r_aload_n dX5_freeSlots_4 rfl ?_
  refine m_pv1 dX5_freeSlots_5 cv_X5_89 (c_X6_survey hP hQ hW) (ob_scale hP) ⟨_, rfl, rfl⟩ ⟨rfl, rfl⟩ (by decide) (by decide) (Nat.le_of_ble_eq_true rfl) (fun M1 L1 ⟨x1, x2, x3, x4⟩ => ?_)
  refine r_iconst_0 dX5_freeSlots_8 ?_
  refine s_istore_n 1 dX5_freeSlots_9 (by decide) rfl rfl ?_
  refine r_iconst_0 dX5_freeSlots_10 ?_
  refine s_istore_n 2 dX5_freeSlots_11 (by decide) rfl rfl ?_
  have qM := (qp_f2 x1 hQ).2.2.2.1
  have hn := qM.1.trans wM.1
  have lp : ∀ k, k ≤ nm a → AW I_X5_freeSlots 12 [.ref p, .int (sumI (fun m => if a (52 + m) = 1 then a (46 + m) - buS a m else 0) k), .int (nI k)] [] (hS M1 L1 dd) 0 0 Q := by
    refine lp_up _ ?_ ?_
    · refine r_iload_n dX5_freeSlots_12 rfl ?_
      refine r_aload_n dX5_freeSlots_13 rfl ?_
      refine m_get 5 2 dX5_freeSlots_14 fl_X5_28 (ob_place hP) rfl ?_
      refine m_get 3 0 dX5_freeSlots_17 fl_X5_107 (ob_machines hP) rfl ?_
      refine r_icmp_ge 62 dX5_freeSlots_20 (by decide) (fun _ => ?_) (fun z => absurd (by rw [hn]; exact nI_le (Nat.le_refl _) (by omega)) z)
      refine r_iload_n dX5_freeSlots_62 rfl ?_
      exact e_iret dX5_freeSlots_63 rfl (hq _ _ ⟨x1, x2⟩) rfl
    · intro k hk ih 
      obtain ⟨t0, t1⟩ := qM.2 k hk
      have t2 := x3.2 k hk
      refine r_iload_n dX5_freeSlots_12 rfl ?_
      refine r_aload_n dX5_freeSlots_13 rfl ?_
      refine m_get 5 2 dX5_freeSlots_14 fl_X5_28 (ob_place hP) rfl ?_
      refine m_get 3 0 dX5_freeSlots_17 fl_X5_107 (ob_machines hP) rfl ?_
      refine r_icmp_ge 62 dX5_freeSlots_20 (by decide) (fun z => absurd z (by rw [hn]; exact nI_ge hk (by omega))) (fun _ => ?_)
      refine r_aload_n dX5_freeSlots_23 rfl ?_
      refine m_get 5 2 dX5_freeSlots_24 fl_X5_28 (ob_place hP) rfl ?_
      refine r_iload_n dX5_freeSlots_27 rfl ?_
      refine m_cv1 dX5_freeSlots_28 cv_X5_110 (c_X3_isUp hP qM wM.1 h6 hk) rfl (ob_machines hP) ⟨_, rfl, rfl⟩ ⟨rfl, rfl⟩ (by decide) (by decide) (Nat.le_of_ble_eq_true rfl) ?_
      refine r_if_eq 56 dX5_freeSlots_31 (by decide) (fun h31 => ?_) (fun h31 => ?_)
      · refine s_iinc dX5_freeSlots_56 rfl (by decide) rfl ?_
        refine r_goto 12 dX5_freeSlots_59 (by decide) ?_
        exact m_sub ih (by rw [bI_0] at h31; simp [a_sub, nI_succ, sumI, h31, t0, t2])
      · refine r_iload_n dX5_freeSlots_34 rfl ?_
        refine r_aload_n dX5_freeSlots_35 rfl ?_
        refine m_get 5 2 dX5_freeSlots_36 fl_X5_28 (ob_place hP) rfl ?_
        refine m_get 3 1 dX5_freeSlots_39 fl_X5_117 (ob_machines hP) rfl ?_
        refine r_iload_n dX5_freeSlots_42 rfl ?_
        refine m_iald k dX5_freeSlots_43 (ai_slots hP) rfl (by omega) (by first | decide | assumption) ?_
        refine r_aload_n dX5_freeSlots_44 rfl ?_
        refine m_get 5 4 dX5_freeSlots_45 fl_X5_42 (ob_place hP) rfl ?_
        refine m_get 6 3 dX5_freeSlots_48 fl_X5_114 (ob_scale hP) rfl ?_
        refine r_iload_n dX5_freeSlots_51 rfl ?_
        refine m_iald k dX5_freeSlots_52 (ai_busy hP) rfl (by omega) (by first | decide | assumption) ?_
        refine r_isub dX5_freeSlots_53 ?_
        refine r_iadd dX5_freeSlots_54 ?_
        refine s_istore_n 1 dX5_freeSlots_55 (by decide) rfl rfl ?_
        refine s_iinc dX5_freeSlots_56 rfl (by decide) rfl ?_
        refine r_goto 12 dX5_freeSlots_59 (by decide) ?_
        exact m_sub ih (by rw [bI_0] at h31; simp [a_sub, nI_succ, sumI, h31, t0, t2])
  exact m_sub (lp 0 (Nat.zero_le _)) (by simp [a_sub, nI_0, sumI])
end PLACE
