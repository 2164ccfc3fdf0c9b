section X9Q2
variable {M : Nat → Nat → Int32} {L : Nat → Nat → Int64} {dd : UInt64} {a : Row} {R : List Row} {T : Nat} {Q : a_Q}
theorem c_X9_errorPosition (hC : CS M a R) : XQa yX9_errorPosition I_X9_errorPosition [.ref 0] M L dd 0 [] (fun x => x = .int (M 313 2)) a a R R := by
  refine xq_mk (fun Q hq hx => ?_)
  refine a_met (by decide +kernel) rfl rfl (Nat.le_of_ble_eq_true rfl) (by simp [Value.category]) (by decide) rfl ?_
  show AW I_X9_errorPosition 0 [.ref 0] [] (hS M L dd) 0 0 Q
  refine r_aload_n dX9_errorPosition_0 rfl ?_
  refine m_get 9 3 dX9_errorPosition_1 fl_X9_29 ob_x rfl ?_
  refine m_get 7 2 dX9_errorPosition_4 fl_X9_86 ob_text rfl ?_
  exact r_iret dX9_errorPosition_7 rfl (hq _ _ _ rfl rfl gx_r gl_r hC)
theorem c_X9_count {w : Int32} (hC : CS M a R) (hW : WF T a) : XQa yX9_count I_X9_count [.ref 0, .int w] M L dd (thC w) [ex_A] (fun x => x = .int (vlC a w)) a a R R := by
  obtain ⟨hT, hB, hL, hM, hJ, hS'⟩ := hC.1
  have wJ := hW.2.2.2.1
  refine xq_mk (fun Q hq hx => ?_)
  refine a_met (by decide +kernel) rfl rfl (Nat.le_of_ble_eq_true rfl) (by simp [Value.category]) (by decide) rfl ?_
  show AW I_X9_count 0 [.ref 0, .int w] [] (hS M L dd) 0 0 Q
  have fin : ∀ x : Int32, 0 ≤ w ∧ w ≤ 12 → x = vlC a w → Q (.inl (some (.int x))) (hS M L dd) := fun x hw hxx => hq _ _ _ (by rw [thC, if_pos hw]) (by rw [hxx]) gx_r gl_r hC
  refine r_iload_n dX9_count_0 rfl ?_
  by_cases w1_0 : w = 0
  · refine r_swIn 68 dX9_count_1 (by rw [w1_0]; decide) (by rw [w1_0]; decide) (by rw [w1_0]; rfl) (by decide) ?_
    refine r_aload_n dX9_count_68 rfl ?_
    refine m_get 9 0 dX9_count_69 fl_X9_10 ob_x rfl ?_
    refine m_get 5 0 dX9_count_72 fl_X9_77 (ob_place pl1) rfl ?_
    refine m_get 8 0 dX9_count_75 fl_X9_81 (ob_tree pl1) rfl ?_
    exact r_iret dX9_count_78 rfl (fin _ (by rw [w1_0]; decide) (by rw [w1_0]; exact hT.1))
  by_cases w1_1 : w = 1
  · refine r_swIn 79 dX9_count_1 (by rw [w1_1]; decide) (by rw [w1_1]; decide) (by rw [w1_1]; rfl) (by decide) ?_
    refine r_aload_n dX9_count_79 rfl ?_
    refine m_get 9 0 dX9_count_80 fl_X9_10 ob_x rfl ?_
    refine m_get 5 2 dX9_count_83 fl_X9_89 (ob_place pl1) rfl ?_
    refine m_get 3 0 dX9_count_86 fl_X9_93 (ob_machines pl1) rfl ?_
    exact r_iret dX9_count_89 rfl (fin _ (by rw [w1_1]; decide) (by rw [w1_1]; exact hM.1))
  by_cases w1_2 : w = 2
  · refine r_swIn 90 dX9_count_1 (by rw [w1_2]; decide) (by rw [w1_2]; decide) (by rw [w1_2]; rfl) (by decide) ?_
    refine r_aload_n dX9_count_90 rfl ?_
    refine m_get 9 0 dX9_count_91 fl_X9_10 ob_x rfl ?_
    refine m_get 5 3 dX9_count_94 fl_X9_96 (ob_place pl1) rfl ?_
    refine m_get 1 0 dX9_count_97 fl_X9_100 (ob_jobs pl1) rfl ?_
    exact r_iret dX9_count_100 rfl (fin _ (by rw [w1_2]; decide) (by rw [w1_2]; exact hJ.1))
  by_cases w1_3 : w = 3
  · refine r_swIn 101 dX9_count_1 (by rw [w1_3]; decide) (by rw [w1_3]; decide) (by rw [w1_3]; rfl) (by decide) ?_
    refine r_aload_n dX9_count_101 rfl ?_
    refine m_get 9 0 dX9_count_102 fl_X9_10 ob_x rfl ?_
    refine m_get 5 1 dX9_count_105 fl_X9_103 (ob_place pl1) rfl ?_
    refine m_get 2 0 dX9_count_108 fl_X9_107 (ob_loans pl1) rfl ?_
    exact r_iret dX9_count_111 rfl (fin _ (by rw [w1_3]; decide) (by rw [w1_3]; exact hL.1))
  by_cases w1_4 : w = 4
  · refine r_swIn 112 dX9_count_1 (by rw [w1_4]; decide) (by rw [w1_4]; decide) (by rw [w1_4]; rfl) (by decide) ?_
    refine r_aload_n dX9_count_112 rfl ?_
    refine m_get 9 0 dX9_count_113 fl_X9_10 ob_x rfl ?_
    refine m_get 5 6 dX9_count_116 fl_X9_110 (ob_place pl1) rfl ?_
    exact r_iret dX9_count_119 rfl (fin _ (by rw [w1_4]; decide) (by rw [w1_4]; exact hS'.2.2.2.1))
  by_cases w1_5 : w = 5
  · refine r_swIn 120 dX9_count_1 (by rw [w1_5]; decide) (by rw [w1_5]; decide) (by rw [w1_5]; rfl) (by decide) ?_
    refine r_aload_n dX9_count_120 rfl ?_
    refine m_get 9 0 dX9_count_121 fl_X9_10 ob_x rfl ?_
    refine m_get 5 5 dX9_count_124 fl_X9_113 (ob_place pl1) rfl ?_
    refine r_iconst_0 dX9_count_127 ?_
    refine m_iald 0 dX9_count_128 (ai_settings pl1) rfl (by omega) (by first | decide | assumption) ?_
    exact r_iret dX9_count_129 rfl (fin _ (by rw [w1_5]; decide) (by rw [w1_5]; exact hS'.1))
  by_cases w1_6 : w = 6
  · refine r_swIn 130 dX9_count_1 (by rw [w1_6]; decide) (by rw [w1_6]; decide) (by rw [w1_6]; rfl) (by decide) ?_
    refine r_aload_n dX9_count_130 rfl ?_
    refine m_get 9 0 dX9_count_131 fl_X9_10 ob_x rfl ?_
    refine m_get 5 5 dX9_count_134 fl_X9_113 (ob_place pl1) rfl ?_
    refine r_iconst_1 dX9_count_137 ?_
    refine m_iald 1 dX9_count_138 (ai_settings pl1) rfl (by omega) (by first | decide | assumption) ?_
    exact r_iret dX9_count_139 rfl (fin _ (by rw [w1_6]; decide) (by rw [w1_6]; exact hS'.2.1))
  by_cases w1_7 : w = 7
  · refine r_swIn 140 dX9_count_1 (by rw [w1_7]; decide) (by rw [w1_7]; decide) (by rw [w1_7]; rfl) (by decide) ?_
    refine r_aload_n dX9_count_140 rfl ?_
    refine m_get 9 0 dX9_count_141 fl_X9_10 ob_x rfl ?_
    refine m_get 5 5 dX9_count_144 fl_X9_113 (ob_place pl1) rfl ?_
    refine r_iconst_2 dX9_count_147 ?_
    refine m_iald 2 dX9_count_148 (ai_settings pl1) rfl (by omega) (by first | decide | assumption) ?_
    exact r_iret dX9_count_149 rfl (fin _ (by rw [w1_7]; decide) (by rw [w1_7]; exact hS'.2.2.1))
  by_cases w1_8 : w = 8
  · refine r_swIn 150 dX9_count_1 (by rw [w1_8]; decide) (by rw [w1_8]; decide) (by rw [w1_8]; rfl) (by decide) ?_
    refine r_aload_n dX9_count_150 rfl ?_
    refine m_get 9 0 dX9_count_151 fl_X9_10 ob_x rfl ?_
    refine m_get 5 3 dX9_count_154 fl_X9_96 (ob_place pl1) rfl ?_
    refine r_iconst_0 dX9_count_157 ?_
    refine m_cv1 dX9_count_158 cv_X9_117 (c_X1_inState pl1 hJ wJ.1 wJ.2.1) rfl (ob_jobs pl1) ⟨_, rfl, rfl⟩ ⟨rfl, rfl⟩ (by decide) (by decide) (Nat.le_of_ble_eq_true rfl) ?_
    exact r_iret dX9_count_161 rfl (fin _ (by rw [w1_8]; decide) (by rw [w1_8]; rfl))
  by_cases w1_9 : w = 9
  · refine r_swIn 162 dX9_count_1 (by rw [w1_9]; decide) (by rw [w1_9]; decide) (by rw [w1_9]; rfl) (by decide) ?_
    refine r_aload_n dX9_count_162 rfl ?_
    refine m_get 9 0 dX9_count_163 fl_X9_10 ob_x rfl ?_
    refine m_get 5 3 dX9_count_166 fl_X9_96 (ob_place pl1) rfl ?_
    refine r_iconst_1 dX9_count_169 ?_
    refine m_cv1 dX9_count_170 cv_X9_117 (c_X1_inState pl1 hJ wJ.1 wJ.2.1) rfl (ob_jobs pl1) ⟨_, rfl, rfl⟩ ⟨rfl, rfl⟩ (by decide) (by decide) (Nat.le_of_ble_eq_true rfl) ?_
    exact r_iret dX9_count_173 rfl (fin _ (by rw [w1_9]; decide) (by rw [w1_9]; rfl))
  by_cases w1_10 : w = 10
  · refine r_swIn 174 dX9_count_1 (by rw [w1_10]; decide) (by rw [w1_10]; decide) (by rw [w1_10]; rfl) (by decide) ?_
    refine r_aload_n dX9_count_174 rfl ?_
    refine m_get 9 0 dX9_count_175 fl_X9_10 ob_x rfl ?_
    refine m_pv0 dX9_count_178 cv_X9_121 (c_X5_freeSlots pl1 hC.1 hW) (ob_place pl1) ⟨_, rfl, rfl⟩ ⟨rfl, rfl⟩ (by decide) (by decide) (Nat.le_of_ble_eq_true rfl) (fun M1 L1 ⟨x1, x2⟩ => ?_)
    exact r_iret dX9_count_181 rfl (hq _ _ _ (by rw [w1_10]; rfl) (by rw [w1_10]; rfl) (gx_f x1 (by omega)) (gl_f x2 (by omega)) (cs_sv x1 hC))
  by_cases w1_11 : w = 11
  · refine r_swIn 182 dX9_count_1 (by rw [w1_11]; decide) (by rw [w1_11]; decide) (by rw [w1_11]; rfl) (by decide) ?_
    refine r_aload_n dX9_count_182 rfl ?_
    refine m_get 9 0 dX9_count_183 fl_X9_10 ob_x rfl ?_
    refine m_get 5 7 dX9_count_186 fl_X9_125 (ob_place pl1) rfl ?_
    exact r_iret dX9_count_189 rfl (fin _ (by rw [w1_11]; decide) (by rw [w1_11]; exact hS'.2.2.2.2.1))
  by_cases w1_12 : w = 12
  · refine r_swIn 190 dX9_count_1 (by rw [w1_12]; decide) (by rw [w1_12]; decide) (by rw [w1_12]; rfl) (by decide) ?_
    refine r_aload_n dX9_count_190 rfl ?_
    refine m_get 9 0 dX9_count_191 fl_X9_10 ob_x rfl ?_
    refine m_get 5 8 dX9_count_194 fl_X9_128 (ob_place pl1) rfl ?_
    exact r_iret dX9_count_197 rfl (fin _ (by rw [w1_12]; decide) (by rw [w1_12]; exact hS'.2.2.2.2.2))
  refine r_swOut 198 dX9_count_1 (by have e0 : (w).toInt ≠ 0 := fun z => w1_0 (Int32.toInt_inj.mp (z.trans (by decide))); have e1 : (w).toInt ≠ 1 := fun z => w1_1 (Int32.toInt_inj.mp (z.trans (by decide))); have e2 : (w).toInt ≠ 2 := fun z => w1_2 (Int32.toInt_inj.mp (z.trans (by decide))); have e3 : (w).toInt ≠ 3 := fun z => w1_3 (Int32.toInt_inj.mp (z.trans (by decide))); have e4 : (w).toInt ≠ 4 := fun z => w1_4 (Int32.toInt_inj.mp (z.trans (by decide))); have e5 : (w).toInt ≠ 5 := fun z => w1_5 (Int32.toInt_inj.mp (z.trans (by decide))); have e6 : (w).toInt ≠ 6 := fun z => w1_6 (Int32.toInt_inj.mp (z.trans (by decide))); have e7 : (w).toInt ≠ 7 := fun z => w1_7 (Int32.toInt_inj.mp (z.trans (by decide))); have e8 : (w).toInt ≠ 8 := fun z => w1_8 (Int32.toInt_inj.mp (z.trans (by decide))); have e9 : (w).toInt ≠ 9 := fun z => w1_9 (Int32.toInt_inj.mp (z.trans (by decide))); have e10 : (w).toInt ≠ 10 := fun z => w1_10 (Int32.toInt_inj.mp (z.trans (by decide))); have e11 : (w).toInt ≠ 11 := fun z => w1_11 (Int32.toInt_inj.mp (z.trans (by decide))); have e12 : (w).toInt ≠ 12 := fun z => w1_12 (Int32.toInt_inj.mp (z.trans (by decide))); omega) (by decide) ?_
  exact r_throw th_X9_count_198 rfl (by decide) (by decide) (Nat.le_of_ble_eq_true rfl) (Nat.le_of_ble_eq_true rfl) (hx 1 ex_A _ _ (by rw [thC, if_neg (fun z => by obtain ⟨k9, hk9, e9⟩ := ix_c 12 (by omega) z; exact match k9, hk9, e9 with | 0, _, e9 => w1_0 e9 | 1, _, e9 => w1_1 e9 | 2, _, e9 => w1_2 e9 | 3, _, e9 => w1_3 e9 | 4, _, e9 => w1_4 e9 | 5, _, e9 => w1_5 e9 | 6, _, e9 => w1_6 e9 | 7, _, e9 => w1_7 e9 | 8, _, e9 => w1_8 e9 | 9, _, e9 => w1_9 e9 | 10, _, e9 => w1_10 e9 | 11, _, e9 => w1_11 e9 | 12, _, e9 => w1_12 e9 | k9 + 13, h9, _ => absurd h9 (by omega))]) (by decide) rfl gx_r gl_r hC)
theorem c_X9_loan {l w : Int32} (hC : CS M a R) (hW : WF T a) : XQa yX9_loan I_X9_loan [.ref 0, .int l, .int w] M L dd (thL a l w) [ex_I, ex_A] (fun x => ∀ k, k < nl a → l = nI k → x = .int (vlL a k w)) a a R R := by
  obtain ⟨hT, hB, hL, hM, hJ, hS'⟩ := hC.1
  have wL := hW.2.2.2.2.1
  have h8 := wL.2.1
  refine xq_mk (fun Q hq hx => ?_)
  refine a_met (by decide +kernel) rfl rfl (Nat.le_of_ble_eq_true rfl) (by simp [Value.category]) (by decide) rfl ?_
  show AW I_X9_loan 0 [.ref 0, .int l, .int w, .null] [] (hS M L dd) 0 0 Q
  refine r_aload_n dX9_loan_0 rfl ?_
  refine m_get 9 0 dX9_loan_1 fl_X9_10 ob_x rfl ?_
  refine m_get 5 1 dX9_loan_4 fl_X9_103 (ob_place pl1) rfl ?_
  refine s_astore_n 3 dX9_loan_7 (by decide) rfl rfl ?_
  refine r_aload_n dX9_loan_8 rfl ?_
  refine r_iload_n dX9_loan_9 rfl ?_
  refine m_cv1 dX9_loan_10 cv_X9_211 (c_X2_has pl1) rfl (ob_loans pl1) ⟨_, rfl, rfl⟩ ⟨rfl, rfl⟩ (by decide) (by decide) (Nat.le_of_ble_eq_true rfl) ?_
  refine r_if_ne 26 dX9_loan_13 (by decide) (fun h13 => ?_) (fun h13 => ?_)
  · rw [bI_0, Decidable.not_not, show M (1 + 6) 0 = a 7 from hL.1] at h13
    obtain ⟨k, hk, rfl⟩ := ix_n wL.1 (by omega) h13
    have fin : ∀ x : Int32, 0 ≤ w ∧ w ≤ 4 → x = vlL a k w → Q (.inl (some (.int x))) (hS M L dd) := fun x hw hxx => hq _ _ _ (by rw [thL, if_neg (not_not_intro h13), if_pos hw]) (fun k2 hk2 e2 => by rw [nI_eq (by omega) (by omega)] at e2; subst e2; rw [hxx]) gx_r gl_r hC
    refine r_iload_n dX9_loan_26 rfl ?_
    by_cases w27_0 : w = 0
    · refine r_swIn 60 dX9_loan_27 (by rw [w27_0]; decide) (by rw [w27_0]; decide) (by rw [w27_0]; rfl) (by decide) ?_
      refine r_aload_n dX9_loan_60 rfl ?_
      refine m_get 2 1 dX9_loan_61 fl_X9_219 (ob_loans pl1) rfl ?_
      refine r_iload_n dX9_loan_64 rfl ?_
      refine m_iald k dX9_loan_65 (ai_from pl1) rfl (by omega) (by first | decide | assumption) ?_
      exact r_iret dX9_loan_66 rfl (fin _ (by rw [w27_0]; decide) (by rw [w27_0]; exact (hL.2 k hk).1))
    by_cases w27_1 : w = 1
    · refine r_swIn 67 dX9_loan_27 (by rw [w27_1]; decide) (by rw [w27_1]; decide) (by rw [w27_1]; rfl) (by decide) ?_
      refine r_aload_n dX9_loan_67 rfl ?_
      refine m_get 2 2 dX9_loan_68 fl_X9_222 (ob_loans pl1) rfl ?_
      refine r_iload_n dX9_loan_71 rfl ?_
      refine m_iald k dX9_loan_72 (ai_to pl1) rfl (by omega) (by first | decide | assumption) ?_
      exact r_iret dX9_loan_73 rfl (fin _ (by rw [w27_1]; decide) (by rw [w27_1]; exact (hL.2 k hk).2.1))
    by_cases w27_2 : w = 2
    · refine r_swIn 74 dX9_loan_27 (by rw [w27_2]; decide) (by rw [w27_2]; decide) (by rw [w27_2]; rfl) (by decide) ?_
      refine r_aload_n dX9_loan_74 rfl ?_
      refine m_get 2 3 dX9_loan_75 fl_X9_225 (ob_loans pl1) rfl ?_
      refine r_iload_n dX9_loan_78 rfl ?_
      refine m_iald k dX9_loan_79 (ai_ltickets pl1) rfl (by omega) (by first | decide | assumption) ?_
      exact r_iret dX9_loan_80 rfl (fin _ (by rw [w27_2]; decide) (by rw [w27_2]; exact (hL.2 k hk).2.2.1))
    by_cases w27_3 : w = 3
    · refine r_swIn 81 dX9_loan_27 (by rw [w27_3]; decide) (by rw [w27_3]; decide) (by rw [w27_3]; rfl) (by decide) ?_
      refine r_aload_n dX9_loan_81 rfl ?_
      refine r_iload_n dX9_loan_82 rfl ?_
      refine r_aload_n dX9_loan_83 rfl ?_
      refine m_get 9 0 dX9_loan_84 fl_X9_10 ob_x rfl ?_
      refine m_get 5 6 dX9_loan_87 fl_X9_110 (ob_place pl1) rfl ?_
      refine m_cv2 dX9_loan_90 cv_X9_226 (c_X2_isLent pl1 hL wL.1 h8 hk) rfl (ob_loans pl1) ⟨_, rfl, rfl⟩ ⟨rfl, rfl⟩ (by decide) (by decide) (Nat.le_of_ble_eq_true rfl) ?_
      refine r_if_eq 100 dX9_loan_93 (by decide) (fun h93 => ?_) (fun h93 => ?_)
      · refine r_iconst_1 dX9_loan_100 ?_
        exact r_iret dX9_loan_101 rfl (fin _ (by rw [w27_3]; decide) (by rw [bI_0, show M 1 6 = a 0 from hS'.2.2.2.1] at h93; rw [w27_3, vlL, if_neg (by decide), if_neg (by decide)]; first | rw [if_pos (Decidable.not_not.mp h93)] | rw [if_neg h93]))
      · refine r_iconst_0 dX9_loan_96 ?_
        refine r_goto 101 dX9_loan_97 (by decide) ?_
        exact r_iret dX9_loan_101 rfl (fin _ (by rw [w27_3]; decide) (by rw [bI_0, show M 1 6 = a 0 from hS'.2.2.2.1] at h93; rw [w27_3, vlL, if_neg (by decide), if_neg (by decide)]; first | rw [if_pos (Decidable.not_not.mp h93)] | rw [if_neg h93]))
    by_cases w27_4 : w = 4
    · refine r_swIn 102 dX9_loan_27 (by rw [w27_4]; decide) (by rw [w27_4]; decide) (by rw [w27_4]; rfl) (by decide) ?_
      refine r_aload_n dX9_loan_102 rfl ?_
      refine r_iload_n dX9_loan_103 rfl ?_
      refine m_cv1 dX9_loan_104 cv_X9_230 (c_X2_goneAt pl1 hL wL.1 h8 hk) rfl (ob_loans pl1) ⟨_, rfl, rfl⟩ ⟨rfl, rfl⟩ (by decide) (by decide) (Nat.le_of_ble_eq_true rfl) ?_
      exact r_iret dX9_loan_107 rfl (fin _ (by rw [w27_4]; decide) (by rw [w27_4]; rfl))
    refine r_swOut 108 dX9_loan_27 (by have e0 : (w).toInt ≠ 0 := fun z => w27_0 (Int32.toInt_inj.mp (z.trans (by decide))); have e1 : (w).toInt ≠ 1 := fun z => w27_1 (Int32.toInt_inj.mp (z.trans (by decide))); have e2 : (w).toInt ≠ 2 := fun z => w27_2 (Int32.toInt_inj.mp (z.trans (by decide))); have e3 : (w).toInt ≠ 3 := fun z => w27_3 (Int32.toInt_inj.mp (z.trans (by decide))); have e4 : (w).toInt ≠ 4 := fun z => w27_4 (Int32.toInt_inj.mp (z.trans (by decide))); omega) (by decide) ?_
    exact r_throw th_X9_loan_108 rfl (by decide) (by decide) (Nat.le_of_ble_eq_true rfl) (Nat.le_of_ble_eq_true rfl) (hx 2 ex_A _ _ (by rw [thL, if_neg (not_not_intro h13), if_neg (fun z => by obtain ⟨k9, hk9, e9⟩ := ix_c 4 (by omega) z; exact match k9, hk9, e9 with | 0, _, e9 => w27_0 e9 | 1, _, e9 => w27_1 e9 | 2, _, e9 => w27_2 e9 | 3, _, e9 => w27_3 e9 | 4, _, e9 => w27_4 e9 | k9 + 5, h9, _ => absurd h9 (by omega))]) (by decide) rfl gx_r gl_r hC)
  · rw [bI_0, show M (1 + 6) 0 = a 7 from hL.1] at h13
    exact r_throw th_X9_loan_16 rfl (by decide) (by decide) (Nat.le_of_ble_eq_true rfl) (Nat.le_of_ble_eq_true rfl) (hx 1 ex_I _ _ (by rw [thL, if_pos h13]) (by decide) rfl gx_r gl_r hC)
theorem c_X9_balance {u : Int32} (hC : CS M a R) (hW : WF T a) : XQa yX9_balance I_X9_balance [.ref 0, .int u] M L dd (thB a u) [ex_I] (fun x => x = .int (blS a u)) a a R R := by
  obtain ⟨hT, hB, hL, hM, hJ, hS'⟩ := hC.1
  refine xq_mk (fun Q hq hx => ?_)
  refine a_met (by decide +kernel) rfl rfl (Nat.le_of_ble_eq_true rfl) (by simp [Value.category]) (by decide) rfl ?_
  show AW I_X9_balance 0 [.ref 0, .int u] [] (hS M L dd) 0 0 Q
  refine r_aload_n dX9_balance_0 rfl ?_
  refine r_iload_n dX9_balance_1 rfl ?_
  refine m_nv1 dX9_balance_2 cv_X9_133 (c_X9_needUser hT.1) ob_x ⟨_, rfl, rfl⟩ (by decide) (by decide) (Nat.le_of_ble_eq_true rfl) (Nat.le_of_ble_eq_true rfl) (Nat.le_of_ble_eq_true rfl) rfl (fun hp => hx 1 ex_I _ _ (by rw [thB, if_neg hp]) (by decide) rfl gx_r gl_r hC) (fun hp => ?_)
  refine r_aload_n dX9_balance_5 rfl ?_
  refine m_get 9 0 dX9_balance_6 fl_X9_10 ob_x rfl ?_
  refine m_get 5 1 dX9_balance_9 fl_X9_103 (ob_place pl1) rfl ?_
  refine r_iload_n dX9_balance_12 rfl ?_
  refine r_aload_n dX9_balance_13 rfl ?_
  refine m_get 9 0 dX9_balance_14 fl_X9_10 ob_x rfl ?_
  refine m_get 5 6 dX9_balance_17 fl_X9_110 (ob_place pl1) rfl ?_
  refine m_cv2 dX9_balance_20 cv_X9_235 (c_X2_balanceOf pl1 hL hW.1 hW.2.2.2.2.1 hW.2.2.2.2.2 hS'.2.2.2.1) rfl (ob_loans pl1) ⟨_, rfl, rfl⟩ ⟨rfl, rfl⟩ (by decide) (by decide) (Nat.le_of_ble_eq_true rfl) ?_
  exact r_iret dX9_balance_23 rfl (hq _ _ _ (by rw [thB, if_pos hp]) rfl gx_r gl_r hC)
theorem c_X9_ranked {r : Int32} (hC : CS M a R) (hW : WF T a) : XQa yX9_ranked I_X9_ranked [.ref 0, .int r] M L dd (thR a r) [ex_I] (fun x => x = .int (lkS a r)) a a R R := by
  refine xq_mk (fun Q hq hx => ?_)
  refine a_met (by decide +kernel) rfl rfl (Nat.le_of_ble_eq_true rfl) (by simp [Value.category]) (by decide) rfl ?_
  show AW I_X9_ranked 0 [.ref 0, .int r, .null] [] (hS M L dd) 0 0 Q
  refine r_aload_n dX9_ranked_0 rfl ?_
  refine m_get 9 0 dX9_ranked_1 fl_X9_10 ob_x rfl ?_
  refine r_iload_n dX9_ranked_4 rfl ?_
  refine m_pv1 dX9_ranked_5 cv_X9_239 (c_X5_leafRanked pl1 hC.1 hW) (ob_place pl1) ⟨_, rfl, rfl⟩ ⟨rfl, rfl⟩ (by decide) (by decide) (Nat.le_of_ble_eq_true rfl) (fun M1 L1 ⟨x1, x2⟩ => ?_)
  refine s_istore_n 2 dX9_ranked_8 (by decide) rfl rfl ?_
  refine r_iload_n dX9_ranked_9 rfl ?_
  refine r_iconst_m1 dX9_ranked_10 ?_
  have hC1 := cs_sv x1 hC
  refine r_icmp_ne 24 dX9_ranked_11 (by decide) (fun h11 => ?_) (fun h11 => ?_)
  · refine r_iload_n dX9_ranked_24 rfl ?_
    exact r_iret dX9_ranked_25 rfl (hq _ _ _ (by rw [thR, if_neg h11]) rfl (gx_f x1 (by omega)) (gl_f x2 (by omega)) hC1)
  · exact r_throw th_X9_ranked_14 rfl (by decide) (by decide) (Nat.le_of_ble_eq_true rfl) (Nat.le_of_ble_eq_true rfl) (hx 1 ex_I _ _ (by rw [thR, if_pos h11]) (by decide) rfl (gx_f x1 (by omega)) (gl_f x2 (by omega)) hC1)
theorem c_X9_worth {u k : Int32} (hC : CS M a R) (hW : WF T a) : XQa yX9_worth I_X9_worth [.ref 0, .int u, .int k] M L dd (thW a u k) [ex_I, ex_A, ex_S] (fun x => ∀ v, v < nu a → u = nI v → x = .long (woS (tkS a v) (a (34 + v)) k)) a a R R := by
  have hQ := hC.1
  have wU := hW.1
  have h12 := wU.2.2.1
  refine xq_mk (fun Q hq hx => ?_)
  refine a_met (by decide +kernel) rfl rfl (Nat.le_of_ble_eq_true rfl) (by simp [Value.category]) (by decide) rfl ?_
  show AW I_X9_worth 0 [.ref 0, .int u, .int k] [] (hS M L dd) 0 0 Q
  refine r_aload_n dX9_worth_0 rfl ?_
  refine r_iload_n dX9_worth_1 rfl ?_
  refine m_nv1 dX9_worth_2 cv_X9_133 (c_X9_needUser hQ.1.1) ob_x ⟨_, rfl, rfl⟩ (by decide) (by decide) (Nat.le_of_ble_eq_true rfl) (Nat.le_of_ble_eq_true rfl) (Nat.le_of_ble_eq_true rfl) rfl (fun hp => hx 1 ex_I _ _ (by rw [thW, if_pos hp]) (by decide) rfl gx_r gl_r hC) (fun hp => ?_)
  refine r_iload_n dX9_worth_5 rfl ?_
  refine r_iconst_1 dX9_worth_6 ?_
  refine r_bipush 30 dX9_worth_7 (by decide) ?_
  refine m_ns3 dX9_worth_9 cs_X9_175 (c_X9_needRange) (by decide) (by decide) (Nat.le_of_ble_eq_true rfl) (Nat.le_of_ble_eq_true rfl) (Nat.le_of_ble_eq_true rfl) rfl (fun hk1 => hx 2 ex_A _ _ (by rw [thW, if_neg (not_not_intro hp), if_pos hk1]) (by decide) rfl gx_r gl_r hC) (fun hk1 => ?_)
  obtain ⟨v, hv, rfl⟩ := ix_n wU.1 (by omega) hp
  have zv : zN (nI v) = v := nI_clamp (by omega)
  refine r_aload_n dX9_worth_12 rfl ?_
  refine r_iload_n dX9_worth_13 rfl ?_
  refine m_nv1 dX9_worth_14 cv_X9_202 (c_X9_needLeaf hQ.1 wU hv) ob_x ⟨_, rfl, rfl⟩ (by decide) (by decide) (Nat.le_of_ble_eq_true rfl) (Nat.le_of_ble_eq_true rfl) (Nat.le_of_ble_eq_true rfl) rfl (fun lf => hx 3 ex_S _ _ (by rw [thW, if_neg (not_not_intro hp), if_neg (not_not_intro hk1), zv, if_neg lf]) (by decide) rfl gx_r gl_r hC) (fun lf => ?_)
  refine r_aload_n dX9_worth_17 rfl ?_
  refine m_get 9 0 dX9_worth_18 fl_X9_10 ob_x rfl ?_
  refine m_get 5 4 dX9_worth_21 fl_X9_136 (ob_place pl1) rfl ?_
  refine r_aload_n dX9_worth_24 rfl ?_
  refine m_get 9 0 dX9_worth_25 fl_X9_10 ob_x rfl ?_
  refine m_pv1 dX9_worth_28 cv_X9_140 (c_X6_survey pl1 hQ hW) (ob_scale pl1) ⟨_, rfl, rfl⟩ ⟨rfl, rfl⟩ (by decide) (by decide) (Nat.le_of_ble_eq_true rfl) (fun M1 L1 ⟨x1, x2, x3, x4⟩ => ?_)
  have hC1 := cs_sv x1 hC
  refine r_aload_n dX9_worth_31 rfl ?_
  refine m_get 9 0 dX9_worth_32 fl_X9_10 ob_x rfl ?_
  refine m_get 5 4 dX9_worth_35 fl_X9_136 (ob_place pl1) rfl ?_
  refine m_get 6 2 dX9_worth_38 fl_X9_157 (ob_scale pl1) rfl ?_
  refine r_iload_n dX9_worth_41 rfl ?_
  refine m_iald v dX9_worth_42 (ai_tickets pl1) rfl (by omega) (by first | decide | assumption) ?_
  refine r_aload_n dX9_worth_43 rfl ?_
  refine m_get 9 0 dX9_worth_44 fl_X9_10 ob_x rfl ?_
  refine m_get 5 0 dX9_worth_47 fl_X9_77 (ob_place pl1) rfl ?_
  refine m_get 8 3 dX9_worth_50 fl_X9_160 (ob_tree pl1) rfl ?_
  refine r_iload_n dX9_worth_53 rfl ?_
  refine m_iald v dX9_worth_54 (ai_use pl1) rfl (by omega) (by first | decide | assumption) ?_
  refine r_iload_n dX9_worth_55 rfl ?_
  refine m_cs3 dX9_worth_56 cs_X9_244 (c_X9_worthOf) rfl ⟨rfl, rfl⟩ (by decide) (by decide) (Nat.le_of_ble_eq_true rfl) ?_
  exact r_lret dX9_worth_59 rfl (hq _ _ _ (by rw [thW, if_neg (not_not_intro hp), if_neg (not_not_intro hk1), zv, if_pos lf]) (fun v2 hv2 e2 => by rw [nI_eq (by omega) (by omega)] at e2; subst e2; rw [(x3.1 v hv).2.1, (hC1.1.1.2 v hv).2.2]) (gx_f x1 (by omega)) (gl_f x2 (by omega)) hC1)
theorem c_X9_machine {m w : Int32} (hC : CS M a R) (hW : WF T a) : XQa yX9_machine I_X9_machine [.ref 0, .int m, .int w] M L dd (thM a m w) [ex_I, ex_A] (fun x => ∀ k, k < nm a → m = nI k → x = .int (vlM a k w)) a a R R := by
  have hQ := hC.1
  have wM := hW.2.2.1
  have h6 := wM.2.1
  refine xq_mk (fun Q hq hx => ?_)
  refine a_met (by decide +kernel) rfl rfl (Nat.le_of_ble_eq_true rfl) (by simp [Value.category]) (by decide) rfl ?_
  show AW I_X9_machine 0 [.ref 0, .int m, .int w] [] (hS M L dd) 0 0 Q
  refine r_aload_n dX9_machine_0 rfl ?_
  refine r_iload_n dX9_machine_1 rfl ?_
  refine m_nv1 dX9_machine_2 cv_X9_248 (c_X9_needMachine hQ.2.2.2.1.1) ob_x ⟨_, rfl, rfl⟩ (by decide) (by decide) (Nat.le_of_ble_eq_true rfl) (Nat.le_of_ble_eq_true rfl) (Nat.le_of_ble_eq_true rfl) rfl (fun hp => hx 1 ex_I _ _ (by rw [thM, if_pos hp]) (by decide) rfl gx_r gl_r hC) (fun hp => ?_)
  obtain ⟨k, hk, rfl⟩ := ix_n wM.1 (by omega) hp
  refine r_aload_n dX9_machine_5 rfl ?_
  refine m_get 9 0 dX9_machine_6 fl_X9_10 ob_x rfl ?_
  refine m_get 5 4 dX9_machine_9 fl_X9_136 (ob_place pl1) rfl ?_
  refine r_aload_n dX9_machine_12 rfl ?_
  refine m_get 9 0 dX9_machine_13 fl_X9_10 ob_x rfl ?_
  refine m_pv1 dX9_machine_16 cv_X9_140 (c_X6_survey pl1 hQ hW) (ob_scale pl1) ⟨_, rfl, rfl⟩ ⟨rfl, rfl⟩ (by decide) (by decide) (Nat.le_of_ble_eq_true rfl) (fun M1 L1 ⟨x1, x2, x3, x4⟩ => ?_)
  refine r_iload_n dX9_machine_19 rfl ?_
  have hC1 := cs_sv x1 hC
  obtain ⟨hT, hB, hL, hM, hJ, hS'⟩ := hC1.1
  have fin : ∀ x : Int32, 0 ≤ w ∧ w ≤ 3 → x = vlM a k w → Q (.inl (some (.int x))) (hS M1 L1 dd) := fun x hw hxx => hq _ _ _ (by rw [thM, if_neg (not_not_intro hp), if_pos hw]) (fun k2 hk2 e2 => by rw [nI_eq (by omega) (by omega)] at e2; subst e2; rw [hxx]) (gx_f x1 (by omega)) (gl_f x2 (by omega)) hC1
  by_cases w20_0 : w = 0
  · refine r_swIn 52 dX9_machine_20 (by rw [w20_0]; decide) (by rw [w20_0]; decide) (by rw [w20_0]; rfl) (by decide) ?_
    refine r_aload_n dX9_machine_52 rfl ?_
    refine m_get 9 0 dX9_machine_53 fl_X9_10 ob_x rfl ?_
    refine m_get 5 2 dX9_machine_56 fl_X9_89 (ob_place pl1) rfl ?_
    refine m_get 3 1 dX9_machine_59 fl_X9_251 (ob_machines pl1) rfl ?_
    refine r_iload_n dX9_machine_62 rfl ?_
    refine m_iald k dX9_machine_63 (ai_slots pl1) rfl (by omega) (by first | decide | assumption) ?_
    exact r_iret dX9_machine_64 rfl (fin _ (by rw [w20_0]; decide) (by rw [w20_0]; exact (hM.2 k hk).1))
  by_cases w20_1 : w = 1
  · refine r_swIn 65 dX9_machine_20 (by rw [w20_1]; decide) (by rw [w20_1]; decide) (by rw [w20_1]; rfl) (by decide) ?_
    refine r_aload_n dX9_machine_65 rfl ?_
    refine m_get 9 0 dX9_machine_66 fl_X9_10 ob_x rfl ?_
    refine m_get 5 2 dX9_machine_69 fl_X9_89 (ob_place pl1) rfl ?_
    refine r_iload_n dX9_machine_72 rfl ?_
    refine m_cv1 dX9_machine_73 cv_X9_254 (c_X3_isUp pl1 hM wM.1 h6 hk) rfl (ob_machines pl1) ⟨_, rfl, rfl⟩ ⟨rfl, rfl⟩ (by decide) (by decide) (Nat.le_of_ble_eq_true rfl) ?_
    refine r_if_eq 83 dX9_machine_76 (by decide) (fun h76 => ?_) (fun h76 => ?_)
    · refine r_iconst_0 dX9_machine_83 ?_
      exact r_iret dX9_machine_84 rfl (fin _ (by rw [w20_1]; decide) (by rw [w20_1, vlM, if_neg (by decide), if_pos rfl]; rcases wM.2.2.2 k hk with z | z <;> rw [bI_0, z] at h76 <;> simp_all))
    · refine r_iconst_1 dX9_machine_79 ?_
      refine r_goto 84 dX9_machine_80 (by decide) ?_
      exact r_iret dX9_machine_84 rfl (fin _ (by rw [w20_1]; decide) (by rw [w20_1, vlM, if_neg (by decide), if_pos rfl]; rcases wM.2.2.2 k hk with z | z <;> rw [bI_0, z] at h76 <;> simp_all))
  by_cases w20_2 : w = 2
  · refine r_swIn 85 dX9_machine_20 (by rw [w20_2]; decide) (by rw [w20_2]; decide) (by rw [w20_2]; rfl) (by decide) ?_
    refine r_aload_n dX9_machine_85 rfl ?_
    refine m_get 9 0 dX9_machine_86 fl_X9_10 ob_x rfl ?_
    refine m_get 5 4 dX9_machine_89 fl_X9_136 (ob_place pl1) rfl ?_
    refine m_get 6 3 dX9_machine_92 fl_X9_257 (ob_scale pl1) rfl ?_
    refine r_iload_n dX9_machine_95 rfl ?_
    refine m_iald k dX9_machine_96 (ai_busy pl1) rfl (by omega) (by first | decide | assumption) ?_
    exact r_iret dX9_machine_97 rfl (fin _ (by rw [w20_2]; decide) (by rw [w20_2]; exact x3.2 k hk))
  by_cases w20_3 : w = 3
  · refine r_swIn 98 dX9_machine_20 (by rw [w20_3]; decide) (by rw [w20_3]; decide) (by rw [w20_3]; rfl) (by decide) ?_
    refine r_aload_n dX9_machine_98 rfl ?_
    refine m_get 9 0 dX9_machine_99 fl_X9_10 ob_x rfl ?_
    refine r_iload_n dX9_machine_102 rfl ?_
    refine m_cv1 dX9_machine_103 cv_X9_260 (c_X5_leastRunning pl1 hJ x3 hW.1 hW.2.2.2.1) rfl (ob_place pl1) ⟨_, rfl, rfl⟩ ⟨rfl, rfl⟩ (by decide) (by decide) (Nat.le_of_ble_eq_true rfl) ?_
    exact r_iret dX9_machine_106 rfl (fin _ (by rw [w20_3]; decide) (by rw [w20_3]; rfl))
  refine r_swOut 107 dX9_machine_20 (by have e0 : (w).toInt ≠ 0 := fun z => w20_0 (Int32.toInt_inj.mp (z.trans (by decide))); have e1 : (w).toInt ≠ 1 := fun z => w20_1 (Int32.toInt_inj.mp (z.trans (by decide))); have e2 : (w).toInt ≠ 2 := fun z => w20_2 (Int32.toInt_inj.mp (z.trans (by decide))); have e3 : (w).toInt ≠ 3 := fun z => w20_3 (Int32.toInt_inj.mp (z.trans (by decide))); omega) (by decide) ?_
  exact r_throw th_X9_machine_107 rfl (by decide) (by decide) (Nat.le_of_ble_eq_true rfl) (Nat.le_of_ble_eq_true rfl) (hx 2 ex_A _ _ (by rw [thM, if_neg (not_not_intro hp), if_neg (fun z => by obtain ⟨k9, hk9, e9⟩ := ix_c 3 (by omega) z; exact match k9, hk9, e9 with | 0, _, e9 => w20_0 e9 | 1, _, e9 => w20_1 e9 | 2, _, e9 => w20_2 e9 | 3, _, e9 => w20_3 e9 | k9 + 4, h9, _ => absurd h9 (by omega))]) (by decide) rfl (gx_f x1 (by omega)) (gl_f x2 (by omega)) hC1)
theorem c_X9_job {j w : Int32} (hC : CS M a R) (hW : WF T a) : XQa yX9_job I_X9_job [.ref 0, .int j, .int w] M L dd (thJ a j w) [ex_I, ex_A] (fun x => ∀ k f, k < nj a → j = nI k → f < 7 → w = nI f → x = .int (jb a k f)) a a R R := by
  obtain ⟨hT, hB, hL, hM, hJ, hS'⟩ := hC.1
  have wJ := hW.2.2.2.1
  have h30 := wJ.2.1
  refine xq_mk (fun Q hq hx => ?_)
  refine a_met (by decide +kernel) rfl rfl (Nat.le_of_ble_eq_true rfl) (by simp [Value.category]) (by decide) rfl ?_
  show AW I_X9_job 0 [.ref 0, .int j, .int w, .null] [] (hS M L dd) 0 0 Q
  refine r_aload_n dX9_job_0 rfl ?_
  refine r_iload_n dX9_job_1 rfl ?_
  refine m_nv1 dX9_job_2 cv_X9_265 (c_X9_needJob hJ.1) ob_x ⟨_, rfl, rfl⟩ (by decide) (by decide) (Nat.le_of_ble_eq_true rfl) (Nat.le_of_ble_eq_true rfl) (Nat.le_of_ble_eq_true rfl) rfl (fun hp => hx 1 ex_I _ _ (by rw [thJ, if_pos hp]) (by decide) rfl gx_r gl_r hC) (fun hp => ?_)
  obtain ⟨k, hk, rfl⟩ := ix_n wJ.1 (by omega) hp
  have fin : ∀ (x : Int32) (f : Nat), f < 7 → w = nI f → x = jb a k f → Q (.inl (some (.int x))) (hS M L dd) := fun x f hf hw hxx => hq _ _ _ (by rw [thJ, if_neg (not_not_intro hp), if_pos (by rw [hw]; exact ⟨nI_pos' (by omega), by rw [show (6 : Int32) = nI 6 from rfl, nI_leI (by omega) (by omega)]; omega⟩)]) (fun k2 f2 hk2 e2 hf2 e3 => by rw [nI_eq (by omega) (by omega)] at e2; rw [hw, nI_eq (by omega) (by omega)] at e3; subst e2; subst e3; rw [hxx]) gx_r gl_r hC
  refine r_aload_n dX9_job_5 rfl ?_
  refine m_get 9 0 dX9_job_6 fl_X9_10 ob_x rfl ?_
  refine m_get 5 3 dX9_job_9 fl_X9_96 (ob_place pl1) rfl ?_
  refine s_astore_n 3 dX9_job_12 (by decide) rfl rfl ?_
  refine r_iload_n dX9_job_13 rfl ?_
  by_cases w14_0 : w = 0
  · refine r_swIn 56 dX9_job_14 (by rw [w14_0]; decide) (by rw [w14_0]; decide) (by rw [w14_0]; rfl) (by decide) ?_
    refine r_aload_n dX9_job_56 rfl ?_
    refine m_get 1 1 dX9_job_57 fl_X9_268 (ob_jobs pl1) rfl ?_
    refine r_iload_n dX9_job_60 rfl ?_
    refine m_iald k dX9_job_61 (ai_leaf pl1) rfl (by omega) (by first | decide | assumption) ?_
    exact r_iret dX9_job_62 rfl (fin _ 0 (by omega) w14_0 (hJ.2 k hk).1)
  by_cases w14_1 : w = 1
  · refine r_swIn 63 dX9_job_14 (by rw [w14_1]; decide) (by rw [w14_1]; decide) (by rw [w14_1]; rfl) (by decide) ?_
    refine r_aload_n dX9_job_63 rfl ?_
    refine m_get 1 2 dX9_job_64 fl_X9_271 (ob_jobs pl1) rfl ?_
    refine r_iload_n dX9_job_67 rfl ?_
    refine m_iald k dX9_job_68 (ai_length pl1) rfl (by omega) (by first | decide | assumption) ?_
    exact r_iret dX9_job_69 rfl (fin _ 1 (by omega) w14_1 (hJ.2 k hk).2.1)
  by_cases w14_2 : w = 2
  · refine r_swIn 70 dX9_job_14 (by rw [w14_2]; decide) (by rw [w14_2]; decide) (by rw [w14_2]; rfl) (by decide) ?_
    refine r_aload_n dX9_job_70 rfl ?_
    refine m_get 1 3 dX9_job_71 fl_X9_274 (ob_jobs pl1) rfl ?_
    refine r_iload_n dX9_job_74 rfl ?_
    refine m_iald k dX9_job_75 (ai_work pl1) rfl (by omega) (by first | decide | assumption) ?_
    exact r_iret dX9_job_76 rfl (fin _ 2 (by omega) w14_2 (hJ.2 k hk).2.2.1)
  by_cases w14_3 : w = 3
  · refine r_swIn 77 dX9_job_14 (by rw [w14_3]; decide) (by rw [w14_3]; decide) (by rw [w14_3]; rfl) (by decide) ?_
    refine r_aload_n dX9_job_77 rfl ?_
    refine m_get 1 4 dX9_job_78 fl_X9_277 (ob_jobs pl1) rfl ?_
    refine r_iload_n dX9_job_81 rfl ?_
    refine m_iald k dX9_job_82 (ai_state pl1) rfl (by omega) (by first | decide | assumption) ?_
    exact r_iret dX9_job_83 rfl (fin _ 3 (by omega) w14_3 (hJ.2 k hk).2.2.2.1)
  by_cases w14_4 : w = 4
  · refine r_swIn 84 dX9_job_14 (by rw [w14_4]; decide) (by rw [w14_4]; decide) (by rw [w14_4]; rfl) (by decide) ?_
    refine r_aload_n dX9_job_84 rfl ?_
    refine m_get 1 5 dX9_job_85 fl_X9_280 (ob_jobs pl1) rfl ?_
    refine r_iload_n dX9_job_88 rfl ?_
    refine m_iald k dX9_job_89 (ai_machine pl1) rfl (by omega) (by first | decide | assumption) ?_
    exact r_iret dX9_job_90 rfl (fin _ 4 (by omega) w14_4 (hJ.2 k hk).2.2.2.2.1)
  by_cases w14_5 : w = 5
  · refine r_swIn 91 dX9_job_14 (by rw [w14_5]; decide) (by rw [w14_5]; decide) (by rw [w14_5]; rfl) (by decide) ?_
    refine r_aload_n dX9_job_91 rfl ?_
    refine m_get 1 6 dX9_job_92 fl_X9_283 (ob_jobs pl1) rfl ?_
    refine r_iload_n dX9_job_95 rfl ?_
    refine m_iald k dX9_job_96 (ai_ended pl1) rfl (by omega) (by first | decide | assumption) ?_
    exact r_iret dX9_job_97 rfl (fin _ 5 (by omega) w14_5 (hJ.2 k hk).2.2.2.2.2.1)
  by_cases w14_6 : w = 6
  · refine r_swIn 98 dX9_job_14 (by rw [w14_6]; decide) (by rw [w14_6]; decide) (by rw [w14_6]; rfl) (by decide) ?_
    refine r_aload_n dX9_job_98 rfl ?_
    refine m_get 1 7 dX9_job_99 fl_X9_286 (ob_jobs pl1) rfl ?_
    refine r_iload_n dX9_job_102 rfl ?_
    refine m_iald k dX9_job_103 (ai_waited pl1) rfl (by omega) (by first | decide | assumption) ?_
    exact r_iret dX9_job_104 rfl (fin _ 6 (by omega) w14_6 (hJ.2 k hk).2.2.2.2.2.2)
  refine r_swOut 105 dX9_job_14 (by have e0 : (w).toInt ≠ 0 := fun z => w14_0 (Int32.toInt_inj.mp (z.trans (by decide))); have e1 : (w).toInt ≠ 1 := fun z => w14_1 (Int32.toInt_inj.mp (z.trans (by decide))); have e2 : (w).toInt ≠ 2 := fun z => w14_2 (Int32.toInt_inj.mp (z.trans (by decide))); have e3 : (w).toInt ≠ 3 := fun z => w14_3 (Int32.toInt_inj.mp (z.trans (by decide))); have e4 : (w).toInt ≠ 4 := fun z => w14_4 (Int32.toInt_inj.mp (z.trans (by decide))); have e5 : (w).toInt ≠ 5 := fun z => w14_5 (Int32.toInt_inj.mp (z.trans (by decide))); have e6 : (w).toInt ≠ 6 := fun z => w14_6 (Int32.toInt_inj.mp (z.trans (by decide))); omega) (by decide) ?_
  exact r_throw th_X9_job_105 rfl (by decide) (by decide) (Nat.le_of_ble_eq_true rfl) (Nat.le_of_ble_eq_true rfl) (hx 2 ex_A _ _ (by rw [thJ, if_neg (not_not_intro hp), if_neg (fun z => by obtain ⟨k9, hk9, e9⟩ := ix_c 6 (by omega) z; exact match k9, hk9, e9 with | 0, _, e9 => w14_0 e9 | 1, _, e9 => w14_1 e9 | 2, _, e9 => w14_2 e9 | 3, _, e9 => w14_3 e9 | 4, _, e9 => w14_4 e9 | 5, _, e9 => w14_5 e9 | 6, _, e9 => w14_6 e9 | k9 + 7, h9, _ => absurd h9 (by omega))]) (by decide) rfl gx_r gl_r hC)
theorem c_X9_first (hC : CS M a R) (hW : WF T a) : XQa yX9_first I_X9_first [.ref 0] M L dd (thF a) [a_NSE] (fun x => x = .int (bwS a)) a a R R := by
  refine xq_mk (fun Q hq hx => ?_)
  refine a_met (by decide +kernel) rfl rfl (Nat.le_of_ble_eq_true rfl) (by simp [Value.category]) (by decide) rfl ?_
  show AW I_X9_first 0 [.ref 0, .null] [] (hS M L dd) 0 0 Q
  refine r_aload_n dX9_first_0 rfl ?_
  refine m_get 9 0 dX9_first_1 fl_X9_10 ob_x rfl ?_
  refine m_get 5 4 dX9_first_4 fl_X9_136 (ob_place pl1) rfl ?_
  refine r_aload_n dX9_first_7 rfl ?_
  refine m_get 9 0 dX9_first_8 fl_X9_10 ob_x rfl ?_
  refine m_pv1 dX9_first_11 cv_X9_140 (c_X6_survey pl1 hC.1 hW) (ob_scale pl1) ⟨_, rfl, rfl⟩ ⟨rfl, rfl⟩ (by decide) (by decide) (Nat.le_of_ble_eq_true rfl) (fun M1 L1 ⟨x1, x2, x3, x4⟩ => ?_)
  have hC1 := cs_sv x1 hC
  refine r_aload_n dX9_first_14 rfl ?_
  refine m_get 9 0 dX9_first_15 fl_X9_10 ob_x rfl ?_
  refine m_cv0 dX9_first_18 cv_X9_291 (c_X5_bestWaiting pl1 hC1.1.2.2.2.2.1 x3 hW.1 hW.2.2.2.1) rfl (ob_place pl1) ⟨_, rfl, rfl⟩ ⟨rfl, rfl⟩ (by decide) (by decide) (Nat.le_of_ble_eq_true rfl) ?_
  refine s_istore_n 1 dX9_first_21 (by decide) rfl rfl ?_
  refine r_iload_n dX9_first_22 rfl ?_
  refine r_iconst_m1 dX9_first_23 ?_
  refine r_icmp_ne 38 dX9_first_24 (by decide) (fun h24 => ?_) (fun h24 => ?_)
  · refine r_iload_n dX9_first_38 rfl ?_
    exact r_iret dX9_first_39 rfl (hq _ _ _ (by rw [thF, if_neg h24]) rfl (gx_f x1 (by omega)) (gl_f x2 (by omega)) hC1)
  · exact r_throwN th_X9_first_27 rfl (by decide) (Nat.le_of_ble_eq_true rfl) (Nat.le_of_ble_eq_true rfl) (Nat.le_of_ble_eq_true rfl) (hx 1 a_NSE _ _ (by rw [thF, if_pos h24]) (by decide) rfl (gx_f x1 (by omega)) (gl_f x2 (by omega)) hC1)
theorem c_X9_part {u : Int32} (hC : CS M a R) (hW : WF T a) : XQa yX9_part I_X9_part [.ref 0, .int u] M L dd (thP a u) [ex_I, a_NSE] (fun x => x = .float (FP.fdiv (FP.i2f (sbS a u (fun k => a (34 + k)))) (FP.i2f (allU a)))) a a R R := by
  obtain ⟨hT, hB, hL, hM, hJ, hS'⟩ := hC.1
  have wU := hW.1
  have h12 := wU.2.2.1
  refine xq_mk (fun Q hq hx => ?_)
  refine a_met (by decide +kernel) rfl rfl (Nat.le_of_ble_eq_true rfl) (by simp [Value.category]) (by decide) rfl ?_
  show AW I_X9_part 0 [.ref 0, .int u, .null, .null] [] (hS M L dd) 0 0 Q
  refine r_aload_n dX9_part_0 rfl ?_
  refine r_iload_n dX9_part_1 rfl ?_
  refine m_nv1 dX9_part_2 cv_X9_133 (c_X9_needUser hT.1) ob_x ⟨_, rfl, rfl⟩ (by decide) (by decide) (Nat.le_of_ble_eq_true rfl) (Nat.le_of_ble_eq_true rfl) (Nat.le_of_ble_eq_true rfl) rfl (fun hp => hx 1 ex_I _ _ (by rw [thP, if_pos hp]) (by decide) rfl gx_r gl_r hC) (fun hp => ?_)
  refine r_aload_n dX9_part_5 rfl ?_
  refine m_get 9 0 dX9_part_6 fl_X9_10 ob_x rfl ?_
  refine m_get 5 0 dX9_part_9 fl_X9_77 (ob_place pl1) rfl ?_
  refine s_astore_n 2 dX9_part_12 (by decide) rfl rfl ?_
  refine r_aload_n dX9_part_13 rfl ?_
  refine r_iconst_0 dX9_part_14 ?_
  refine r_aload_n dX9_part_15 rfl ?_
  refine m_get 8 3 dX9_part_16 fl_X9_160 (ob_tree pl1) rfl ?_
  refine m_cv2 dX9_part_19 cv_X9_163 (c_X8_sumBelow (r := fun k => a (34 + k)) pl1 hT wU (ai_use pl1) h12 (by decide) (fun k hk => (hT.2 k hk).2.2)) rfl (ob_tree pl1) ⟨_, rfl, rfl⟩ ⟨rfl, rfl⟩ (by decide) (by decide) (Nat.le_of_ble_eq_true rfl) ?_
  refine s_istore_n 3 dX9_part_22 (by decide) rfl rfl ?_
  refine r_iload_n dX9_part_23 rfl ?_
  refine r_if_ne 38 dX9_part_24 (by decide) (fun h24 => ?_) (fun h24 => ?_)
  · refine r_aload_n dX9_part_38 rfl ?_
    refine r_iload_n dX9_part_39 rfl ?_
    refine r_aload_n dX9_part_40 rfl ?_
    refine m_get 8 3 dX9_part_41 fl_X9_160 (ob_tree pl1) rfl ?_
    refine m_cv2 dX9_part_44 cv_X9_163 (c_X8_sumBelow (r := fun k => a (34 + k)) pl1 hT wU (ai_use pl1) h12 (by decide) (fun k hk => (hT.2 k hk).2.2)) rfl (ob_tree pl1) ⟨_, rfl, rfl⟩ ⟨rfl, rfl⟩ (by decide) (by decide) (Nat.le_of_ble_eq_true rfl) ?_
    refine r_i2f dX9_part_47 ?_
    refine r_iload_n dX9_part_48 rfl ?_
    refine r_i2f dX9_part_49 ?_
    refine r_fdiv dX9_part_50 (fdiv_ok _ _ h24) ?_
    exact r_fret dX9_part_51 rfl (hq _ _ _ (by rw [thP, if_neg (not_not_intro hp), if_neg h24]) rfl gx_r gl_r hC)
  · exact r_throwN th_X9_part_27 rfl (by decide) (Nat.le_of_ble_eq_true rfl) (Nat.le_of_ble_eq_true rfl) (Nat.le_of_ble_eq_true rfl) (hx 2 a_NSE _ _ (by rw [thP, if_neg (not_not_intro hp), if_pos (Decidable.not_not.mp (fun z => z h24))]) (by decide) rfl gx_r gl_r hC)
theorem c_X9_drift (hC : CS M a R) (hW : WF T a) : XQa yX9_drift I_X9_drift [.ref 0] M L dd 0 [] (fun x => x = .int (drfS a)) a a R R := by
  obtain ⟨hT, hB, hL, hM, hJ, hS'⟩ := hC.1
  have wU := hW.1
  have h12 := wU.2.2.1
  refine xq_mk (fun Q hq hx => ?_)
  refine a_met (by decide +kernel) rfl rfl (Nat.le_of_ble_eq_true rfl) (by simp [Value.category]) (by decide) rfl ?_
  show AW I_X9_drift 0 [.ref 0, .null, .null, .null, .null] [] (hS M L dd) 0 0 Q
  refine r_aload_n dX9_drift_0 rfl ?_
  refine m_get 9 0 dX9_drift_1 fl_X9_10 ob_x rfl ?_
  refine m_get 5 0 dX9_drift_4 fl_X9_77 (ob_place pl1) rfl ?_
  refine s_astore_n 1 dX9_drift_7 (by decide) rfl rfl ?_
  refine r_aload_n dX9_drift_8 rfl ?_
  refine r_iconst_0 dX9_drift_9 ?_
  refine r_aload_n dX9_drift_10 rfl ?_
  refine m_get 8 3 dX9_drift_11 fl_X9_160 (ob_tree pl1) rfl ?_
  refine m_cv2 dX9_drift_14 cv_X9_163 (c_X8_sumBelow (r := fun k => a (34 + k)) pl1 hT wU (ai_use pl1) h12 (by decide) (fun k hk => (hT.2 k hk).2.2)) rfl (ob_tree pl1) ⟨_, rfl, rfl⟩ ⟨rfl, rfl⟩ (by decide) (by decide) (Nat.le_of_ble_eq_true rfl) ?_
  refine s_istore_n 2 dX9_drift_17 (by decide) rfl rfl ?_
  refine r_iconst_0 dX9_drift_18 ?_
  refine s_istore_n 3 dX9_drift_19 (by decide) rfl rfl ?_
  refine r_iconst_0 dX9_drift_20 ?_
  refine s_istore dX9_drift_21 (by decide) rfl ?_
  have lp : ∀ k, k ≤ nu a → AW I_X9_drift 23 [.ref 0, .ref (1 + 1), .int (allU a), .int (sumI (fun u => if lfS a u then (if lkU a u < 0 then - lkU a u else lkU a u) else 0) k), .int (nI k)] [] (hS M L dd) 0 0 Q := by
    refine lp_up _ ?_ ?_
    · refine r_iload dX9_drift_23 rfl ?_
      refine r_aload_n dX9_drift_25 rfl ?_
      refine m_get 8 0 dX9_drift_26 fl_X9_81 (ob_tree pl1) rfl ?_
      refine r_icmp_ge 60 dX9_drift_29 (by decide) (fun _ => ?_) (fun z => absurd (by rw [show M (1 + 1) 0 = a 4 from hT.1, wU.1]; exact nI_le (Nat.le_refl _) (by omega)) z)
      refine r_iload_n dX9_drift_60 rfl ?_
      exact r_iret dX9_drift_61 rfl (hq _ _ _ rfl rfl gx_r gl_r hC)
    · intro k hk ih 
      refine r_iload dX9_drift_23 rfl ?_
      refine r_aload_n dX9_drift_25 rfl ?_
      refine m_get 8 0 dX9_drift_26 fl_X9_81 (ob_tree pl1) rfl ?_
      refine r_icmp_ge 60 dX9_drift_29 (by decide) (fun z => absurd z (by rw [show M (1 + 1) 0 = a 4 from hT.1, wU.1]; exact nI_ge hk (by omega))) (fun _ => ?_)
      refine r_aload_n dX9_drift_32 rfl ?_
      refine r_iload dX9_drift_33 rfl ?_
      refine m_cv1 dX9_drift_35 cv_X9_326 (c_X8_isLeaf pl1 hT wU hk) rfl (ob_tree pl1) ⟨_, rfl, rfl⟩ ⟨rfl, rfl⟩ (by decide) (by decide) (Nat.le_of_ble_eq_true rfl) ?_
      refine r_if_eq 54 dX9_drift_38 (by decide) (fun h38 => ?_) (fun h38 => ?_)
      · rw [bI_0] at h38
        refine s_iinc dX9_drift_54 rfl (by decide) rfl ?_
        refine r_goto 23 dX9_drift_57 (by decide) ?_
        exact m_sub ih (by rw [sumI, if_neg h38, Int32.add_zero]; simp [a_sub, nI_succ])
      · rw [bI_0, Decidable.not_not] at h38
        refine r_iload_n dX9_drift_41 rfl ?_
        refine r_aload_n dX9_drift_42 rfl ?_
        refine r_iload dX9_drift_43 rfl ?_
        refine r_iload_n dX9_drift_45 rfl ?_
        refine m_cv2 dX9_drift_46 cv_X9_329 (c_X8_need pl1 hT hB wU hk) rfl (ob_tree pl1) ⟨_, rfl, rfl⟩ ⟨rfl, rfl⟩ (by decide) (by decide) (Nat.le_of_ble_eq_true rfl) ?_
        refine r_mabs dX9_drift_49 k_399 k_400 k_18 k_401 (by decide) (Nat.le_of_ble_eq_true rfl) ?_
        refine r_iadd dX9_drift_52 ?_
        refine s_istore_n 3 dX9_drift_53 (by decide) rfl rfl ?_
        refine s_iinc dX9_drift_54 rfl (by decide) rfl ?_
        refine r_goto 23 dX9_drift_57 (by decide) ?_
        exact m_sub ih (by rw [sumI, if_pos h38]; simp [a_sub, nI_succ]; by_cases hneg : ndS a k (allU a) < 0 <;> simp [hneg, lkU] <;> grind)
  exact m_sub (lp 0 (Nat.zero_le _)) (by simp [a_sub, sumI, nI_0])
theorem c_X9_neediest (hC : CS M a R) (hW : WF T a) : XQa yX9_neediest I_X9_neediest [.ref 0] M L dd 0 [] (fun x => x = .int (neF a (nu a))) a a R R := by
  obtain ⟨hT, hB, hL, hM, hJ, hS'⟩ := hC.1
  have wU := hW.1
  have h12 := wU.2.2.1
  refine xq_mk (fun Q hq hx => ?_)
  refine a_met (by decide +kernel) rfl rfl (Nat.le_of_ble_eq_true rfl) (by simp [Value.category]) (by decide) rfl ?_
  show AW I_X9_neediest 0 [.ref 0, .null, .null, .null, .null, .null] [] (hS M L dd) 0 0 Q
  refine r_aload_n dX9_neediest_0 rfl ?_
  refine m_get 9 0 dX9_neediest_1 fl_X9_10 ob_x rfl ?_
  refine m_get 5 0 dX9_neediest_4 fl_X9_77 (ob_place pl1) rfl ?_
  refine s_astore_n 1 dX9_neediest_7 (by decide) rfl rfl ?_
  refine r_aload_n dX9_neediest_8 rfl ?_
  refine r_iconst_0 dX9_neediest_9 ?_
  refine r_aload_n dX9_neediest_10 rfl ?_
  refine m_get 8 3 dX9_neediest_11 fl_X9_160 (ob_tree pl1) rfl ?_
  refine m_cv2 dX9_neediest_14 cv_X9_163 (c_X8_sumBelow (r := fun k => a (34 + k)) pl1 hT wU (ai_use pl1) h12 (by decide) (fun k hk => (hT.2 k hk).2.2)) rfl (ob_tree pl1) ⟨_, rfl, rfl⟩ ⟨rfl, rfl⟩ (by decide) (by decide) (Nat.le_of_ble_eq_true rfl) ?_
  refine s_istore_n 2 dX9_neediest_17 (by decide) rfl rfl ?_
  refine r_iconst_m1 dX9_neediest_18 ?_
  refine s_istore_n 3 dX9_neediest_19 (by decide) rfl rfl ?_
  refine r_iconst_0 dX9_neediest_20 ?_
  refine s_istore dX9_neediest_21 (by decide) rfl ?_
  refine r_iconst_0 dX9_neediest_23 ?_
  refine s_istore dX9_neediest_24 (by decide) rfl ?_
  have lp : ∀ k, k ≤ nu a → ∀ g : Int32, (neF a k ≠ -1 → g = lkU a (zN (neF a k))) → AW I_X9_neediest 26 [.ref 0, .ref (1 + 1), .int (allU a), .int (neF a k), .int g, .int (nI k)] [] (hS M L dd) 0 0 Q := by
    refine lp_up _ ?_ ?_
    · intro g hg 
      refine r_iload dX9_neediest_26 rfl ?_
      refine r_aload_n dX9_neediest_28 rfl ?_
      refine m_get 8 0 dX9_neediest_29 fl_X9_81 (ob_tree pl1) rfl ?_
      refine r_icmp_ge 79 dX9_neediest_32 (by decide) (fun _ => ?_) (fun z => absurd (by rw [show M (1 + 1) 0 = a 4 from hT.1, wU.1]; exact nI_le (Nat.le_refl _) (by omega)) z)
      refine r_iload_n dX9_neediest_79 rfl ?_
      exact r_iret dX9_neediest_80 rfl (hq _ _ _ rfl rfl gx_r gl_r hC)
    · intro k hk ih g hg 
      have tk : ∀ g' : Int32, lfS a k → (neF a k = -1 ∨ lkU a (zN (neF a k)) < lkU a k) → AW I_X9_neediest 61 [.ref 0, .ref (1 + 1), .int (allU a), .int (neF a k), .int g, .int (nI k)] [] (hS M L dd) 0 0 Q := by
        intro _ lf hc
        have ne : neF a (k + 1) = nI k := by rw [neF, if_pos ⟨lf, hc⟩]
        refine r_iload dX9_neediest_61 rfl ?_
        refine s_istore_n 3 dX9_neediest_63 (by decide) rfl rfl ?_
        refine r_aload_n dX9_neediest_64 rfl ?_
        refine r_iload dX9_neediest_65 rfl ?_
        refine r_iload_n dX9_neediest_67 rfl ?_
        refine m_cv2 dX9_neediest_68 cv_X9_329 (c_X8_need pl1 hT hB wU hk) rfl (ob_tree pl1) ⟨_, rfl, rfl⟩ ⟨rfl, rfl⟩ (by decide) (by decide) (Nat.le_of_ble_eq_true rfl) ?_
        refine s_istore dX9_neediest_71 (by decide) rfl ?_
        refine s_iinc dX9_neediest_73 rfl (by decide) rfl ?_
        refine r_goto 26 dX9_neediest_76 (by decide) ?_
        exact m_sub (ih (lkU a k) (fun _ => by rw [ne, zN, nI_clamp (by omega)])) (by rw [ne]; simp [a_sub, nI_succ])
      refine r_iload dX9_neediest_26 rfl ?_
      refine r_aload_n dX9_neediest_28 rfl ?_
      refine m_get 8 0 dX9_neediest_29 fl_X9_81 (ob_tree pl1) rfl ?_
      refine r_icmp_ge 79 dX9_neediest_32 (by decide) (fun z => absurd z (by rw [show M (1 + 1) 0 = a 4 from hT.1, wU.1]; exact nI_ge hk (by omega))) (fun _ => ?_)
      refine r_aload_n dX9_neediest_35 rfl ?_
      refine r_iload dX9_neediest_36 rfl ?_
      refine m_cv1 dX9_neediest_38 cv_X9_326 (c_X8_isLeaf pl1 hT wU hk) rfl (ob_tree pl1) ⟨_, rfl, rfl⟩ ⟨rfl, rfl⟩ (by decide) (by decide) (Nat.le_of_ble_eq_true rfl) ?_
      refine r_if_eq 73 dX9_neediest_41 (by decide) (fun h41 => ?_) (fun h41 => ?_)
      · rw [bI_0] at h41
        have ne : neF a (k + 1) = neF a k := by rw [neF, if_neg (fun z => h41 z.1)]
        refine s_iinc dX9_neediest_73 rfl (by decide) rfl ?_
        refine r_goto 26 dX9_neediest_76 (by decide) ?_
        exact m_sub (ih g (by rw [ne]; exact hg)) (by rw [ne]; simp [a_sub, nI_succ])
      · rw [bI_0, Decidable.not_not] at h41
        refine r_iload_n dX9_neediest_44 rfl ?_
        refine r_iconst_m1 dX9_neediest_45 ?_
        refine r_icmp_eq 61 dX9_neediest_46 (by decide) (fun h46 => ?_) (fun h46 => ?_)
        · exact tk 0 h41 (Or.inl h46)
        · refine r_aload_n dX9_neediest_49 rfl ?_
          refine r_iload dX9_neediest_50 rfl ?_
          refine r_iload_n dX9_neediest_52 rfl ?_
          refine m_cv2 dX9_neediest_53 cv_X9_329 (c_X8_need pl1 hT hB wU hk) rfl (ob_tree pl1) ⟨_, rfl, rfl⟩ ⟨rfl, rfl⟩ (by decide) (by decide) (Nat.le_of_ble_eq_true rfl) ?_
          refine r_iload dX9_neediest_56 rfl ?_
          rw [hg h46]
          refine r_icmp_le 73 dX9_neediest_58 (by decide) (fun h58 => ?_) (fun h58 => ?_)
          · have ne : neF a (k + 1) = neF a k := by rw [neF, if_neg (fun z => z.2.elim h46 (fun y => by have := Int32.not_le.mpr y; exact this h58))]
            refine s_iinc dX9_neediest_73 rfl (by decide) rfl ?_
            refine r_goto 26 dX9_neediest_76 (by decide) ?_
            exact m_sub (ih (lkU a (zN (neF a k))) (by rw [ne]; exact fun _ => rfl)) (by rw [ne]; simp [a_sub, nI_succ])
          · rw [← hg h46]
            exact tk 0 h41 (Or.inr (Int32.not_le.mp h58))
  exact m_sub (lp 0 (Nat.zero_le _) 0 (fun z => absurd rfl z)) (by simp [a_sub, neF, nI_0])
end X9Q2
