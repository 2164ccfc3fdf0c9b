section X9M
variable {M : Nat → Nat → Int32} {L : Nat → Nat → Int64} {dd : UInt64} {a b : Row} {R : List Row} {T p : Nat} {Q : a_Q}
theorem qp_jobs2 {M' : Nat → Nat → Int32} (hQ : QP M p a) (hF : Fr (p + 15) (p + 23) M M') (hJ : QJ M' p b) (h : ∀ i, i ≠ 6 → (i < 58 ∨ 268 ≤ i) → b i = a i) (hW : WF T a) : QP M' p b := by
  obtain ⟨q1, q2, q3, q4, q5, q6⟩ := hQ
  exact ⟨rt_fr (qt_c (fun i hi => h i (by omega) (by omega)) hW.1.2.2.1 q1) hF (by omega), qb_f hF (by omega) (qb_c (fun i hi => h i (by omega) (by omega)) hW.1 q2), ql_f hF (by omega) (ql_c (fun i hi => h i (by omega) (by omega)) hW.2.2.2.2.1.2.1 q3), qm_f hF (by omega) (qm_c (fun i hi => h i (by omega) (by omega)) hW.2.2.1.2.1 q4), hJ, qs_f hF (by omega) (qs_c (fun i hi => h i (by omega) (by omega)) q6)⟩
theorem qp_loans {M' : Nat → Nat → Int32} (hQ : QP M p a) (hF : Fr (p + 6) (p + 12) M M') (hL : QL M' p b) (h : ∀ i, i ≠ 7 → (i < 268 ∨ 308 ≤ i) → b i = a i) (hW : WF T a) : QP M' p b := by
  obtain ⟨q1, q2, q3, q4, q5, q6⟩ := hQ
  exact ⟨rt_fr (qt_c (fun i hi => h i (by omega) (by omega)) hW.1.2.2.1 q1) hF (by omega), qb_f hF (by omega) (qb_c (fun i hi => h i (by omega) (by omega)) hW.1 q2), hL, qm_f hF (by omega) (qm_c (fun i hi => h i (by omega) (by omega)) hW.2.2.1.2.1 q4), qj_f hF (by omega) (qj_c (fun i hi => h i (by omega) (by omega)) hW.2.2.2.1.2.1 q5), qs_f hF (by omega) (qs_c (fun i hi => h i (by omega) (by omega)) q6)⟩
theorem qp_tree {M' : Nat → Nat → Int32} (hQ : QP M p a) (hF : Fr (p + 1) (p + 6) M M') (hT : QT M' p b) (hB : QB M' p b) (h : ∀ i, i ≠ 4 → (i < 10 ∨ 46 ≤ i) → b i = a i) (hW : WF T a) : QP M' p b := by
  obtain ⟨q1, q2, q3, q4, q5, q6⟩ := hQ
  exact ⟨hT, hB, ql_f hF (by omega) (ql_c (fun i hi => h i (by omega) (by omega)) hW.2.2.2.2.1.2.1 q3), qm_f hF (by omega) (qm_c (fun i hi => h i (by omega) (by omega)) hW.2.2.1.2.1 q4), qj_f hF (by omega) (qj_c (fun i hi => h i (by omega) (by omega)) hW.2.2.2.1.2.1 q5), qs_f hF (by omega) (qs_c (fun i hi => h i (by omega) (by omega)) q6)⟩
theorem qp_set {k : Nat} {v : Int32} (hP : PL p) (hQ : QP M p a) (hk : k < 3) (hW : WF T a) : QP (mU M (p + 30) (upd (M (p + 30)) k v)) p (upd a (1 + k) v) := by
  obtain ⟨q1, q2, q3, q4, q5, q6⟩ := hQ
  have hF : Fr (p + 30) (p + 31) M (mU M (p + 30) (upd (M (p + 30)) k v)) := fr_u fr_r (by omega)
  have h : ∀ i, i ≠ 1 + k → upd a (1 + k) v i = a i := fun i hi => upd_ne hi
  refine ⟨rt_fr (qt_c (fun i hi => h i (by omega)) hW.1.2.2.1 q1) hF (by omega), qb_f hF (by omega) (qb_c (fun i hi => h i (by omega)) hW.1 q2), ql_f hF (by omega) (ql_c (fun i hi => h i (by omega)) hW.2.2.2.2.1.2.1 q3), qm_f hF (by omega) (qm_c (fun i hi => h i (by omega)) hW.2.2.1.2.1 q4), qj_f hF (by omega) (qj_c (fun i hi => h i (by omega)) hW.2.2.2.1.2.1 q5), ?_⟩
  obtain ⟨s1, s2, s3, s4, s5, s6⟩ := q6
  unfold QS
  rw [mU_s, mU_n (by omega), h 0 (by omega), h 8 (by omega), h 9 (by omega)]
  rcases (show k = 0 ∨ k = 1 ∨ k = 2 by omega) with z | z | z <;> subst z
  · exact ⟨by rw [upd_eq, upd_eq], by rw [upd_ne (by omega), upd_ne (by omega)]; exact s2, by rw [upd_ne (by omega), upd_ne (by omega)]; exact s3, s4, s5, s6⟩
  · exact ⟨by rw [upd_ne (by omega), upd_ne (by omega)]; exact s1, by rw [upd_eq, upd_eq], by rw [upd_ne (by omega), upd_ne (by omega)]; exact s3, s4, s5, s6⟩
  · exact ⟨by rw [upd_ne (by omega), upd_ne (by omega)]; exact s1, by rw [upd_ne (by omega), upd_ne (by omega)]; exact s2, by rw [upd_eq, upd_eq], s4, s5, s6⟩
theorem full_n {x : Int32} {n : Nat} (c : Nat) (hx : x = nI n) (hn : n ≤ c) (hc : c < 100) : nI c ≤ x ↔ x = nI c := by
  subst hx
  rw [nI_leI (by omega) (by omega), nI_eq (by omega) (by omega)]
  omega
theorem adJ_o {u s : Int32} (h30 : nj a < 30) : ∀ i, i ≠ 6 → (i < 58 ∨ 268 ≤ i) → adJ a u s i = a i := fun i h1 h2 => by
  unfold adJ
  rw [upd_ne h1, lay_o h30 (by omega) h2, lay_o h30 (by omega) h2, lay_o h30 (by omega) h2, lay_o h30 (by omega) h2, lay_o h30 (by omega) h2, lay_o h30 (by omega) h2, lay_o h30 (by omega) h2]
theorem adL_o {u v s q : Int32} (h8 : nl a < 8) : ∀ i, i ≠ 7 → (i < 268 ∨ 308 ≤ i) → adL a u v s q i = a i := fun i h1 h2 => by
  unfold adL
  rw [upd_ne h1]
  simp only [layL]
  rw [upd_ne (by omega), upd_ne (by omega), upd_ne (by omega), upd_ne (by omega), upd_ne (by omega)]
theorem c_X9_addUser {q s : Int32} (hC : CS M a R) (hW : WF T a) : XQa yX9_addUser I_X9_addUser [.ref 0, .int q, .int s] M L dd (thAU a q s) [ex_I, ex_A, ex_S] (fun x => x = .int (a 4)) a (adU a q s) R (pushR R a) := by
  obtain ⟨hT, hB, hL, hM, hJ, hS'⟩ := hC.1
  have wU := hW.1
  have wJ := hW.2.2.2.1
  have wL := hW.2.2.2.2.1
  have h12 := wU.2.2.1
  have hfull : (12 : Int32) ≤ M (1 + 1) 0 ↔ a 4 = 12 := by rw [show M (1 + 1) 0 = a 4 from hT.1]; exact full_n 12 wU.1 h12 (by omega)
  refine xq_mk (fun Q hq hx => ?_)
  refine a_met (by decide +kernel) rfl rfl (Nat.le_of_ble_eq_true rfl) (by simp [Value.category]) (by decide) rfl ?_
  show AW I_X9_addUser 0 [.ref 0, .int q, .int s] [] (hS M L dd) 0 0 Q
  refine r_aload_n dX9_addUser_0 rfl ?_
  refine r_iload_n dX9_addUser_1 rfl ?_
  refine m_nv1 dX9_addUser_2 cv_X9_133 (c_X9_needUser hT.1) ob_x ⟨_, rfl, rfl⟩ (by decide) (by decide) (Nat.le_of_ble_eq_true rfl) (Nat.le_of_ble_eq_true rfl) (Nat.le_of_ble_eq_true rfl) rfl (fun hp => hx 1 ex_I _ _ (by rw [thAU, if_pos hp]) (by decide) rfl gx_r gl_r hC) (fun hp => ?_)
  refine r_iload_n dX9_addUser_5 rfl ?_
  refine r_iconst_1 dX9_addUser_6 ?_
  refine r_bipush 99 dX9_addUser_7 (by decide) ?_
  refine m_ns3 dX9_addUser_9 cs_X9_175 (c_X9_needRange) (by decide) (by decide) (Nat.le_of_ble_eq_true rfl) (Nat.le_of_ble_eq_true rfl) (Nat.le_of_ble_eq_true rfl) rfl (fun hk1 => hx 2 ex_A _ _ (by rw [thAU, if_neg (not_not_intro hp), if_pos hk1]) (by decide) rfl gx_r gl_r hC) (fun hk1 => ?_)
  have cont : ¬ (a 4 = 12 ∨ anJ a q = true ∨ anL a q = true) → AW I_X9_addUser 63 [.ref 0, .int q, .int s] [] (hS M L dd) 2 12 Q := by
    intro h3
    have ht : thAU a q s = 0 := by rw [thAU, if_neg (not_not_intro hp), if_neg (not_not_intro hk1), if_neg h3]
    obtain ⟨k, hk, rfl⟩ := ix_n wU.1 (by omega) hp
    obtain ⟨s', hs', rfl⟩ := ix_c (u := s) 99 (by omega) ⟨Int32.le_trans (by decide) hk1.1, hk1.2⟩
    have hs1 : 1 ≤ s' := by have := hk1.1; rw [show (1 : Int32) = nI 1 from rfl, nI_leI (by omega) (by omega)] at this; exact this
    have hn : nu a < 12 := by
      have z : nu a ≠ 12 := fun z => h3 (Or.inl (by rw [wU.1, z]; rfl))
      omega
    refine r_aload_n dX9_addUser_63 rfl ?_
    refine m_get 9 2 dX9_addUser_64 fl_X9_22 ob_x rfl ?_
    refine r_aload_n dX9_addUser_67 rfl ?_
    refine m_get 9 0 dX9_addUser_68 fl_X9_10 ob_x rfl ?_
    refine m_pv1 dX9_addUser_71 cv_X9_67 (c_X0_keep hC.1 hC.2 hW) ob_history ⟨_, rfl, rfl⟩ ⟨rfl, rfl⟩ (by decide) (by decide) (Nat.le_of_ble_eq_true rfl) (fun M2 L2 ⟨x1, x2, x3⟩ => ?_)
    subst x1
    have hQ2 : QP M2 1 a := qp_f x2 (Or.inl (by omega)) hC.1
    refine r_aload_n dX9_addUser_74 rfl ?_
    refine m_get 9 0 dX9_addUser_75 fl_X9_10 ob_x rfl ?_
    refine m_get 5 0 dX9_addUser_78 fl_X9_77 (ob_place pl1) rfl ?_
    refine r_iload_n dX9_addUser_81 rfl ?_
    refine r_iload_n dX9_addUser_82 rfl ?_
    refine m_pv2 dX9_addUser_83 cv_X9_190 (c_X8_add pl1 hQ2.1 hQ2.2.1 wU (wu_ad wU hn hk hs1 hs') hn hk) (ob_tree pl1) ⟨_, rfl, rfl⟩ ⟨rfl, rfl⟩ (by decide) (by decide) (Nat.le_of_ble_eq_true rfl) (fun M3 L3 ⟨y1, y2, y3, y4⟩ => ?_)
    subst y1
    have hQ3 : QP M3 1 (adU a (nI k) (nI s')) := qp_tree hQ2 y2 y3 y4 (fun i h1 h2 => ad_o (by omega) h1 (by omega) (by omega) (by omega)) hW
    refine r_aload_n dX9_addUser_86 rfl ?_
    refine m_get 9 0 dX9_addUser_87 fl_X9_10 ob_x rfl ?_
    refine m_get 5 0 dX9_addUser_90 fl_X9_77 (ob_place pl1) rfl ?_
    refine m_get 8 0 dX9_addUser_93 fl_X9_81 (ob_tree pl1) rfl ?_
    refine r_iconst_1 dX9_addUser_96 ?_
    refine r_isub dX9_addUser_97 ?_
    refine r_iret dX9_addUser_98 rfl (hq _ _ _ ht (congrArg Value.int ?_) (gx_t (gx_f x2 (by omega)) (gx_f y2 (by omega))) gl_r ⟨hQ3, hr_f y2 (by omega) x3⟩)
    rw [show M3 (1 + 1) 0 = adU a (nI k) (nI s') 4 from y3.1, show adU a (nI k) (nI s') 4 = a 4 + 1 from upd_eq]
    grind
  refine r_aload_n dX9_addUser_12 rfl ?_
  refine m_get 9 0 dX9_addUser_13 fl_X9_10 ob_x rfl ?_
  refine m_get 5 0 dX9_addUser_16 fl_X9_77 (ob_place pl1) rfl ?_
  refine m_cv0 dX9_addUser_19 cv_X9_179 (c_X8_isFull pl1) rfl (ob_tree pl1) ⟨_, rfl, rfl⟩ ⟨rfl, rfl⟩ (by decide) (by decide) (Nat.le_of_ble_eq_true rfl) ?_
  refine r_if_ne 53 dX9_addUser_22 (by decide) (fun h22 => ?_) (fun h22 => ?_)
  · exact r_throw th_X9_addUser_53 rfl (by decide) (by decide) (Nat.le_of_ble_eq_true rfl) (Nat.le_of_ble_eq_true rfl) (hx 3 ex_S _ _ (by rw [thAU, if_neg (not_not_intro hp), if_neg (not_not_intro hk1), if_pos (by first | exact Or.inl (hfull.mp (Decidable.not_not.mp (fun z => h22 (bI_0.mpr z)))) | exact Or.inr (Or.inl (Decidable.not_not.mp (fun z => h36 (bI_0.mpr z)))) | exact Or.inr (Or.inr (Decidable.not_not.mp (fun z => h50 (bI_0.mpr z)))))]) (by decide) rfl gx_r gl_r hC)
  · refine r_aload_n dX9_addUser_25 rfl ?_
    refine m_get 9 0 dX9_addUser_26 fl_X9_10 ob_x rfl ?_
    refine m_get 5 3 dX9_addUser_29 fl_X9_96 (ob_place pl1) rfl ?_
    refine r_iload_n dX9_addUser_32 rfl ?_
    refine m_cv1 dX9_addUser_33 cv_X9_183 (c_X1_anyOf pl1 hJ wJ.1 wJ.2.1) rfl (ob_jobs pl1) ⟨_, rfl, rfl⟩ ⟨rfl, rfl⟩ (by decide) (by decide) (Nat.le_of_ble_eq_true rfl) ?_
    refine r_if_ne 53 dX9_addUser_36 (by decide) (fun h36 => ?_) (fun h36 => ?_)
    · exact r_throw th_X9_addUser_53 rfl (by decide) (by decide) (Nat.le_of_ble_eq_true rfl) (Nat.le_of_ble_eq_true rfl) (hx 3 ex_S _ _ (by rw [thAU, if_neg (not_not_intro hp), if_neg (not_not_intro hk1), if_pos (by first | exact Or.inl (hfull.mp (Decidable.not_not.mp (fun z => h22 (bI_0.mpr z)))) | exact Or.inr (Or.inl (Decidable.not_not.mp (fun z => h36 (bI_0.mpr z)))) | exact Or.inr (Or.inr (Decidable.not_not.mp (fun z => h50 (bI_0.mpr z)))))]) (by decide) rfl gx_r gl_r hC)
    · refine r_aload_n dX9_addUser_39 rfl ?_
      refine m_get 9 0 dX9_addUser_40 fl_X9_10 ob_x rfl ?_
      refine m_get 5 1 dX9_addUser_43 fl_X9_103 (ob_place pl1) rfl ?_
      refine r_iload_n dX9_addUser_46 rfl ?_
      refine m_cv1 dX9_addUser_47 cv_X9_187 (c_X2_anyOf pl1 hL wL.1 wL.2.1) rfl (ob_loans pl1) ⟨_, rfl, rfl⟩ ⟨rfl, rfl⟩ (by decide) (by decide) (Nat.le_of_ble_eq_true rfl) ?_
      refine r_if_eq 63 dX9_addUser_50 (by decide) (fun h50 => ?_) (fun h50 => ?_)
      · exact cont (fun z => z.elim (fun y => bI_0.mp h22 (hfull.mpr y)) (fun y => y.elim (bI_0.mp h36) (bI_0.mp h50)))
      · exact r_throw th_X9_addUser_53 rfl (by decide) (by decide) (Nat.le_of_ble_eq_true rfl) (Nat.le_of_ble_eq_true rfl) (hx 3 ex_S _ _ (by rw [thAU, if_neg (not_not_intro hp), if_neg (not_not_intro hk1), if_pos (by first | exact Or.inl (hfull.mp (Decidable.not_not.mp (fun z => h22 (bI_0.mpr z)))) | exact Or.inr (Or.inl (Decidable.not_not.mp (fun z => h36 (bI_0.mpr z)))) | exact Or.inr (Or.inr (Decidable.not_not.mp (fun z => h50 (bI_0.mpr z)))))]) (by decide) rfl gx_r gl_r hC)
theorem c_X9_setShares {u s : Int32} (hC : CS M a R) (hW : WF T a) : XQa yX9_setShares I_X9_setShares [.ref 0, .int u, .int s] M L dd (thSS a u s) [ex_I, ex_A] (fun x => ∀ k, k < nu a → u = nI k → x = .int (a (22 + k))) a (upd a (22 + zN u) s) R (pushR R a) := by
  obtain ⟨hT, hB, hL, hM, hJ, hS'⟩ := hC.1
  have wU := hW.1
  have h12 := wU.2.2.1
  refine xq_mk (fun Q hq hx => ?_)
  refine a_met (by decide +kernel) rfl rfl (Nat.le_of_ble_eq_true rfl) (by simp [Value.category]) (by decide) rfl ?_
  show AW I_X9_setShares 0 [.ref 0, .int u, .int s, .null] [] (hS M L dd) 0 0 Q
  refine r_aload_n dX9_setShares_0 rfl ?_
  refine r_iload_n dX9_setShares_1 rfl ?_
  refine m_nv1 dX9_setShares_2 cv_X9_133 (c_X9_needUser hT.1) ob_x ⟨_, rfl, rfl⟩ (by decide) (by decide) (Nat.le_of_ble_eq_true rfl) (Nat.le_of_ble_eq_true rfl) (Nat.le_of_ble_eq_true rfl) rfl (fun hp => hx 1 ex_I _ _ (by rw [thSS, if_pos hp]) (by decide) rfl gx_r gl_r hC) (fun hp => ?_)
  refine r_iload_n dX9_setShares_5 rfl ?_
  refine r_iconst_1 dX9_setShares_6 ?_
  refine r_bipush 99 dX9_setShares_7 (by decide) ?_
  refine m_ns3 dX9_setShares_9 cs_X9_175 (c_X9_needRange) (by decide) (by decide) (Nat.le_of_ble_eq_true rfl) (Nat.le_of_ble_eq_true rfl) (Nat.le_of_ble_eq_true rfl) rfl (fun hk1 => hx 2 ex_A _ _ (by rw [thSS, if_neg (not_not_intro hp), if_neg (fun z => hk1 z.1)]) (by decide) rfl gx_r gl_r hC) (fun hk1 => ?_)
  refine r_iload_n dX9_setShares_12 rfl ?_
  obtain ⟨k, hk, rfl⟩ := ix_n wU.1 (by omega) hp
  obtain ⟨s', hs', rfl⟩ := ix_c (u := s) 99 (by omega) ⟨Int32.le_trans (by decide) hk1.1, hk1.2⟩
  have hs1 : 1 ≤ s' := by have := hk1.1; rw [show (1 : Int32) = nI 1 from rfl, nI_leI (by omega) (by omega)] at this; exact this
  have zk : zN (nI k) = k := nI_clamp (by omega)
  refine r_if_ne 26 dX9_setShares_13 (by decide) (fun h13 => ?_) (fun h13 => ?_)
  · have hk0 : 0 < k := by
      rcases Nat.eq_zero_or_pos k with z | z
      · exact absurd (by rw [z]; rfl) h13
      · exact z
    have ht : thSS a (nI k) (nI s') = 0 := by rw [thSS, if_neg (not_not_intro hp), if_pos ⟨hk1, by rw [show (0 : Int32) = nI 0 from rfl, nI_ltI (by omega) (by omega)]; exact hk0⟩]
    refine r_aload_n dX9_setShares_26 rfl ?_
    refine m_get 9 0 dX9_setShares_27 fl_X9_10 ob_x rfl ?_
    refine m_get 5 0 dX9_setShares_30 fl_X9_77 (ob_place pl1) rfl ?_
    refine m_get 8 2 dX9_setShares_33 fl_X9_148 (ob_tree pl1) rfl ?_
    refine r_iload_n dX9_setShares_36 rfl ?_
    refine m_iald k dX9_setShares_37 (ai_shares pl1) rfl (by omega) (by first | decide | assumption) ?_
    refine s_istore_n 3 dX9_setShares_38 (by decide) rfl rfl ?_
    refine r_aload_n dX9_setShares_39 rfl ?_
    refine m_get 9 2 dX9_setShares_40 fl_X9_22 ob_x rfl ?_
    refine r_aload_n dX9_setShares_43 rfl ?_
    refine m_get 9 0 dX9_setShares_44 fl_X9_10 ob_x rfl ?_
    refine m_pv1 dX9_setShares_47 cv_X9_67 (c_X0_keep hC.1 hC.2 hW) ob_history ⟨_, rfl, rfl⟩ ⟨rfl, rfl⟩ (by decide) (by decide) (Nat.le_of_ble_eq_true rfl) (fun M2 L2 ⟨x1, x2, x3⟩ => ?_)
    subst x1
    have hQ2 : QP M2 1 a := qp_f x2 (Or.inl (by omega)) hC.1
    have wf := wf_sh hW hk hs1 hs'
    refine r_aload_n dX9_setShares_50 rfl ?_
    refine m_get 9 0 dX9_setShares_51 fl_X9_10 ob_x rfl ?_
    refine m_get 5 0 dX9_setShares_54 fl_X9_77 (ob_place pl1) rfl ?_
    refine r_iload_n dX9_setShares_57 rfl ?_
    refine r_iload_n dX9_setShares_58 rfl ?_
    refine m_pv2 dX9_setShares_59 cv_X9_196 (c_X8_changeShares pl1 hQ2.1 hQ2.2.1 wU wf.1 hk hk0) (ob_tree pl1) ⟨_, rfl, rfl⟩ ⟨rfl, rfl⟩ (by decide) (by decide) (Nat.le_of_ble_eq_true rfl) (fun M3 L3 ⟨y1, y2, y3, y4⟩ => ?_)
    subst y1
    have hQ3 : QP M3 1 (upd a (22 + k) (nI s')) := qp_tree hQ2 y2 y3 y4 (fun i h1 h2 => upd_ne (by omega)) hW
    refine r_iload_n dX9_setShares_62 rfl ?_
    refine r_iret dX9_setShares_63 rfl (hq _ _ _ ht (fun k2 hk2 e2 => ?_) (gx_t (gx_f x2 (by omega)) (gx_f y2 (by omega))) gl_r ⟨by rw [zk]; exact hQ3, hr_f y2 (by omega) x3⟩)
    rw [nI_eq (by omega) (by omega)] at e2
    subst e2
    rw [show M (1 + 3) k = a (22 + k) from (hT.2 k hk).2.1]
  · exact r_throw th_X9_setShares_16 rfl (by decide) (by decide) (Nat.le_of_ble_eq_true rfl) (Nat.le_of_ble_eq_true rfl) (hx 2 ex_A _ _ (by rw [thSS, if_neg (not_not_intro hp), if_neg (fun z => by rw [h13] at z; exact absurd z.2 (by decide))]) (by decide) rfl gx_r gl_r hC)
theorem c_X9_lend {f t s q : Int32} (hC : CS M a R) (hW : WF T a) : XQa yX9_lend I_X9_lend [.ref 0, .int f, .int t, .int s, .int q] M L dd (thLe a f t s q) [ex_I, ex_A, ex_S] (fun x => x = .int (a 7)) a (adL a f t s q) R (pushR R a) := by
  have wU := hW.1
  have wL := hW.2.2.2.2.1
  have h12 := wU.2.2.1
  have h8 := wL.2.1
  have hT0 : M 2 0 = a 4 := hC.1.1.1
  refine xq_mk (fun Q hq hx => ?_)
  refine a_met (by decide +kernel) rfl rfl (Nat.le_of_ble_eq_true rfl) (by simp [Value.category]) (by decide) rfl ?_
  show AW I_X9_lend 0 [.ref 0, .int f, .int t, .int s, .int q] [] (hS M L dd) 0 0 Q
  refine r_aload_n dX9_lend_0 rfl ?_
  refine r_iload_n dX9_lend_1 rfl ?_
  refine m_nv1 dX9_lend_2 cv_X9_133 (c_X9_needUser hT0) ob_x ⟨_, rfl, rfl⟩ (by decide) (by decide) (Nat.le_of_ble_eq_true rfl) (Nat.le_of_ble_eq_true rfl) (Nat.le_of_ble_eq_true rfl) rfl (fun hp => hx 1 ex_I _ _ (by rw [thLe, if_pos (Or.inl hp)]) (by decide) rfl gx_r gl_r hC) (fun hp => ?_)
  refine r_aload_n dX9_lend_5 rfl ?_
  refine r_iload_n dX9_lend_6 rfl ?_
  refine m_nv1 dX9_lend_7 cv_X9_133 (c_X9_needUser hT0) ob_x ⟨_, rfl, rfl⟩ (by decide) (by decide) (Nat.le_of_ble_eq_true rfl) (Nat.le_of_ble_eq_true rfl) (Nat.le_of_ble_eq_true rfl) rfl (fun hp2 => hx 1 ex_I _ _ (by rw [thLe, if_pos (Or.inr hp2)]) (by decide) rfl gx_r gl_r hC) (fun hp2 => ?_)
  refine r_iload_n dX9_lend_10 rfl ?_
  refine r_iload_n dX9_lend_11 rfl ?_
  have g1 : ¬ (¬ (0 ≤ f ∧ f < a 4) ∨ ¬ (0 ≤ t ∧ t < a 4)) := fun z => z.elim (fun y => y hp) (fun y => y hp2)
  refine r_icmp_ne 25 dX9_lend_12 (by decide) (fun h12' => ?_) (fun h12' => ?_)
  · refine r_iload_n dX9_lend_25 rfl ?_
    refine r_iconst_1 dX9_lend_26 ?_
    refine r_ldc 500000 dX9_lend_27 k_897 ?_
    refine m_ns3 dX9_lend_29 cs_X9_175 (c_X9_needRange) (by decide) (by decide) (Nat.le_of_ble_eq_true rfl) (Nat.le_of_ble_eq_true rfl) (Nat.le_of_ble_eq_true rfl) rfl (fun hk1 => hx 2 ex_A _ _ (by rw [thLe, if_neg g1, if_pos (Or.inr (Or.inl hk1))]) (by decide) rfl gx_r gl_r hC) (fun hk1 => ?_)
    refine r_iload dX9_lend_32 rfl ?_
    refine r_iconst_1 dX9_lend_34 ?_
    refine r_bipush 50 dX9_lend_35 (by decide) ?_
    refine m_ns3 dX9_lend_37 cs_X9_175 (c_X9_needRange) (by decide) (by decide) (Nat.le_of_ble_eq_true rfl) (Nat.le_of_ble_eq_true rfl) (Nat.le_of_ble_eq_true rfl) rfl (fun hk2 => hx 2 ex_A _ _ (by rw [thLe, if_neg g1, if_pos (Or.inr (Or.inr hk2))]) (by decide) rfl gx_r gl_r hC) (fun hk2 => ?_)
    have g2 : ¬ (f = t ∨ ¬ (1 ≤ s ∧ s ≤ 500000) ∨ ¬ (1 ≤ q ∧ q ≤ 50)) := fun z => z.elim h12' (fun y => y.elim (fun w => w hk1) (fun w => w hk2))
    obtain ⟨k, hk, rfl⟩ := ix_n wU.1 (by omega) hp
    obtain ⟨k2, hkt, rfl⟩ := ix_n wU.1 (by omega) hp2
    have zk : zN (nI k) = k := nI_clamp (by omega)
    have zk2 : zN (nI k2) = k2 := nI_clamp (by omega)
    have hne : k ≠ k2 := fun z => h12' (by rw [z])
    refine r_aload_n dX9_lend_40 rfl ?_
    refine r_iload_n dX9_lend_41 rfl ?_
    refine m_nv1 dX9_lend_42 cv_X9_202 (c_X9_needLeaf hC.1.1 wU hk) ob_x ⟨_, rfl, rfl⟩ (by decide) (by decide) (Nat.le_of_ble_eq_true rfl) (Nat.le_of_ble_eq_true rfl) (Nat.le_of_ble_eq_true rfl) rfl (fun lf => hx 3 ex_S _ _ (by rw [thLe, if_neg g1, if_neg g2, zk, if_pos (Or.inl lf)]) (by decide) rfl gx_r gl_r hC) (fun lf => ?_)
    refine r_aload_n dX9_lend_45 rfl ?_
    refine r_iload_n dX9_lend_46 rfl ?_
    refine m_nv1 dX9_lend_47 cv_X9_202 (c_X9_needLeaf hC.1.1 wU hkt) ob_x ⟨_, rfl, rfl⟩ (by decide) (by decide) (Nat.le_of_ble_eq_true rfl) (Nat.le_of_ble_eq_true rfl) (Nat.le_of_ble_eq_true rfl) rfl (fun lt => hx 3 ex_S _ _ (by rw [thLe, if_neg g1, if_neg g2, zk2, if_pos (Or.inr (Or.inl lt))]) (by decide) rfl gx_r gl_r hC) (fun lt => ?_)
    refine r_aload_n dX9_lend_50 rfl ?_
    refine m_get 9 0 dX9_lend_51 fl_X9_10 ob_x rfl ?_
    refine m_get 5 4 dX9_lend_54 fl_X9_136 (ob_place pl1) rfl ?_
    refine r_aload_n dX9_lend_57 rfl ?_
    refine m_get 9 0 dX9_lend_58 fl_X9_10 ob_x rfl ?_
    refine m_pv1 dX9_lend_61 cv_X9_140 (c_X6_survey pl1 hC.1 hW) (ob_scale pl1) ⟨_, rfl, rfl⟩ ⟨rfl, rfl⟩ (by decide) (by decide) (Nat.le_of_ble_eq_true rfl) (fun M1 L1 ⟨x1, x2, x3, x4⟩ => ?_)
    have hC1 := cs_sv x1 hC
    obtain ⟨hT, hB, hL, hM, hJ, hS'⟩ := hC1.1
    have hfull : (8 : Int32) ≤ M1 (1 + 6) 0 ↔ a 7 = 8 := by rw [show M1 (1 + 6) 0 = a 7 from hL.1]; exact full_n 8 wL.1 h8 (by omega)
    have ex3 : (a 7 = 8 ∨ tkS a k < s) → thLe a (nI k) (nI k2) s q = 3 := fun z => by rw [thLe, if_neg g1, if_neg g2, zk, zk2, if_pos (Or.inr (Or.inr z))]
    have cont : ¬ (a 7 = 8 ∨ tkS a k < s) → AW I_X9_lend 103 [.ref 0, .int (nI k), .int (nI k2), .int s, .int q] [] (hS M1 L1 dd) 6 36 Q := by
      intro h3
      have ht : thLe a (nI k) (nI k2) s q = 0 := by rw [thLe, if_neg g1, if_neg g2, zk, zk2, if_neg (fun z => z.elim (fun y => y lf) (fun y => y.elim (fun w => w lt) h3))]
      have hn : nl a < 8 := by
        have z : nl a ≠ 8 := fun z => h3 (Or.inl (by rw [wL.1, z]; rfl))
        omega
      refine r_aload_n dX9_lend_103 rfl ?_
      refine m_get 9 2 dX9_lend_104 fl_X9_22 ob_x rfl ?_
      refine r_aload_n dX9_lend_107 rfl ?_
      refine m_get 9 0 dX9_lend_108 fl_X9_10 ob_x rfl ?_
      refine m_pv1 dX9_lend_111 cv_X9_67 (c_X0_keep hC1.1 hC1.2 hW) ob_history ⟨_, rfl, rfl⟩ ⟨rfl, rfl⟩ (by decide) (by decide) (Nat.le_of_ble_eq_true rfl) (fun M2 L2 ⟨y1, y2, y3⟩ => ?_)
      subst y1
      have hQ2 : QP M2 1 a := qp_f y2 (Or.inl (by omega)) hC1.1
      refine r_aload_n dX9_lend_114 rfl ?_
      refine m_get 9 0 dX9_lend_115 fl_X9_10 ob_x rfl ?_
      refine m_get 5 1 dX9_lend_118 fl_X9_103 (ob_place pl1) rfl ?_
      refine r_iload_n dX9_lend_121 rfl ?_
      refine r_iload_n dX9_lend_122 rfl ?_
      refine r_iload_n dX9_lend_123 rfl ?_
      refine r_aload_n dX9_lend_124 rfl ?_
      refine m_get 9 0 dX9_lend_125 fl_X9_10 ob_x rfl ?_
      refine m_get 5 6 dX9_lend_128 fl_X9_110 (ob_place pl1) rfl ?_
      refine r_iload dX9_lend_131 rfl ?_
      refine m_pv5 dX9_lend_133 cv_X9_208 (c_X2_add pl1 hQ2.2.2.1 wL.1 hn hQ2.2.2.2.2.2.2.2.2.1) (ob_loans pl1) ⟨_, rfl, rfl⟩ ⟨rfl, rfl⟩ (by decide) (by decide) (Nat.le_of_ble_eq_true rfl) (fun M3 L3 ⟨z1, z2, z3⟩ => ?_)
      subst z1
      have hQ3 : QP M3 1 (adL a (nI k) (nI k2) s q) := qp_loans hQ2 z2 z3 (adL_o hn) hW
      refine r_aload_n dX9_lend_136 rfl ?_
      refine m_get 9 0 dX9_lend_137 fl_X9_10 ob_x rfl ?_
      refine m_get 5 1 dX9_lend_140 fl_X9_103 (ob_place pl1) rfl ?_
      refine m_get 2 0 dX9_lend_143 fl_X9_107 (ob_loans pl1) rfl ?_
      refine r_iconst_1 dX9_lend_146 ?_
      refine r_isub dX9_lend_147 ?_
      refine r_iret dX9_lend_148 rfl (hq _ _ _ ht (congrArg Value.int ?_) (gx_t (gx_t (gx_f x1 (by omega)) (gx_f y2 (by omega))) (gx_f z2 (by omega))) (gl_f x2 (by omega)) ⟨hQ3, hr_f z2 (by omega) y3⟩)
      rw [show M3 (1 + 6) 0 = adL a (nI k) (nI k2) s q 7 from z3.1, show adL a (nI k) (nI k2) s q 7 = a 7 + 1 from upd_eq]
      grind
    refine r_aload_n dX9_lend_64 rfl ?_
    refine m_get 9 0 dX9_lend_65 fl_X9_10 ob_x rfl ?_
    refine m_get 5 1 dX9_lend_68 fl_X9_103 (ob_place pl1) rfl ?_
    refine m_cv0 dX9_lend_71 cv_X9_205 (c_X2_isFull pl1) rfl (ob_loans pl1) ⟨_, rfl, rfl⟩ ⟨rfl, rfl⟩ (by decide) (by decide) (Nat.le_of_ble_eq_true rfl) ?_
    refine r_if_ne 93 dX9_lend_74 (by decide) (fun h74 => ?_) (fun h74 => ?_)
    · exact r_throw th_X9_lend_93 rfl (by decide) (by decide) (Nat.le_of_ble_eq_true rfl) (Nat.le_of_ble_eq_true rfl) (hx 3 ex_S _ _ (ex3 (Or.inl (hfull.mp (Decidable.not_not.mp (fun z => h74 (bI_0.mpr z)))))) (by decide) rfl (gx_f x1 (by omega)) (gl_f x2 (by omega)) hC1)
    · refine r_iload_n dX9_lend_77 rfl ?_
      refine r_aload_n dX9_lend_78 rfl ?_
      refine m_get 9 0 dX9_lend_79 fl_X9_10 ob_x rfl ?_
      refine m_get 5 4 dX9_lend_82 fl_X9_136 (ob_place pl1) rfl ?_
      refine m_get 6 2 dX9_lend_85 fl_X9_157 (ob_scale pl1) rfl ?_
      refine r_iload_n dX9_lend_88 rfl ?_
      refine m_iald k dX9_lend_89 (ai_tickets pl1) rfl (by omega) (by first | decide | assumption) ?_
      rw [show M1 (1 + 26) k = tkS a k from (x3.1 k hk).2.1]
      refine r_icmp_le 103 dX9_lend_90 (by decide) (fun h90 => ?_) (fun h90 => ?_)
      · exact cont (fun z => z.elim (fun y => bI_0.mp h74 (hfull.mpr y)) (fun y => Int32.not_lt.mpr h90 y))
      · exact r_throw th_X9_lend_93 rfl (by decide) (by decide) (Nat.le_of_ble_eq_true rfl) (Nat.le_of_ble_eq_true rfl) (hx 3 ex_S _ _ (ex3 (Or.inr (Int32.not_le.mp h90))) (by decide) rfl (gx_f x1 (by omega)) (gl_f x2 (by omega)) hC1)
  · exact r_throw th_X9_lend_15 rfl (by decide) (by decide) (Nat.le_of_ble_eq_true rfl) (Nat.le_of_ble_eq_true rfl) (hx 2 ex_A _ _ (by rw [thLe, if_neg g1, if_pos (Or.inl h12')]) (by decide) rfl gx_r gl_r hC)
theorem c_X9_submit {u s : Int32} (hC : CS M a R) (hW : WF T a) : XQa yX9_submit I_X9_submit [.ref 0, .int u, .int s] M L dd (thSb a u s) [ex_I, ex_A, ex_S] (fun x => x = .int (a 6)) a (fiS (adJ a u s)) R (pushR R a) := by
  obtain ⟨hT, hB, hL, hM, hJ, hS'⟩ := hC.1
  have wU := hW.1
  have wJ := hW.2.2.2.1
  have h12 := wU.2.2.1
  have h30 := wJ.2.1
  have hfull : (30 : Int32) ≤ M (1 + 15) 0 ↔ a 6 = 30 := by rw [show M (1 + 15) 0 = a 6 from hJ.1]; exact full_n 30 wJ.1 h30 (by omega)
  refine xq_mk (fun Q hq hx => ?_)
  refine a_met (by decide +kernel) rfl rfl (Nat.le_of_ble_eq_true rfl) (by simp [Value.category]) (by decide) rfl ?_
  show AW I_X9_submit 0 [.ref 0, .int u, .int s] [] (hS M L dd) 0 0 Q
  refine r_aload_n dX9_submit_0 rfl ?_
  refine r_iload_n dX9_submit_1 rfl ?_
  refine m_nv1 dX9_submit_2 cv_X9_133 (c_X9_needUser hT.1) ob_x ⟨_, rfl, rfl⟩ (by decide) (by decide) (Nat.le_of_ble_eq_true rfl) (Nat.le_of_ble_eq_true rfl) (Nat.le_of_ble_eq_true rfl) rfl (fun hp => hx 1 ex_I _ _ (by rw [thSb, if_pos hp]) (by decide) rfl gx_r gl_r hC) (fun hp => ?_)
  refine r_iload_n dX9_submit_5 rfl ?_
  refine r_iconst_1 dX9_submit_6 ?_
  refine r_bipush 60 dX9_submit_7 (by decide) ?_
  refine m_ns3 dX9_submit_9 cs_X9_175 (c_X9_needRange) (by decide) (by decide) (Nat.le_of_ble_eq_true rfl) (Nat.le_of_ble_eq_true rfl) (Nat.le_of_ble_eq_true rfl) rfl (fun hk1 => hx 2 ex_A _ _ (by rw [thSb, if_neg (not_not_intro hp), if_pos hk1]) (by decide) rfl gx_r gl_r hC) (fun hk1 => ?_)
  obtain ⟨k, hk, rfl⟩ := ix_n wU.1 (by omega) hp
  obtain ⟨s', hs', rfl⟩ := ix_c (u := s) 60 (by omega) ⟨Int32.le_trans (by decide) hk1.1, hk1.2⟩
  have zk : zN (nI k) = k := nI_clamp (by omega)
  refine r_aload_n dX9_submit_12 rfl ?_
  refine r_iload_n dX9_submit_13 rfl ?_
  refine m_nv1 dX9_submit_14 cv_X9_202 (c_X9_needLeaf hT wU hk) ob_x ⟨_, rfl, rfl⟩ (by decide) (by decide) (Nat.le_of_ble_eq_true rfl) (Nat.le_of_ble_eq_true rfl) (Nat.le_of_ble_eq_true rfl) rfl (fun lf => hx 3 ex_S _ _ (by rw [thSb, if_neg (not_not_intro hp), if_neg (not_not_intro hk1), zk, if_pos (Or.inl lf)]) (by decide) rfl gx_r gl_r hC) (fun lf => ?_)
  refine r_aload_n dX9_submit_17 rfl ?_
  refine m_get 9 0 dX9_submit_18 fl_X9_10 ob_x rfl ?_
  refine m_get 5 3 dX9_submit_21 fl_X9_96 (ob_place pl1) rfl ?_
  refine m_cv0 dX9_submit_24 cv_X9_299 (c_X1_isFull pl1) rfl (ob_jobs pl1) ⟨_, rfl, rfl⟩ ⟨rfl, rfl⟩ (by decide) (by decide) (Nat.le_of_ble_eq_true rfl) ?_
  refine r_if_eq 41 dX9_submit_27 (by decide) (fun h27 => ?_) (fun h27 => ?_)
  · have h6 : ¬ a 6 = 30 := fun z => bI_0.mp h27 (hfull.mpr z)
    have ht : thSb a (nI k) (nI s') = 0 := by rw [thSb, if_neg (not_not_intro hp), if_neg (not_not_intro hk1), zk, if_neg (fun z => z.elim (fun y => y lf) h6)]
    have hlt : nj a < 30 := by
      have z : nj a ≠ 30 := fun z => h6 (by rw [wJ.1, z]; rfl)
      omega
    have wa : WF T (adJ a (nI k) (nI s')) := (wf_aj hW hlt hk lf).1
    refine r_aload_n dX9_submit_41 rfl ?_
    refine m_get 9 2 dX9_submit_42 fl_X9_22 ob_x rfl ?_
    refine r_aload_n dX9_submit_45 rfl ?_
    refine m_get 9 0 dX9_submit_46 fl_X9_10 ob_x rfl ?_
    refine m_pv1 dX9_submit_49 cv_X9_67 (c_X0_keep hC.1 hC.2 hW) ob_history ⟨_, rfl, rfl⟩ ⟨rfl, rfl⟩ (by decide) (by decide) (Nat.le_of_ble_eq_true rfl) (fun M2 L2 ⟨x1, x2, x3⟩ => ?_)
    subst x1
    have hQ2 : QP M2 1 a := qp_f x2 (Or.inl (by omega)) hC.1
    refine r_aload_n dX9_submit_52 rfl ?_
    refine m_get 9 0 dX9_submit_53 fl_X9_10 ob_x rfl ?_
    refine m_get 5 3 dX9_submit_56 fl_X9_96 (ob_place pl1) rfl ?_
    refine r_iload_n dX9_submit_59 rfl ?_
    refine r_iload_n dX9_submit_60 rfl ?_
    refine m_pv2 dX9_submit_61 cv_X9_302 (c_X1_add pl1 hQ2.2.2.2.2.1 wJ.1 hlt) (ob_jobs pl1) ⟨_, rfl, rfl⟩ ⟨rfl, rfl⟩ (by decide) (by decide) (Nat.le_of_ble_eq_true rfl) (fun M3 L3 ⟨y1, y2, y3⟩ => ?_)
    subst y1
    have hQ3 : QP M3 1 (adJ a (nI k) (nI s')) := qp_jobs2 hQ2 y2 y3 (adJ_o hlt) hW
    refine r_aload_n dX9_submit_64 rfl ?_
    refine m_get 9 0 dX9_submit_65 fl_X9_10 ob_x rfl ?_
    refine m_pv0 dX9_submit_68 cv_X9_74 (c_X5_settle pl1 hQ3 wa) (ob_place pl1) ⟨_, rfl, rfl⟩ ⟨rfl, rfl⟩ (by decide) (by decide) (Nat.le_of_ble_eq_true rfl) (fun M4 L4 ⟨z1, z2, z3, z4⟩ => ?_)
    refine r_aload_n dX9_submit_71 rfl ?_
    refine m_get 9 0 dX9_submit_72 fl_X9_10 ob_x rfl ?_
    refine m_get 5 3 dX9_submit_75 fl_X9_96 (ob_place pl1) rfl ?_
    refine m_get 1 0 dX9_submit_78 fl_X9_100 (ob_jobs pl1) rfl ?_
    refine r_iconst_1 dX9_submit_81 ?_
    refine r_isub dX9_submit_82 ?_
    refine r_iret dX9_submit_83 rfl (hq _ _ _ ht (congrArg Value.int ?_) (gx_t (gx_t (gx_f x2 (by omega)) (gx_f y2 (by omega))) (gx_f z1 (by omega))) (gl_f z2 (by omega)) ⟨z3, hr_f z1 (by omega) (hr_f y2 (by omega) x3)⟩)
    rw [show M4 (1 + 15) 0 = fiS (adJ a (nI k) (nI s')) 6 from z3.2.2.2.2.1.1, show fiS (adJ a (nI k) (nI s')) 6 = adJ a (nI k) (nI s') 6 from (fiF_ok 30 _ wa).2.2 6 (by omega), show adJ a (nI k) (nI s') 6 = a 6 + 1 from upd_eq]
    grind
  · exact r_throw th_X9_submit_30 rfl (by decide) (by decide) (Nat.le_of_ble_eq_true rfl) (Nat.le_of_ble_eq_true rfl) (hx 3 ex_S _ _ (by rw [thSb, if_neg (not_not_intro hp), if_neg (not_not_intro hk1), if_pos (Or.inr (hfull.mp (Decidable.not_not.mp (fun z => h27 (bI_0.mpr z)))))]) (by decide) rfl gx_r gl_r hC)
theorem c_X9_cancel {j : Int32} (hC : CS M a R) (hW : WF T a) : XQa yX9_cancel I_X9_cancel [.ref 0, .int j] M L dd (thCa a j) [ex_I, ex_S] (fun x => x = .int (jb a (zN j) 2)) a (fiS (endS a (zN j) 3)) R (pushR R a) := by
  obtain ⟨hT, hB, hL, hM, hJ, hS'⟩ := hC.1
  have wJ := hW.2.2.2.1
  have h30 := wJ.2.1
  refine xq_mk (fun Q hq hx => ?_)
  refine a_met (by decide +kernel) rfl rfl (Nat.le_of_ble_eq_true rfl) (by simp [Value.category]) (by decide) rfl ?_
  show AW I_X9_cancel 0 [.ref 0, .int j] [] (hS M L dd) 0 0 Q
  refine r_aload_n dX9_cancel_0 rfl ?_
  refine r_iload_n dX9_cancel_1 rfl ?_
  refine m_nv1 dX9_cancel_2 cv_X9_265 (c_X9_needJob hJ.1) ob_x ⟨_, rfl, rfl⟩ (by decide) (by decide) (Nat.le_of_ble_eq_true rfl) (Nat.le_of_ble_eq_true rfl) (Nat.le_of_ble_eq_true rfl) rfl (fun hp => hx 1 ex_I _ _ (by rw [thCa, if_pos hp]) (by decide) rfl gx_r gl_r hC) (fun hp => ?_)
  obtain ⟨k, hk, rfl⟩ := ix_n wJ.1 (by omega) hp
  have zk : zN (nI k) = k := nI_clamp (by omega)
  have op : (jb a k 3 = 0 ∨ jb a k 3 = 1) ↔ ¬ 1 < jb a k 3 := by
    rcases wJ.2.2.2.1 k hk with z | z | z | z <;> rw [z] <;> decide
  refine r_aload_n dX9_cancel_5 rfl ?_
  refine r_iload_n dX9_cancel_6 rfl ?_
  refine m_nv1 dX9_cancel_7 cv_X9_303 (c_X9_needOpen hJ wJ hk) ob_x ⟨_, rfl, rfl⟩ (by decide) (by decide) (Nat.le_of_ble_eq_true rfl) (Nat.le_of_ble_eq_true rfl) (Nat.le_of_ble_eq_true rfl) rfl (fun ho => hx 2 ex_S _ _ (by rw [thCa, if_neg (not_not_intro hp), zk, if_pos (Decidable.not_not.mp (fun z => ho (op.mpr z)))]) (by decide) rfl gx_r gl_r hC) (fun ho => ?_)
  refine r_aload_n dX9_cancel_10 rfl ?_
  refine m_get 9 2 dX9_cancel_11 fl_X9_22 ob_x rfl ?_
  refine r_aload_n dX9_cancel_14 rfl ?_
  refine m_get 9 0 dX9_cancel_15 fl_X9_10 ob_x rfl ?_
  refine m_pv1 dX9_cancel_18 cv_X9_67 (c_X0_keep hC.1 hC.2 hW) ob_history ⟨_, rfl, rfl⟩ ⟨rfl, rfl⟩ (by decide) (by decide) (Nat.le_of_ble_eq_true rfl) (fun M2 L2 ⟨x1, x2, x3⟩ => ?_)
  subst x1
  have ht : thCa a (nI k) = 0 := by rw [thCa, if_neg (not_not_intro hp), zk, if_neg (op.mp ho)]
  have hQ2 : QP M2 1 a := qp_f x2 (Or.inl (by omega)) hC.1
  have wa : WF T (endS a k 3) := wf_end hW (Or.inr rfl) hk
  refine r_aload_n dX9_cancel_21 rfl ?_
  refine m_get 9 0 dX9_cancel_22 fl_X9_10 ob_x rfl ?_
  refine m_get 5 3 dX9_cancel_25 fl_X9_96 (ob_place pl1) rfl ?_
  refine r_iload_n dX9_cancel_28 rfl ?_
  refine r_iconst_3 dX9_cancel_29 ?_
  refine r_aload_n dX9_cancel_30 rfl ?_
  refine m_get 9 0 dX9_cancel_31 fl_X9_10 ob_x rfl ?_
  refine m_get 5 6 dX9_cancel_34 fl_X9_110 (ob_place pl1) rfl ?_
  refine m_pv3 dX9_cancel_37 cv_X9_306 (c_X1_end pl1 hQ2.2.2.2.2.1 wJ.1 h30 hk hQ2.2.2.2.2.2.2.2.2.1) (ob_jobs pl1) ⟨_, rfl, rfl⟩ ⟨rfl, rfl⟩ (by decide) (by decide) (Nat.le_of_ble_eq_true rfl) (fun M3 L3 ⟨y1, y2, y3⟩ => ?_)
  subst y1
  have hQ3 : QP M3 1 (endS a k 3) := qp_jobs2 hQ2 y2 y3 (fun i _ hi => end_o (by omega) hi) hW
  refine r_aload_n dX9_cancel_40 rfl ?_
  refine m_get 9 0 dX9_cancel_41 fl_X9_10 ob_x rfl ?_
  refine m_pv0 dX9_cancel_44 cv_X9_74 (c_X5_settle pl1 hQ3 wa) (ob_place pl1) ⟨_, rfl, rfl⟩ ⟨rfl, rfl⟩ (by decide) (by decide) (Nat.le_of_ble_eq_true rfl) (fun M4 L4 ⟨z1, z2, z3, z4⟩ => ?_)
  refine r_aload_n dX9_cancel_47 rfl ?_
  refine m_get 9 0 dX9_cancel_48 fl_X9_10 ob_x rfl ?_
  refine m_get 5 3 dX9_cancel_51 fl_X9_96 (ob_place pl1) rfl ?_
  refine m_get 1 3 dX9_cancel_54 fl_X9_274 (ob_jobs pl1) rfl ?_
  refine r_iload_n dX9_cancel_57 rfl ?_
  refine m_iald k dX9_cancel_58 (ai_work pl1) rfl (by omega) (by first | decide | assumption) ?_
  refine r_iret dX9_cancel_59 rfl (hq _ _ _ ht (congrArg Value.int ?_) (gx_t (gx_t (gx_f x2 (by omega)) (gx_f y2 (by omega))) (gx_f z1 (by omega))) (gl_f z2 (by omega)) ⟨by rw [zk]; exact z3, hr_f z1 (by omega) (hr_f y2 (by omega) x3)⟩)
  have hk' : k < nj (fiS (endS a k 3)) := by rw [show nj (fiS (endS a k 3)) = nj (endS a k 3) from (fiF_ok 30 _ wa).2.1, nj_end]; exact hk
  rw [show M4 (1 + 18) k = jb (fiS (endS a k 3)) k 2 from (z3.2.2.2.2.1.2 k hk').2.2.1, zk, fi_2 wa, jb_end (by omega), if_neg (by omega), if_neg (by omega), if_neg (by omega)]
theorem c_X9_setUp {m b : Int32} (hC : CS M a R) (hW : WF T a) : XQa yX9_setUp I_X9_setUp [.ref 0, .int m, .int b] M L dd (thSU a m) [ex_I] (fun x => x = .int (swS a (zN m) b 8 - a 8)) a (swS a (zN m) b) R (pushR R a) := by
  obtain ⟨hT, hB, hL, hM, hJ, hS'⟩ := hC.1
  have wM := hW.2.2.1
  have h6 := wM.2.1
  refine xq_mk (fun Q hq hx => ?_)
  refine a_met (by decide +kernel) rfl rfl (Nat.le_of_ble_eq_true rfl) (by simp [Value.category]) (by decide) rfl ?_
  show AW I_X9_setUp 0 [.ref 0, .int m, .int b, .null] [] (hS M L dd) 0 0 Q
  refine r_aload_n dX9_setUp_0 rfl ?_
  refine r_iload_n dX9_setUp_1 rfl ?_
  refine m_nv1 dX9_setUp_2 cv_X9_248 (c_X9_needMachine hM.1) ob_x ⟨_, rfl, rfl⟩ (by decide) (by decide) (Nat.le_of_ble_eq_true rfl) (Nat.le_of_ble_eq_true rfl) (Nat.le_of_ble_eq_true rfl) rfl (fun hp => hx 1 ex_I _ _ (by rw [thSU, if_neg hp]) (by decide) rfl gx_r gl_r hC) (fun hp => ?_)
  refine r_aload_n dX9_setUp_5 rfl ?_
  refine m_get 9 2 dX9_setUp_6 fl_X9_22 ob_x rfl ?_
  refine r_aload_n dX9_setUp_9 rfl ?_
  refine m_get 9 0 dX9_setUp_10 fl_X9_10 ob_x rfl ?_
  refine m_pv1 dX9_setUp_13 cv_X9_67 (c_X0_keep hC.1 hC.2 hW) ob_history ⟨_, rfl, rfl⟩ ⟨rfl, rfl⟩ (by decide) (by decide) (Nat.le_of_ble_eq_true rfl) (fun M2 L2 ⟨x1, x2, x3⟩ => ?_)
  subst x1
  obtain ⟨k, hk, rfl⟩ := ix_n wM.1 (by omega) hp
  have zk : zN (nI k) = k := nI_clamp (by omega)
  have hQ2 : QP M2 1 a := qp_f x2 (Or.inl (by omega)) hC.1
  refine r_aload_n dX9_setUp_16 rfl ?_
  refine m_get 9 0 dX9_setUp_17 fl_X9_10 ob_x rfl ?_
  refine m_get 5 7 dX9_setUp_20 fl_X9_125 (ob_place pl1) rfl ?_
  refine s_istore_n 3 dX9_setUp_23 (by decide) rfl rfl ?_
  refine r_aload_n dX9_setUp_24 rfl ?_
  refine m_get 9 0 dX9_setUp_25 fl_X9_10 ob_x rfl ?_
  refine r_iload_n dX9_setUp_28 rfl ?_
  refine r_iload_n dX9_setUp_29 rfl ?_
  refine m_pv2 dX9_setUp_30 cv_X9_309 (c_X5_switchMachine pl1 hQ2 hW hk) (ob_place pl1) ⟨_, rfl, rfl⟩ ⟨rfl, rfl⟩ (by decide) (by decide) (Nat.le_of_ble_eq_true rfl) (fun M3 L3 ⟨z1, z2, z3⟩ => ?_)
  refine r_aload_n dX9_setUp_33 rfl ?_
  refine m_get 9 0 dX9_setUp_34 fl_X9_10 ob_x rfl ?_
  refine m_get 5 7 dX9_setUp_37 fl_X9_125 (ob_place pl1) rfl ?_
  refine r_iload_n dX9_setUp_40 rfl ?_
  refine r_isub dX9_setUp_41 ?_
  refine r_iret dX9_setUp_42 rfl (hq _ _ _ (by rw [thSU, if_pos hp]) (congrArg Value.int ?_) (gx_t (gx_f x2 (by omega)) (gx_f z1 (by omega))) (gl_f z2 (by omega)) ⟨by rw [zk]; exact z3, hr_f z1 (by omega) x3⟩)
  rw [show M3 1 7 = swS a k b 8 from z3.2.2.2.2.2.2.2.2.2.1, show M2 1 7 = a 8 from hQ2.2.2.2.2.2.2.2.2.2.1, zk]
theorem c_X9_set {w v : Int32} (hC : CS M a R) (hW : WF T a) : XQa yX9_set I_X9_set [.ref 0, .int w, .int v] M L dd (thSt w v) [ex_A] (fun x => ∀ k, k < 3 → w = nI k → x = .int (a (1 + k))) a (upd a (1 + zN w) v) R (pushR R a) := by
  refine xq_mk (fun Q hq hx => ?_)
  refine a_met (by decide +kernel) rfl rfl (Nat.le_of_ble_eq_true rfl) (by simp [Value.category]) (by decide) rfl ?_
  show AW I_X9_set 0 [.ref 0, .int w, .int v, .null] [] (hS M L dd) 0 0 Q
  have c20 : ∀ k, k < 3 → w = nI k → AW I_X9_set 20 [.ref 0, .int w, .int v, .null] [] (hS M L dd) 0 0 Q := by
    intro k hk ew
    subst ew
    have zk : zN (nI k) = k := nI_clamp (by omega)
    have hin : vp_in (nI k) 3 := pk_in k 3 hk
    have e1 : (a_sv 1).getD (nI k).toNatClampNeg 0 = lsI (zN (nI k) + 1) := by
      rw [zk, show (nI k).toNatClampNeg = k from zk]
      rcases (show k = 0 ∨ k = 1 ∨ k = 2 by omega) with z | z | z <;> subst z <;> rfl
    have e2 : (a_sv 2).getD (nI k).toNatClampNeg 0 = msI (zN (nI k) + 1) := by
      rw [zk, show (nI k).toNatClampNeg = k from zk]
      rcases (show k = 0 ∨ k = 1 ∨ k = 2 by omega) with z | z | z <;> subst z <;> rfl
    have h02 : 0 ≤ nI k ∧ nI k ≤ 2 := ⟨nI_pos' (by omega), by rw [show (2 : Int32) = nI 2 from rfl, nI_leI (by omega) (by omega)]; omega⟩
    refine r_iload_n dX9_set_20 rfl ?_
    refine r_gets 1 dX9_set_21 (by decide) (Or.inl k_1094) ?_
    refine r_iload_n dX9_set_24 rfl ?_
    refine r_tald 1 dX9_set_25 (by decide) hin ?_
    refine r_gets 2 dX9_set_26 (by decide) (Or.inl k_1095) ?_
    refine r_iload_n dX9_set_29 rfl ?_
    refine r_tald 2 dX9_set_30 (by decide) hin ?_
    rw [e1, e2]
    refine m_ns3 dX9_set_31 cs_X9_175 (c_X9_needRange) (by decide) (by decide) (Nat.le_of_ble_eq_true rfl) (Nat.le_of_ble_eq_true rfl) (Nat.le_of_ble_eq_true rfl) rfl (fun hr => hx 1 ex_A _ _ (by rw [thSt, if_neg (fun z => hr z.2)]) (by decide) rfl gx_r gl_r hC) (fun hr => ?_)
    refine r_aload_n dX9_set_34 rfl ?_
    refine m_get 9 2 dX9_set_35 fl_X9_22 ob_x rfl ?_
    refine r_aload_n dX9_set_38 rfl ?_
    refine m_get 9 0 dX9_set_39 fl_X9_10 ob_x rfl ?_
    refine m_pv1 dX9_set_42 cv_X9_67 (c_X0_keep hC.1 hC.2 hW) ob_history ⟨_, rfl, rfl⟩ ⟨rfl, rfl⟩ (by decide) (by decide) (Nat.le_of_ble_eq_true rfl) (fun M2 L2 ⟨x1, x2, x3⟩ => ?_)
    subst x1
    have hQ2 : QP M2 1 a := qp_f x2 (Or.inl (by omega)) hC.1
    have hs : M2 (1 + 30) k = a (1 + k) := by
      have q6 := hQ2.2.2.2.2.2
      rcases (show k = 0 ∨ k = 1 ∨ k = 2 by omega) with z | z | z <;> subst z
      · exact q6.1
      · exact q6.2.1
      · exact q6.2.2.1
    refine r_aload_n dX9_set_45 rfl ?_
    refine m_get 9 0 dX9_set_46 fl_X9_10 ob_x rfl ?_
    refine m_get 5 5 dX9_set_49 fl_X9_113 (ob_place pl1) rfl ?_
    refine r_iload_n dX9_set_52 rfl ?_
    refine m_iald k dX9_set_53 (ai_settings pl1) rfl (by omega) (by first | decide | assumption) ?_
    refine s_istore_n 3 dX9_set_54 (by decide) rfl rfl ?_
    refine r_aload_n dX9_set_55 rfl ?_
    refine m_get 9 0 dX9_set_56 fl_X9_10 ob_x rfl ?_
    refine m_get 5 5 dX9_set_59 fl_X9_113 (ob_place pl1) rfl ?_
    refine r_iload_n dX9_set_62 rfl ?_
    refine r_iload_n dX9_set_63 rfl ?_
    refine m_iast k dX9_set_64 (ai_settings pl1) rfl (by omega) (by first | decide | assumption) ?_
    refine r_iload_n dX9_set_65 rfl ?_
    refine r_iret dX9_set_66 rfl (hq _ _ _ (by rw [thSt, if_pos ⟨h02, hr⟩]) (fun k2 hk2 e2 => ?_) (gx_t (gx_f x2 (by omega)) (gx_f (lo := 31) (hi := 32) (fr_u fr_r (by omega)) (by omega))) gl_r ⟨by rw [zk]; exact qp_set pl1 hQ2 hk hW, hr_f (lo := 31) (hi := 32) (fr_u fr_r (by omega)) (by omega) x3⟩)
    rw [nI_eq (by omega) (by omega)] at e2
    subst e2
    rw [hs]
  refine r_iload_n dX9_set_0 rfl ?_
  refine r_if_lt 9 dX9_set_1 (by decide) (fun h1 => ?_) (fun h1 => ?_)
  · exact r_throw th_X9_set_9 rfl (by decide) (by decide) (Nat.le_of_ble_eq_true rfl) (Nat.le_of_ble_eq_true rfl) (hx 1 ex_A _ _ (by rw [thSt, if_neg (by first | exact fun z => Int32.not_le.mpr h1 z.1.1 | exact fun z => h6 (Int32.lt_of_le_of_lt z.1.2 (by decide)))]) (by decide) rfl gx_r gl_r hC)
  · refine r_iload_n dX9_set_4 rfl ?_
    refine r_iconst_3 dX9_set_5 ?_
    refine r_icmp_lt 20 dX9_set_6 (by decide) (fun h6 => ?_) (fun h6 => ?_)
    · (obtain ⟨k, hk, ew⟩ := nI_of (x := w) h1; exact c20 k (by rw [ew, show (3 : Int32) = nI 3 from rfl, nI_ltI hk (by omega)] at h6; exact h6) ew)
    · exact r_throw th_X9_set_9 rfl (by decide) (by decide) (Nat.le_of_ble_eq_true rfl) (Nat.le_of_ble_eq_true rfl) (hx 1 ex_A _ _ (by rw [thSt, if_neg (by first | exact fun z => Int32.not_le.mpr h1 z.1.1 | exact fun z => h6 (Int32.lt_of_le_of_lt z.1.2 (by decide)))]) (by decide) rfl gx_r gl_r hC)
theorem c_X9_tick {n : Int32} (hC : CS M a R) (hW : WF T a) (hV : WV a) : XQa yX9_tick I_X9_tick [.ref 0, .int n] M L dd (thT a n) [ex_A, ex_S] (fun x => x = .int (fnN a (zN n))) a (tkN a (zN n)) R (pushR R a) := by
  obtain ⟨hT, hB, hL, hM, hJ, hS'⟩ := hC.1
  have wJ := hW.2.2.2.1
  have w0 := hW.2.2.2.2.2.1
  have wT := hW.2.2.2.2.2.2.2.1
  have wT2 := hW.2.2.2.2.2.2.1
  refine xq_mk (fun Q hq hx => ?_)
  refine a_met (by decide +kernel) rfl rfl (Nat.le_of_ble_eq_true rfl) (by simp [Value.category]) (by decide) rfl ?_
  show AW I_X9_tick 0 [.ref 0, .int n, .null, .null] [] (hS M L dd) 0 0 Q
  refine r_iload_n dX9_tick_0 rfl ?_
  refine r_iconst_1 dX9_tick_1 ?_
  refine r_bipush 60 dX9_tick_2 (by decide) ?_
  refine m_ns3 dX9_tick_4 cs_X9_175 (c_X9_needRange) (by decide) (by decide) (Nat.le_of_ble_eq_true rfl) (Nat.le_of_ble_eq_true rfl) (Nat.le_of_ble_eq_true rfl) rfl (fun hk1 => hx 1 ex_A _ _ (by rw [thT, if_pos hk1]) (by decide) rfl gx_r gl_r hC) (fun hk1 => ?_)
  refine r_aload_n dX9_tick_7 rfl ?_
  refine m_get 9 0 dX9_tick_8 fl_X9_10 ob_x rfl ?_
  refine m_get 5 6 dX9_tick_11 fl_X9_110 (ob_place pl1) rfl ?_
  refine r_sipush 9999 dX9_tick_14 (by decide) ?_
  refine r_iload_n dX9_tick_17 rfl ?_
  refine r_isub dX9_tick_18 ?_
  obtain ⟨N, hN, rfl⟩ := ix_c (u := n) 60 (by omega) ⟨Int32.le_trans (by decide) hk1.1, hk1.2⟩
  have zk : zN (nI N) = N := nI_clamp (by omega)
  have eq1 : (9999 : Int32) - nI N = nI (9999 - N) := pk_sub (a := 9999) (by omega)
  rw [show M 1 6 = a 0 from hS'.2.2.2.1, w0, eq1]
  have e9 : (9999 < a 0 + nI N) ↔ 9999 < zN (a 0) + N := by
    have e8 : a 0 + nI N = nI (zN (a 0) + N) := by rw [← nI_add, ← w0]
    rw [e8, show (9999 : Int32) = nI 9999 from rfl, nI_ltI (by omega) (by omega)]
  refine r_icmp_le 33 dX9_tick_19 (by decide) (fun h19 => ?_) (fun h19 => ?_)
  · rw [nI_leI (by omega) (by omega)] at h19
    have ht : thT a (nI N) = 0 := by rw [thT, if_neg (not_not_intro hk1), if_neg (fun z => by have := e9.mp z; omega)]
    refine r_aload_n dX9_tick_33 rfl ?_
    refine m_get 9 2 dX9_tick_34 fl_X9_22 ob_x rfl ?_
    refine r_aload_n dX9_tick_37 rfl ?_
    refine m_get 9 0 dX9_tick_38 fl_X9_10 ob_x rfl ?_
    refine m_pv1 dX9_tick_41 cv_X9_67 (c_X0_keep hC.1 hC.2 hW) ob_history ⟨_, rfl, rfl⟩ ⟨rfl, rfl⟩ (by decide) (by decide) (Nat.le_of_ble_eq_true rfl) (fun M2 L2 ⟨x1, x2, x3⟩ => ?_)
    subst x1
    have hQ2 : QP M2 1 a := qp_f x2 (Or.inl (by omega)) hC.1
    have lp : ∀ k, k ≤ N → ∀ (M3 : Nat → Nat → Int32) (L3 : Nat → Nat → Int64), QP M3 1 (tkN a k) → HR M3 (pushR R a) → Gx M M3 → GL L2 L3 → AW I_X9_tick 58 [.ref 0, .int (nI N), .int (inS a 2), .int (nI k)] [] (hS M3 L3 dd) 1 6 Q := by
      refine lp_up _ ?_ ?_
      · intro M3 L3 q3 r3 g3 l3 
        obtain ⟨w1, w2, w3⟩ := tkN_ok (wf_lo hW) hV N (by omega)
        refine r_iload_n dX9_tick_58 rfl ?_
        refine r_iload_n dX9_tick_59 rfl ?_
        refine r_icmp_ge 76 dX9_tick_60 (by decide) (fun _ => ?_) (fun z => absurd (nI_le (Nat.le_refl _) (by omega)) z)
        refine r_aload_n dX9_tick_76 rfl ?_
        refine m_get 9 0 dX9_tick_77 fl_X9_10 ob_x rfl ?_
        refine m_get 5 3 dX9_tick_80 fl_X9_96 (ob_place pl1) rfl ?_
        refine r_iconst_2 dX9_tick_83 ?_
        refine m_cv1 dX9_tick_84 cv_X9_117 (c_X1_inState pl1 q3.2.2.2.2.1 w1.2.2.2.1.1 w1.2.2.2.1.2.1) rfl (ob_jobs pl1) ⟨_, rfl, rfl⟩ ⟨rfl, rfl⟩ (by decide) (by decide) (Nat.le_of_ble_eq_true rfl) ?_
        refine r_iload_n dX9_tick_87 rfl ?_
        refine r_isub dX9_tick_88 ?_
        refine r_iret dX9_tick_89 rfl (hq _ _ _ ht (congrArg Value.int ?_) g3 l3 ⟨by rw [zk]; exact q3, r3⟩)
        rw [zk, w3.2.2]
        grind
      · intro k hk ih M3 L3 q3 r3 g3 l3 
        obtain ⟨w1, w2, w3⟩ := tkN_ok (wf_lo hW) hV k (by omega)
        refine r_iload_n dX9_tick_58 rfl ?_
        refine r_iload_n dX9_tick_59 rfl ?_
        refine r_icmp_ge 76 dX9_tick_60 (by decide) (fun z => absurd z (nI_ge hk (by omega))) (fun _ => ?_)
        refine r_aload_n dX9_tick_63 rfl ?_
        refine m_get 9 0 dX9_tick_64 fl_X9_10 ob_x rfl ?_
        refine m_pv0 dX9_tick_67 cv_X9_323 (c_X5_passTick pl1 q3 w1 (by omega)) (ob_place pl1) ⟨_, rfl, rfl⟩ ⟨rfl, rfl⟩ (by decide) (by decide) (Nat.le_of_ble_eq_true rfl) (fun M4 L4 ⟨y1, y2, y3⟩ => ?_)
        refine s_iinc dX9_tick_70 rfl (by decide) rfl ?_
        refine r_goto 58 dX9_tick_73 (by decide) ?_
        exact m_sub (ih _ _ y3 (hr_f y1 (by omega) r3) (gx_t g3 (gx_f y1 (by omega))) (gl_t l3 (gl_f y2 (by omega)))) (by simp [a_sub, nI_succ])
    refine r_aload_n dX9_tick_44 rfl ?_
    refine m_get 9 0 dX9_tick_45 fl_X9_10 ob_x rfl ?_
    refine m_get 5 3 dX9_tick_48 fl_X9_96 (ob_place pl1) rfl ?_
    refine r_iconst_2 dX9_tick_51 ?_
    refine m_cv1 dX9_tick_52 cv_X9_117 (c_X1_inState pl1 hQ2.2.2.2.2.1 wJ.1 wJ.2.1) rfl (ob_jobs pl1) ⟨_, rfl, rfl⟩ ⟨rfl, rfl⟩ (by decide) (by decide) (Nat.le_of_ble_eq_true rfl) ?_
    refine s_istore_n 2 dX9_tick_55 (by decide) rfl rfl ?_
    refine r_iconst_0 dX9_tick_56 ?_
    refine s_istore_n 3 dX9_tick_57 (by decide) rfl rfl ?_
    exact m_sub (lp 0 (Nat.zero_le _) M2 L2 hQ2 x3 (gx_f x2 (by omega)) gl_r) (by simp [a_sub, nI_0])
  · rw [nI_leI (by omega) (by omega)] at h19
    exact r_throw th_X9_tick_22 rfl (by decide) (by decide) (Nat.le_of_ble_eq_true rfl) (Nat.le_of_ble_eq_true rfl) (hx 2 ex_S _ _ (by rw [thT, if_neg (not_not_intro hk1), if_pos (e9.mpr (by omega))]) (by decide) rfl gx_r gl_r hC)
theorem c_X9_finishedIn {j : Int32} (hC : CS M a R) (hW : WF 9999 a) (hV : WV a) : XQa yX9_finishedIn I_X9_finishedIn [.ref 0, .int j] M L dd (thCa a j) [ex_I, ex_S] (fun x => x = .int (fdR a (zN j) 400 0)) a a R R := by
  obtain ⟨hT, hB, hL, hM, hJ, hS'⟩ := hC.1
  have wJ := hW.2.2.2.1
  have h30 := wJ.2.1
  refine xq_mk (fun Q hq hx => ?_)
  refine a_met (by decide +kernel) rfl rfl (Nat.le_of_ble_eq_true rfl) (by simp [Value.category]) (by decide) rfl ?_
  show AW I_X9_finishedIn 0 [.ref 0, .int j, .null] [] (hS M L dd) 0 0 Q
  refine r_aload_n dX9_finishedIn_0 rfl ?_
  refine r_iload_n dX9_finishedIn_1 rfl ?_
  refine m_nv1 dX9_finishedIn_2 cv_X9_265 (c_X9_needJob hJ.1) ob_x ⟨_, rfl, rfl⟩ (by decide) (by decide) (Nat.le_of_ble_eq_true rfl) (Nat.le_of_ble_eq_true rfl) (Nat.le_of_ble_eq_true rfl) rfl (fun hp => hx 1 ex_I _ _ (by rw [thCa, if_pos hp]) (by decide) rfl gx_r gl_r hC) (fun hp => ?_)
  obtain ⟨k, hk, rfl⟩ := ix_n wJ.1 (by omega) hp
  have zk : zN (nI k) = k := nI_clamp (by omega)
  have op : (jb a k 3 = 0 ∨ jb a k 3 = 1) ↔ ¬ 1 < jb a k 3 := by
    rcases wJ.2.2.2.1 k hk with z | z | z | z <;> rw [z] <;> decide
  refine r_aload_n dX9_finishedIn_5 rfl ?_
  refine r_iload_n dX9_finishedIn_6 rfl ?_
  refine m_nv1 dX9_finishedIn_7 cv_X9_303 (c_X9_needOpen hJ wJ hk) ob_x ⟨_, rfl, rfl⟩ (by decide) (by decide) (Nat.le_of_ble_eq_true rfl) (Nat.le_of_ble_eq_true rfl) (Nat.le_of_ble_eq_true rfl) rfl (fun ho => hx 2 ex_S _ _ (by rw [thCa, if_neg (not_not_intro hp), zk, if_pos (Decidable.not_not.mp (fun z => ho (op.mpr z)))]) (by decide) rfl gx_r gl_r hC) (fun ho => ?_)
  refine r_aload_n dX9_finishedIn_10 rfl ?_
  refine m_get 9 1 dX9_finishedIn_11 fl_X9_16 ob_x rfl ?_
  refine r_aload_n dX9_finishedIn_14 rfl ?_
  refine m_get 9 0 dX9_finishedIn_15 fl_X9_10 ob_x rfl ?_
  refine m_pv1 dX9_finishedIn_18 cv_X9_71 (c_X5_copyFrom pl32 pl1 (Or.inr (by omega)) hC.1 hW.1.2.2.1 hW.2.2.2.2.1.2.1 hW.2.2.1.2.1 h30) (ob_place pl32) ⟨_, rfl, rfl⟩ ⟨rfl, rfl⟩ (by decide) (by decide) (Nat.le_of_ble_eq_true rfl) (fun M2 L2 ⟨x1, x2, x3⟩ => ?_)
  subst x1
  have ht : thCa a (nI k) = 0 := by rw [thCa, if_neg (not_not_intro hp), zk, if_neg (op.mp ho)]
  have hC2 : CS M2 a R := ⟨qp_f x2 (Or.inl (by omega)) hC.1, hr_f x2 (by omega) hC.2⟩
  have lp : ∀ n, n ≤ 400 → ∀ (M3 : Nat → Nat → Int32) (L3 : Nat → Nat → Int64), QP M3 32 (tkN a n) → CS M3 a R → Gx M M3 → GL L2 L3 → fdR a k (400 - n) n = fdR a k 400 0 → AW I_X9_finishedIn 23 [.ref 0, .int (nI k), .int (nI (n + 1))] [] (hS M3 L3 dd) 2 12 Q := by
    refine lp_up _ ?_ ?_
    · intro M3 L3 q3 c3 g3 l3 hres 
      refine r_iload_n dX9_finishedIn_23 rfl ?_
      refine r_sipush 400 dX9_finishedIn_24 (by decide) ?_
      refine r_icmp_gt 61 dX9_finishedIn_27 (by decide) (fun _ => ?_) (fun z => absurd (by decide) z)
      refine r_iconst_m1 dX9_finishedIn_61 ?_
      exact r_iret dX9_finishedIn_62 rfl (hq _ _ _ ht (by rw [zk, ← hres]; rfl) g3 l3 c3)
    · intro n hn ih M3 L3 q3 c3 g3 l3 hres 
      obtain ⟨w1, w2, w3⟩ := tkN_ok hW hV n (by omega)
      refine r_iload_n dX9_finishedIn_23 rfl ?_
      refine r_sipush 400 dX9_finishedIn_24 (by decide) ?_
      refine r_icmp_gt 61 dX9_finishedIn_27 (by decide) (fun z => absurd z (by rw [show (400 : Int32) = nI 400 from rfl, nI_ltI (by omega) (by omega)]; omega)) (fun _ => ?_)
      refine r_aload_n dX9_finishedIn_30 rfl ?_
      refine m_get 9 1 dX9_finishedIn_31 fl_X9_16 ob_x rfl ?_
      refine m_pv0 dX9_finishedIn_34 cv_X9_323 (c_X5_passTick pl32 q3 w1 (by omega)) (ob_place pl32) ⟨_, rfl, rfl⟩ ⟨rfl, rfl⟩ (by decide) (by decide) (Nat.le_of_ble_eq_true rfl) (fun M4 L4 ⟨y1, y2, y3⟩ => ?_)
      refine r_aload_n dX9_finishedIn_37 rfl ?_
      refine m_get 9 1 dX9_finishedIn_38 fl_X9_16 ob_x rfl ?_
      refine m_get 5 3 dX9_finishedIn_41 fl_X9_96 (ob_place pl32) rfl ?_
      refine m_get 1 4 dX9_finishedIn_44 fl_X9_277 (ob_jobs pl32) rfl ?_
      refine r_iload_n dX9_finishedIn_47 rfl ?_
      refine m_iald k dX9_finishedIn_48 (ai_state pl32) rfl (by omega) (by first | decide | assumption) ?_
      refine r_iconst_2 dX9_finishedIn_49 ?_
      have c4 : CS M4 a R := ⟨qp_f y1 (Or.inl (by omega)) c3.1, hr_f y1 (by omega) c3.2⟩
      have hk' : k < nj (tkN a (n + 1)) := by rw [((tkN_ok hW hV (n + 1) (by omega)).2.2).1]; exact hk
      rw [show M4 (32 + 19) k = jb (tkN a (n + 1)) k 3 from (y3.2.2.2.2.1.2 k hk').2.2.2.1]
      rw [show 400 - n = (400 - (n + 1)) + 1 by omega, fdR] at hres
      refine r_icmp_ne 55 dX9_finishedIn_50 (by decide) (fun h50 => ?_) (fun h50 => ?_)
      · rw [if_neg h50] at hres
        refine s_iinc dX9_finishedIn_55 rfl (by decide) rfl ?_
        refine r_goto 23 dX9_finishedIn_58 (by decide) ?_
        exact m_sub (ih _ _ y3 c4 (gx_t g3 (gx_f y1 (by omega))) (gl_t l3 (gl_f y2 (by omega))) hres) (by simp [a_sub, nI_succ])
      · rw [if_pos h50] at hres
        refine r_iload_n dX9_finishedIn_53 rfl ?_
        exact r_iret dX9_finishedIn_54 rfl (hq _ _ _ ht (by rw [zk, ← hres]) (gx_t g3 (gx_f y1 (by omega))) (gl_t l3 (gl_f y2 (by omega))) c4)
  refine r_iconst_1 dX9_finishedIn_21 ?_
  refine s_istore_n 2 dX9_finishedIn_22 (by decide) rfl rfl ?_
  exact m_sub (lp 0 (by omega) M2 L2 x3 hC2 (gx_f x2 (by omega)) gl_r rfl) (by simp [a_sub]; rfl)
theorem c_X9_ahead {n w : Int32} (hC : CS M a R) (hW : WF 9999 a) (hV : WV a) : XQa yX9_ahead I_X9_ahead [.ref 0, .int n, .int w] M L dd (thAh n w) [ex_A] (fun x => x = .int (vlAh (tkN a (zN n)) w)) a a R R := by
  have h30 := hW.2.2.2.1.2.1
  refine xq_mk (fun Q hq hx => ?_)
  refine a_met (by decide +kernel) rfl rfl (Nat.le_of_ble_eq_true rfl) (by simp [Value.category]) (by decide) rfl ?_
  show AW I_X9_ahead 0 [.ref 0, .int n, .int w, .null] [] (hS M L dd) 0 0 Q
  refine r_iload_n dX9_ahead_0 rfl ?_
  refine r_iconst_1 dX9_ahead_1 ?_
  refine r_bipush 100 dX9_ahead_2 (by decide) ?_
  refine m_ns3 dX9_ahead_4 cs_X9_175 (c_X9_needRange) (by decide) (by decide) (Nat.le_of_ble_eq_true rfl) (Nat.le_of_ble_eq_true rfl) (Nat.le_of_ble_eq_true rfl) rfl (fun hk1 => hx 1 ex_A _ _ (by rw [thAh, if_neg (fun z => hk1 z.1)]) (by decide) rfl gx_r gl_r hC) (fun hk1 => ?_)
  refine r_iload_n dX9_ahead_7 rfl ?_
  refine r_iconst_0 dX9_ahead_8 ?_
  refine r_iconst_3 dX9_ahead_9 ?_
  refine m_ns3 dX9_ahead_10 cs_X9_175 (c_X9_needRange) (by decide) (by decide) (Nat.le_of_ble_eq_true rfl) (Nat.le_of_ble_eq_true rfl) (Nat.le_of_ble_eq_true rfl) rfl (fun hk2 => hx 1 ex_A _ _ (by rw [thAh, if_neg (fun z => hk2 z.2)]) (by decide) rfl gx_r gl_r hC) (fun hk2 => ?_)
  refine r_aload_n dX9_ahead_13 rfl ?_
  refine m_get 9 1 dX9_ahead_14 fl_X9_16 ob_x rfl ?_
  refine r_aload_n dX9_ahead_17 rfl ?_
  refine m_get 9 0 dX9_ahead_18 fl_X9_10 ob_x rfl ?_
  refine m_pv1 dX9_ahead_21 cv_X9_71 (c_X5_copyFrom pl32 pl1 (Or.inr (by omega)) hC.1 hW.1.2.2.1 hW.2.2.2.2.1.2.1 hW.2.2.1.2.1 h30) (ob_place pl32) ⟨_, rfl, rfl⟩ ⟨rfl, rfl⟩ (by decide) (by decide) (Nat.le_of_ble_eq_true rfl) (fun M2 L2 ⟨x1, x2, x3⟩ => ?_)
  subst x1
  obtain ⟨N, hN, rfl⟩ := ix_c (u := n) 100 (by omega) ⟨Int32.le_trans (by decide) hk1.1, hk1.2⟩
  have zk : zN (nI N) = N := nI_clamp (by omega)
  have ht : thAh (nI N) w = 0 := by rw [thAh, if_pos ⟨hk1, hk2⟩]
  have hC2 : CS M2 a R := ⟨qp_f x2 (Or.inl (by omega)) hC.1, hr_f x2 (by omega) hC.2⟩
  have lp : ∀ k, k ≤ N → ∀ (M3 : Nat → Nat → Int32) (L3 : Nat → Nat → Int64), QP M3 32 (tkN a k) → CS M3 a R → Gx M M3 → GL L2 L3 → AW I_X9_ahead 26 [.ref 0, .int (nI N), .int w, .int (nI k)] [] (hS M3 L3 dd) 2 12 Q := by
    refine lp_up _ ?_ ?_
    · intro M3 L3 q3 c3 g3 l3 
      obtain ⟨w1, w2, w3⟩ := tkN_ok hW hV N (by omega)
      have wj := w1.2.2.2.1
      refine r_iload_n dX9_ahead_26 rfl ?_
      refine r_iload_n dX9_ahead_27 rfl ?_
      refine r_icmp_ge 44 dX9_ahead_28 (by decide) (fun _ => ?_) (fun z => absurd (nI_le (Nat.le_refl _) (by omega)) z)
      refine r_iload_n dX9_ahead_44 rfl ?_
      by_cases w45_0 : w = 0
      · refine r_swIn 72 dX9_ahead_45 (by rw [w45_0]; decide) (by rw [w45_0]; decide) (by rw [w45_0]; rfl) (by decide) ?_
        refine r_aload_n dX9_ahead_72 rfl ?_
        refine m_get 9 1 dX9_ahead_73 fl_X9_16 ob_x rfl ?_
        refine m_get 5 3 dX9_ahead_76 fl_X9_96 (ob_place pl32) rfl ?_
        refine r_iconst_2 dX9_ahead_79 ?_
        refine m_cv1 dX9_ahead_80 cv_X9_117 (c_X1_inState pl32 q3.2.2.2.2.1 wj.1 wj.2.1) rfl (ob_jobs pl32) ⟨_, rfl, rfl⟩ ⟨rfl, rfl⟩ (by decide) (by decide) (Nat.le_of_ble_eq_true rfl) ?_
        exact r_iret dX9_ahead_83 rfl (hq _ _ _ ht (by rw [zk, vlAh, if_pos w45_0]) g3 l3 c3)
      by_cases w45_1 : w = 1
      · refine r_swIn 84 dX9_ahead_45 (by rw [w45_1]; decide) (by rw [w45_1]; decide) (by rw [w45_1]; rfl) (by decide) ?_
        refine r_aload_n dX9_ahead_84 rfl ?_
        refine m_get 9 1 dX9_ahead_85 fl_X9_16 ob_x rfl ?_
        refine m_get 5 3 dX9_ahead_88 fl_X9_96 (ob_place pl32) rfl ?_
        refine r_iconst_0 dX9_ahead_91 ?_
        refine m_cv1 dX9_ahead_92 cv_X9_117 (c_X1_inState pl32 q3.2.2.2.2.1 wj.1 wj.2.1) rfl (ob_jobs pl32) ⟨_, rfl, rfl⟩ ⟨rfl, rfl⟩ (by decide) (by decide) (Nat.le_of_ble_eq_true rfl) ?_
        exact r_iret dX9_ahead_95 rfl (hq _ _ _ ht (by rw [zk, vlAh, if_neg w45_0, if_pos w45_1]) g3 l3 c3)
      by_cases w45_2 : w = 2
      · refine r_swIn 96 dX9_ahead_45 (by rw [w45_2]; decide) (by rw [w45_2]; decide) (by rw [w45_2]; rfl) (by decide) ?_
        refine r_aload_n dX9_ahead_96 rfl ?_
        refine m_get 9 1 dX9_ahead_97 fl_X9_16 ob_x rfl ?_
        refine m_get 5 7 dX9_ahead_100 fl_X9_125 (ob_place pl32) rfl ?_
        exact r_iret dX9_ahead_103 rfl (hq _ _ _ ht (by rw [zk, vlAh, if_neg w45_0, if_neg w45_1, if_pos w45_2]; exact congrArg Value.int q3.2.2.2.2.2.2.2.2.2.1) g3 l3 c3)
      refine r_swOut 104 dX9_ahead_45 (by have e0 : (w).toInt ≠ 0 := fun z => w45_0 (Int32.toInt_inj.mp (z.trans (by decide))); have e1 : (w).toInt ≠ 1 := fun z => w45_1 (Int32.toInt_inj.mp (z.trans (by decide))); have e2 : (w).toInt ≠ 2 := fun z => w45_2 (Int32.toInt_inj.mp (z.trans (by decide))); omega) (by decide) ?_
      refine r_aload_n dX9_ahead_104 rfl ?_
      refine m_get 9 1 dX9_ahead_105 fl_X9_16 ob_x rfl ?_
      refine m_pv0 dX9_ahead_108 cv_X9_121 (c_X5_freeSlots pl32 q3 w1) (ob_place pl32) ⟨_, rfl, rfl⟩ ⟨rfl, rfl⟩ (by decide) (by decide) (Nat.le_of_ble_eq_true rfl) (fun M4 L4 ⟨y1, y2⟩ => ?_)
      exact r_iret dX9_ahead_111 rfl (hq _ _ _ ht (by rw [zk, vlAh, if_neg w45_0, if_neg w45_1, if_neg w45_2]) (gx_t g3 (gx_f y1 (by omega))) (gl_t l3 (gl_f y2 (by omega))) ⟨qp_f y1 (Or.inl (by omega)) c3.1, hr_f y1 (by omega) c3.2⟩)
    · intro k hk ih M3 L3 q3 c3 g3 l3 
      obtain ⟨w1, w2, w3⟩ := tkN_ok hW hV k (by omega)
      refine r_iload_n dX9_ahead_26 rfl ?_
      refine r_iload_n dX9_ahead_27 rfl ?_
      refine r_icmp_ge 44 dX9_ahead_28 (by decide) (fun z => absurd z (nI_ge hk (by omega))) (fun _ => ?_)
      refine r_aload_n dX9_ahead_31 rfl ?_
      refine m_get 9 1 dX9_ahead_32 fl_X9_16 ob_x rfl ?_
      refine m_pv0 dX9_ahead_35 cv_X9_323 (c_X5_passTick pl32 q3 w1 (by omega)) (ob_place pl32) ⟨_, rfl, rfl⟩ ⟨rfl, rfl⟩ (by decide) (by decide) (Nat.le_of_ble_eq_true rfl) (fun M4 L4 ⟨y1, y2, y3⟩ => ?_)
      refine s_iinc dX9_ahead_38 rfl (by decide) rfl ?_
      refine r_goto 26 dX9_ahead_41 (by decide) ?_
      exact m_sub (ih _ _ y3 ⟨qp_f y1 (Or.inl (by omega)) c3.1, hr_f y1 (by omega) c3.2⟩ (gx_t g3 (gx_f y1 (by omega))) (gl_t l3 (gl_f y2 (by omega)))) (by simp [a_sub, nI_succ])
  refine r_iconst_0 dX9_ahead_24 ?_
  refine s_istore_n 3 dX9_ahead_25 (by decide) rfl rfl ?_
  exact m_sub (lp 0 (Nat.zero_le _) M2 L2 x3 hC2 (gx_f x2 (by omega)) gl_r) (by simp [a_sub, nI_0])
theorem c_X9_undo {b : Row} (hC : CS M a R) (hb : 0 < R.length → R[R.length - 1]? = some b ∧ WF T b) : XQa yX9_undo I_X9_undo [.ref 0] M L dd (thUn R) [ex_S] (fun x => x = .int (nI (R.length - 1))) a b R R.dropLast := by
  obtain ⟨r1, r2, w, r3, r4, r5⟩ := hC.2
  refine xq_mk (fun Q hq hx => ?_)
  refine a_met (by decide +kernel) rfl rfl (Nat.le_of_ble_eq_true rfl) (by simp [Value.category]) (by decide) rfl ?_
  show AW I_X9_undo 0 [.ref 0] [] (hS M L dd) 0 0 Q
  refine r_aload_n dX9_undo_0 rfl ?_
  refine m_get 9 2 dX9_undo_1 fl_X9_22 ob_x rfl ?_
  refine m_get 0 0 dX9_undo_4 fl_X9_355 ob_history rfl ?_
  rw [r2]
  refine r_if_ne 21 dX9_undo_7 (by decide) (fun h7 => ?_) (fun h7 => ?_)
  · have hn : R.length ≠ 0 := fun z => h7 (by rw [z]; rfl)
    obtain ⟨hb1, hb2⟩ := hb (by omega)
    have e1 : (w + 9 + (R.length - 1) - R.length) % 8 = w := by omega
    have hq1 := r5 _ _ hb1
    rw [e1] at hq1
    have em : nI R.length - 1 = nI (R.length - 1) := by rw [show (1 : Int32) = nI 1 from rfl, pk_sub (by omega)]
    refine r_aload_n dX9_undo_21 rfl ?_
    refine m_get 9 2 dX9_undo_22 fl_X9_22 ob_x rfl ?_
    refine r_aload_n dX9_undo_25 rfl ?_
    refine m_get 9 0 dX9_undo_26 fl_X9_10 ob_x rfl ?_
    refine m_pv1 dX9_undo_29 cv_X9_358 (c_X0_restore r3 r4 hq1 hb2) ob_history ⟨_, rfl, rfl⟩ ⟨rfl, rfl⟩ (by decide) (by decide) (Nat.le_of_ble_eq_true rfl) (fun M2 L2 ⟨x1, x2, x3, x4, x5⟩ => ?_)
    subst x1
    refine r_aload_n dX9_undo_32 rfl ?_
    refine m_get 9 2 dX9_undo_33 fl_X9_22 ob_x rfl ?_
    refine m_get 0 0 dX9_undo_36 fl_X9_355 ob_history rfl ?_
    rw [x3, r2, em]
    refine r_iret dX9_undo_39 rfl (hq _ _ _ (if_neg hn) rfl (fun c hc => x2 c (by omega) (by omega)) gl_r ⟨x5, by rw [List.length_dropLast]; omega, by rw [x3, r2, em, List.length_dropLast], (w + 7) % 8, by omega, x4, fun r c hr => ?_⟩)
    rw [List.getElem?_dropLast] at hr
    split at hr
    · rename_i hlt
      rw [List.length_dropLast]
      have hq2 := r5 r c hr
      have hlen : R.length - 1 < R.length := by omega
      generalize R.length = n at *
      rw [show ((w + 7) % 8 + 9 + r - (n - 1)) % 8 = (w + 9 + r - n) % 8 by omega]
      refine qp_f (lo := 0) (hi := 64) (fun d hd => x2 d (by omega) (by omega)) (Or.inr (by omega)) hq2
    · cases hr
  · have hn : R.length = 0 := (nI_eq (by omega) (by decide)).mp h7
    exact r_throw th_X9_undo_10 rfl (by decide) (by decide) (Nat.le_of_ble_eq_true rfl) (Nat.le_of_ble_eq_true rfl) (hx 1 ex_S _ _ (by rw [thUn, if_pos hn]) (by decide) rfl gx_r gl_r hC)
end X9M
