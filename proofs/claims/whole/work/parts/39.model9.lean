section MODEL9
variable {M : Nat → Nat → Int32} {L : Nat → Nat → Int64} {dd : UInt64} {a a' : Row} {R R' : List Row} {T B : Nat} {thr c : Int32} {V : Value → Prop} {x : Value} {Q : a_Q}
def thJ (a : Row) (j w : Int32) : Int32 := if ¬ (0 ≤ j ∧ j < a 6) then 1 else if 0 ≤ w ∧ w ≤ 6 then 0 else 2
theorem c_X10_job {j w : Int32} (hA : M 318 = a) (hR : MH M R) (hW : WF T a) : MQa yX10_job I_X10_job [.ref 317, .int j, .int w] M L dd (thJ a j w) (fun x => ∀ k f, k < nj a → j = nI k → f < 7 → w = nI f → x = .int (jb a k f)) a a R R := by
  have wJ := hW.2.2.2.1
  have h30 := wJ.2.1
  refine mq_mk (fun Q hq => ?_)
  refine a_met (by decide +kernel) rfl rfl (Nat.le_of_ble_eq_true rfl) (by simp [Value.category]) (by decide) rfl ?_
  show AW I_X10_job 0 [.ref 317, .int j, .int w] [] (hS M L dd) 0 0 Q
  refine r_aload_n dX10_job_0 rfl ?_
  refine r_aload_n dX10_job_1 rfl ?_
  refine r_iload_n dX10_job_2 rfl ?_
  refine m_cv1 dX10_job_3 cv_X10_257 (c_X10_isJob hA wJ.1 h30) rfl ob_model ⟨_, rfl, rfl⟩ ⟨rfl, rfl⟩ (by decide) (by decide) (Nat.le_of_ble_eq_true rfl) ?_
  refine r_if_ne 13 dX10_job_6 (by decide) (fun h6 => ?_) (fun h6 => ?_)
  · rw [bI_0, Decidable.not_not] at h6
    obtain ⟨k, hk, rfl⟩ := ix_n wJ.1 (by omega) h6
    have eA : (mU M 317 (upd (M 317) 5 0)) 318 = a := by rw [mU_n (by omega)]; exact hA
    refine r_iload_n dX10_job_13 rfl ?_
    refine r_iconst_0 dX10_job_14 ?_
    refine r_bipush 6 dX10_job_15 (by decide) ?_
    refine m_cs3 dX10_job_17 cs_X10_54 (c_X10_isIn) rfl ⟨rfl, rfl⟩ (by decide) (by decide) (Nat.le_of_ble_eq_true rfl) ?_
    refine r_if_eq 27 dX10_job_20 (by decide) (fun h20 => ?_) (fun h20 => ?_)
    · rw [bI_0] at h20
      refine r_iconst_2 dX10_job_27 ?_
      refine m_put 10 5 dX10_job_28 fl_X10_42 (fun r hr => by cases hr; rfl) ob_model (Nat.le_of_ble_eq_true rfl) rfl ?_
      refine r_aload_n dX10_job_31 rfl ?_
      refine m_get 10 5 dX10_job_32 fl_X10_42 ob_model rfl ?_
      refine r_if_le 42 dX10_job_35 (by decide) (fun z => absurd z (by rw [mU_s, upd_eq]; decide)) (fun _ => ?_)
      refine r_iconst_0 dX10_job_38 ?_
      refine r_goto 48 dX10_job_39 (by decide) ?_
      exact r_iret dX10_job_48 rfl (mq_t hq hA hR (by decide) (by rw [thJ, if_neg (not_not_intro h6), if_neg h20]))
    · rw [bI_0, Decidable.not_not] at h20
      obtain ⟨f, hf, rfl⟩ := ix_c 6 (by omega) h20
      refine r_iconst_0 dX10_job_23 ?_
      refine r_goto 28 dX10_job_24 (by decide) ?_
      refine m_put 10 5 dX10_job_28 fl_X10_42 (fun r hr => by cases hr; rfl) ob_model (Nat.le_of_ble_eq_true rfl) rfl ?_
      refine r_aload_n dX10_job_31 rfl ?_
      refine m_get 10 5 dX10_job_32 fl_X10_42 ob_model rfl ?_
      refine r_if_le 42 dX10_job_35 (by decide) (fun _ => ?_) (fun z => absurd (by rw [mU_s, upd_eq]; decide) z)
      refine r_aload_n dX10_job_42 rfl ?_
      refine r_iload_n dX10_job_43 rfl ?_
      refine r_iload_n dX10_job_44 rfl ?_
      refine m_cv2 dX10_job_45 cv_X10_175 (c_X10_of eA (by omega) (by omega)) rfl ob_model ⟨_, rfl, rfl⟩ ⟨rfl, rfl⟩ (by decide) (by decide) (Nat.le_of_ble_eq_true rfl) ?_
      exact r_iret dX10_job_48 rfl (mq_v hq hA hR (by rw [thJ, if_neg (not_not_intro h6), if_pos h20]) (fun k2 f2 hk2 e2 hf2 e3 => by rw [nI_eq (by omega) (by omega)] at e2 e3; subst e2; subst e3; rfl))
  · rw [bI_0] at h6
    refine r_iconst_1 dX10_job_9 ?_
    refine r_goto 28 dX10_job_10 (by decide) ?_
    refine m_put 10 5 dX10_job_28 fl_X10_42 (fun r hr => by cases hr; rfl) ob_model (Nat.le_of_ble_eq_true rfl) rfl ?_
    refine r_aload_n dX10_job_31 rfl ?_
    refine m_get 10 5 dX10_job_32 fl_X10_42 ob_model rfl ?_
    refine r_if_le 42 dX10_job_35 (by decide) (fun z => absurd z (by rw [mU_s, upd_eq]; decide)) (fun _ => ?_)
    refine r_iconst_0 dX10_job_38 ?_
    refine r_goto 48 dX10_job_39 (by decide) ?_
    exact r_iret dX10_job_48 rfl (mq_t hq hA hR (by decide) (by rw [thJ, if_pos h6]))
def thF (a : Row) : Int32 := if bwS a = -1 then 1 else 0
theorem c_X10_first (hA : M 318 = a) (hR : MH M R) (hW : WF T a) : MQa yX10_first I_X10_first [.ref 317] M L dd (thF a) (fun x => x = .int (bwS a)) a a R R := by
  have wJ := hW.2.2.2.1
  refine mq_mk (fun Q hq => ?_)
  refine a_met (by decide +kernel) rfl rfl (Nat.le_of_ble_eq_true rfl) (by simp [Value.category]) (by decide) rfl ?_
  show AW I_X10_first 0 [.ref 317, .null] [] (hS M L dd) 0 0 Q
  refine r_aload_n dX10_first_0 rfl ?_
  refine m_pv0 dX10_first_1 cv_X10_227 (c_X10_worksTickets hA hW.1 hW.2.2.2.2.1) ob_model ⟨_, rfl, rfl⟩ ⟨rfl, rfl⟩ (by decide) (by decide) (Nat.le_of_ble_eq_true rfl) (fun M1 L1 ⟨x1, x2, x3⟩ => ?_)
  subst x1
  have e1 : M1 318 = a := (x2 318 (by omega)).trans hA
  have hF : Fm M M1 := fun c h1 h2 => x2 c (by omega)
  have hR1 := mh_fm hR hF
  have hq1 : ∀ x M', TR (some .int) x → M' 317 5 = thF a → (thF a = 0 → x = .int (bwS a)) → Fx M1 M' → (thF a = 0 → MS M' a R) → (thF a ≠ 0 → MS M' a R) → Q (.inl (some x)) (hS M' L1 dd) := fun x M' g0 g1 g2 g3 g4 g5 => hq x M' g0 g1 g2 (fx_t (fx_fm hF) g3) g4 g5
  refine r_aload_n dX10_first_4 rfl ?_
  refine m_cv0 dX10_first_5 cv_X10_237 (c_X10_bestWaiting e1 x3 hW.1 wJ hW.2.1.1) rfl ob_model ⟨_, rfl, rfl⟩ ⟨rfl, rfl⟩ (by decide) (by decide) (Nat.le_of_ble_eq_true rfl) ?_
  refine s_istore_n 1 dX10_first_8 (by decide) rfl rfl ?_
  refine r_aload_n dX10_first_9 rfl ?_
  refine r_iload_n dX10_first_10 rfl ?_
  refine r_iconst_m1 dX10_first_11 ?_
  refine r_icmp_ne 19 dX10_first_12 (by decide) (fun h12 => ?_) (fun h12 => ?_)
  · refine r_iconst_0 dX10_first_19 ?_
    refine m_put 10 5 dX10_first_20 fl_X10_42 (fun r hr => by cases hr; rfl) ob_model (Nat.le_of_ble_eq_true rfl) rfl ?_
    refine r_aload_n dX10_first_23 rfl ?_
    refine m_get 10 5 dX10_first_24 fl_X10_42 ob_model rfl ?_
    refine r_if_le 34 dX10_first_27 (by decide) (fun _ => ?_) (fun z => absurd (by rw [mU_s, upd_eq]; decide) z)
    refine r_iload_n dX10_first_34 rfl ?_
    exact r_iret dX10_first_35 rfl (mq_v hq1 e1 hR1 (by rw [thF, if_neg h12]) rfl)
  · refine r_iconst_1 dX10_first_15 ?_
    refine r_goto 20 dX10_first_16 (by decide) ?_
    refine m_put 10 5 dX10_first_20 fl_X10_42 (fun r hr => by cases hr; rfl) ob_model (Nat.le_of_ble_eq_true rfl) rfl ?_
    refine r_aload_n dX10_first_23 rfl ?_
    refine m_get 10 5 dX10_first_24 fl_X10_42 ob_model rfl ?_
    refine r_if_le 34 dX10_first_27 (by decide) (fun z => absurd z (by rw [mU_s, upd_eq]; decide)) (fun _ => ?_)
    refine r_iconst_0 dX10_first_30 ?_
    refine r_goto 35 dX10_first_31 (by decide) ?_
    exact r_iret dX10_first_35 rfl (mq_t hq1 e1 hR1 (by decide) (by rw [thF, if_pos h12]))
def thC (w : Int32) : Int32 := if 0 ≤ w ∧ w ≤ 12 then 0 else 1
def vlC (a : Row) (w : Int32) : Int32 := if w < 4 then a (zN (4 + w)) else if w < 8 then a (zN (w - 4)) else if w = 8 then inS a 0 else if w = 9 then inS a 1 else if w = 10 then fsS a else a (zN (w - 3))
theorem c_X10_count {w : Int32} (hA : M 318 = a) (hR : MH M R) (hW : WF T a) : MQa yX10_count I_X10_count [.ref 317, .int w] M L dd (thC w) (fun x => x = .int (vlC a w)) a a R R := by
  have wJ := hW.2.2.2.1
  have wM := hW.2.2.1
  have h30 := wJ.2.1
  refine mq_mk (fun Q hq => ?_)
  refine a_met (by decide +kernel) rfl rfl (Nat.le_of_ble_eq_true rfl) (by simp [Value.category]) (by decide) rfl ?_
  show AW I_X10_count 0 [.ref 317, .int w] [] (hS M L dd) 0 0 Q
  refine r_aload_n dX10_count_0 rfl ?_
  refine r_iload_n dX10_count_1 rfl ?_
  refine r_iconst_0 dX10_count_2 ?_
  refine r_bipush 12 dX10_count_3 (by decide) ?_
  refine m_cs3 dX10_count_5 cs_X10_54 (c_X10_isIn) rfl ⟨rfl, rfl⟩ (by decide) (by decide) (Nat.le_of_ble_eq_true rfl) ?_
  refine r_if_eq 15 dX10_count_8 (by decide) (fun h8 => ?_) (fun h8 => ?_)
  · rw [bI_0] at h8
    refine r_iconst_1 dX10_count_15 ?_
    refine m_put 10 5 dX10_count_16 fl_X10_42 (fun r hr => by cases hr; rfl) ob_model (Nat.le_of_ble_eq_true rfl) rfl ?_
    refine r_aload_n dX10_count_19 rfl ?_
    refine m_get 10 5 dX10_count_20 fl_X10_42 ob_model rfl ?_
    refine r_if_le 28 dX10_count_23 (by decide) (fun z => absurd z (by rw [mU_s, upd_eq]; decide)) (fun _ => ?_)
    refine r_iconst_0 dX10_count_26 ?_
    exact r_iret dX10_count_27 rfl (mq_t hq hA hR (by decide) (by rw [thC, if_neg h8]))
  · rw [bI_0, Decidable.not_not] at h8
    have ht : thC w = 0 := by rw [thC, if_pos h8]
    obtain ⟨f, hf, rfl⟩ := ix_c 12 (by omega) h8
    have eA : (mU M 317 (upd (M 317) 5 0)) 318 = a := by rw [mU_n (by omega)]; exact hA
    refine r_iconst_0 dX10_count_11 ?_
    refine r_goto 16 dX10_count_12 (by decide) ?_
    refine m_put 10 5 dX10_count_16 fl_X10_42 (fun r hr => by cases hr; rfl) ob_model (Nat.le_of_ble_eq_true rfl) rfl ?_
    refine r_aload_n dX10_count_19 rfl ?_
    refine m_get 10 5 dX10_count_20 fl_X10_42 ob_model rfl ?_
    refine r_if_le 28 dX10_count_23 (by decide) (fun _ => ?_) (fun z => absurd (by rw [mU_s, upd_eq]; decide) z)
    refine r_iload_n dX10_count_28 rfl ?_
    refine r_iconst_4 dX10_count_29 ?_
    refine r_icmp_ge 42 dX10_count_30 (by decide) (fun h30' => ?_) (fun h30' => ?_)
    · have n4 : ¬ nI f < 4 := by rw [Int32.not_lt]; exact h30'
      have g4 : 4 ≤ f := by rw [show (4 : Int32) = nI 4 from rfl, nI_leI (by omega) (by omega)] at h30'; exact h30'
      refine r_iload_n dX10_count_42 rfl ?_
      refine r_bipush 8 dX10_count_43 (by decide) ?_
      refine r_icmp_ge 57 dX10_count_45 (by decide) (fun h45 => ?_) (fun h45 => ?_)
      · have n8 : ¬ nI f < 8 := by rw [Int32.not_lt]; exact h45
        have g8 : 8 ≤ f := by rw [show (8 : Int32) = nI 8 from rfl, nI_leI (by omega) (by omega)] at h45; exact h45
        have e3 : nI f - 3 = nI (f - 3) := by rw [show (3 : Int32) = nI 3 from rfl, pk_sub (by omega)]
        refine r_iload_n dX10_count_57 rfl ?_
        by_cases w58_8 : nI f = 8
        · refine r_swIn 84 dX10_count_58 (by rw [w58_8]; decide) (by rw [w58_8]; decide) (by rw [w58_8]; rfl) (by decide) ?_
          refine r_aload_n dX10_count_84 rfl ?_
          refine r_iconst_0 dX10_count_85 ?_
          refine m_cv1 dX10_count_86 cv_X10_263 (c_X10_inState eA wJ.1 h30) rfl ob_model ⟨_, rfl, rfl⟩ ⟨rfl, rfl⟩ (by decide) (by decide) (Nat.le_of_ble_eq_true rfl) ?_
          exact r_iret dX10_count_89 rfl (mq_v hq hA hR ht (by rw [vlC, if_neg n4, if_neg n8, if_pos w58_8]))
        by_cases w58_9 : nI f = 9
        · refine r_swIn 90 dX10_count_58 (by rw [w58_9]; decide) (by rw [w58_9]; decide) (by rw [w58_9]; rfl) (by decide) ?_
          refine r_aload_n dX10_count_90 rfl ?_
          refine r_iconst_1 dX10_count_91 ?_
          refine m_cv1 dX10_count_92 cv_X10_263 (c_X10_inState eA wJ.1 h30) rfl ob_model ⟨_, rfl, rfl⟩ ⟨rfl, rfl⟩ (by decide) (by decide) (Nat.le_of_ble_eq_true rfl) ?_
          exact r_iret dX10_count_95 rfl (mq_v hq hA hR ht (by rw [vlC, if_neg n4, if_neg n8, if_neg w58_8, if_pos w58_9]))
        by_cases w58_10 : nI f = 10
        · refine r_swIn 96 dX10_count_58 (by rw [w58_10]; decide) (by rw [w58_10]; decide) (by rw [w58_10]; rfl) (by decide) ?_
          refine r_aload_n dX10_count_96 rfl ?_
          refine m_cv0 dX10_count_97 cv_X10_266 (c_X10_freeSlots eA wM wJ.1 h30) rfl ob_model ⟨_, rfl, rfl⟩ ⟨rfl, rfl⟩ (by decide) (by decide) (Nat.le_of_ble_eq_true rfl) ?_
          exact r_iret dX10_count_100 rfl (mq_v hq hA hR ht (by rw [vlC, if_neg n4, if_neg n8, if_neg w58_8, if_neg w58_9, if_pos w58_10]))
        refine r_swOut 101 dX10_count_58 (by have e8 : (nI f).toInt ≠ 8 := fun z => w58_8 (Int32.toInt_inj.mp (z.trans (by decide))); have e9 : (nI f).toInt ≠ 9 := fun z => w58_9 (Int32.toInt_inj.mp (z.trans (by decide))); have e10 : (nI f).toInt ≠ 10 := fun z => w58_10 (Int32.toInt_inj.mp (z.trans (by decide))); omega) (by decide) ?_
        refine r_aload_n dX10_count_101 rfl ?_
        refine m_get 10 0 dX10_count_102 fl_X10_7 ob_model rfl ?_
        refine r_iload_n dX10_count_105 rfl ?_
        refine r_iconst_3 dX10_count_106 ?_
        refine r_isub dX10_count_107 ?_
        refine m_iald (f - 3) dX10_count_108 ai_a e3 (by omega) (by first | decide | assumption) ?_
        exact r_iret dX10_count_109 rfl (mq_v hq hA hR ht (by rw [vlC, if_neg n4, if_neg n8, if_neg w58_8, if_neg w58_9, if_neg w58_10, eA, e3, zN, nI_clamp (by omega)]))
      · have n8 : nI f < 8 := by rw [← Int32.not_le]; exact h45
        have g8 : f < 8 := by rw [show (8 : Int32) = nI 8 from rfl, nI_ltI (by omega) (by omega)] at n8; exact n8
        have e4 : nI f - 4 = nI (f - 4) := by rw [show (4 : Int32) = nI 4 from rfl, pk_sub (by omega)]
        refine r_aload_n dX10_count_48 rfl ?_
        refine m_get 10 0 dX10_count_49 fl_X10_7 ob_model rfl ?_
        refine r_iload_n dX10_count_52 rfl ?_
        refine r_iconst_4 dX10_count_53 ?_
        refine r_isub dX10_count_54 ?_
        refine m_iald (f - 4) dX10_count_55 ai_a e4 (by omega) (by first | decide | assumption) ?_
        exact r_iret dX10_count_56 rfl (mq_v hq hA hR ht (by rw [vlC, if_neg n4, if_pos n8, eA, e4, zN, nI_clamp (by omega)]))
    · have n4 : nI f < 4 := by rw [← Int32.not_le]; exact h30'
      have g4 : f < 4 := by rw [show (4 : Int32) = nI 4 from rfl, nI_ltI (by omega) (by omega)] at n4; exact n4
      have e4 : 4 + nI f = nI (4 + f) := nI_add 4 f
      refine r_aload_n dX10_count_33 rfl ?_
      refine m_get 10 0 dX10_count_34 fl_X10_7 ob_model rfl ?_
      refine r_iconst_4 dX10_count_37 ?_
      refine r_iload_n dX10_count_38 rfl ?_
      refine r_iadd dX10_count_39 ?_
      refine m_iald (4 + f) dX10_count_40 ai_a e4 (by omega) (by first | decide | assumption) ?_
      exact r_iret dX10_count_41 rfl (mq_v hq hA hR ht (by rw [vlC, if_pos n4, eA, e4, zN, nI_clamp (by omega)]))
/-- all uses together are a whole number -/
theorem sb_nat (hW : WF T a) (t : Int32) : sbS a t (fun k => a (34 + k)) = nI (zN (sbS a t (fun k => a (34 + k)))) ∧ ¬ sbS a t (fun k => a (34 + k)) < 0 := by
  have wUse := hW.2.1
  have ht := hW.2.2.2.2.2.2.1
  have h10 := hW.2.2.2.2.2.2.2.1
  have e1 : sbS a t (fun k => a (34 + k)) = nI (sumN (fun k => if lfS a k ∧ bel a t 12 (nI k) = true then zN (a (34 + k)) else 0) (nu a)) := by
    refine sumI_nat (fun k hk => ?_)
    by_cases z : lfS a k ∧ bel a t 12 (nI k) = true
    · rw [if_pos z, if_pos z]; exact wUse.1 k hk
    · rw [if_neg z, if_neg z]; rfl
  have h2 : sumN (fun k => if lfS a k ∧ bel a t 12 (nI k) = true then zN (a (34 + k)) else 0) (nu a) ≤ sumN (fun u => zN (a (34 + u))) (nu a) := by
    refine sumN_mono (fun k hk => ?_)
    by_cases z : lfS a k ∧ bel a t 12 (nI k) = true
    · rw [if_pos z]; exact Nat.le_refl _
    · rw [if_neg z]; exact Nat.zero_le _
  have h3 := wUse.2
  rw [e1]
  exact ⟨by rw [zN, nI_clamp (by omega)], nI_pos (by omega)⟩
abbrev allU (a : Row) : Int32 := sbS a 0 (fun k => a (34 + k))
abbrev lkU (a : Row) (u : Nat) : Int32 := ndS a u (allU a)
theorem c_X10_lackOf {u : Nat} (hA : M 318 = a) (hW : WF T a) (hu : u < nu a) : AD yX10_lackOf I_X10_lackOf [.ref 317, .int (nI u)] (hS M L dd) (.inl (some (.int (lkU a u)))) (hS M L dd) := by
  have wU := hW.1
  have h12 := wU.2.2.1
  obtain ⟨e1, e2⟩ := sb_nat hW 0
  intro Q hq
  refine a_met (by decide +kernel) rfl rfl (Nat.le_of_ble_eq_true rfl) (by simp [Value.category]) (by decide) rfl ?_
  show AW I_X10_lackOf 0 [.ref 317, .int (nI u), .null] [] (hS M L dd) 0 0 Q
  refine r_aload_n dX10_lackOf_0 rfl ?_
  refine r_iconst_0 dX10_lackOf_1 ?_
  refine m_cv1 dX10_lackOf_2 cv_X10_198 (c_X10_useOf hA wU (by decide)) rfl ob_model ⟨_, rfl, rfl⟩ ⟨rfl, rfl⟩ (by decide) (by decide) (Nat.le_of_ble_eq_true rfl) ?_
  refine s_istore_n 2 dX10_lackOf_5 (by decide) rfl rfl ?_
  refine r_aload_n dX10_lackOf_6 rfl ?_
  refine r_iload_n dX10_lackOf_7 rfl ?_
  refine m_cv1 dX10_lackOf_8 (cv_X10_182 _) (c_X10_baseOf hA wU 14 u hu (by omega)) rfl ob_model ⟨_, rfl, rfl⟩ ⟨rfl, rfl⟩ (by decide) (by decide) (Nat.le_of_ble_eq_true rfl) ?_
  refine r_iload_n dX10_lackOf_11 rfl ?_
  refine r_if_ne 19 dX10_lackOf_12 (by decide) (fun h12' => ?_) (fun h12' => ?_)
  · have e3 : 0 < allU a := by grind
    refine r_ldc2 1000000 dX10_lackOf_19 k_1582 ?_
    refine r_aload_n dX10_lackOf_22 rfl ?_
    refine m_get 10 0 dX10_lackOf_23 fl_X10_7 ob_model rfl ?_
    refine r_bipush 34 dX10_lackOf_26 (by decide) ?_
    refine r_iload_n dX10_lackOf_28 rfl ?_
    refine r_iadd dX10_lackOf_29 ?_
    refine m_iald (34 + u) dX10_lackOf_30 ai_a (nI_add 34 u) (by omega) (by first | decide | assumption) ?_
    refine r_i2l dX10_lackOf_31 ?_
    refine r_lmul dX10_lackOf_32 ?_
    refine r_iload_n dX10_lackOf_33 rfl ?_
    refine r_i2l dX10_lackOf_34 ?_
    refine r_ldiv dX10_lackOf_35 (by intro z; apply h12'; rw [← Int32.toInt_inj, ← Int32.toInt_toInt64, z]; decide) ?_
    refine r_l2i dX10_lackOf_36 ?_
    refine r_isub dX10_lackOf_37 ?_
    exact e_iret dX10_lackOf_38 rfl hq (by rw [hA]; unfold lkU ndS; rw [if_pos e3])
  · refine r_iconst_0 dX10_lackOf_15 ?_
    refine r_goto 37 dX10_lackOf_16 (by decide) ?_
    refine r_isub dX10_lackOf_37 ?_
    exact e_iret dX10_lackOf_38 rfl hq (by unfold lkU ndS; rw [if_neg (by rw [show allU a = 0 from h12']; decide)])
def drfS (a : Row) : Int32 := sumI (fun u => if lfS a u then (if lkU a u < 0 then - lkU a u else lkU a u) else 0) (nu a)
theorem c_X10_drift (hA : M 318 = a) (hR : MH M R) (hW : WF T a) : MQa yX10_drift I_X10_drift [.ref 317] M L dd 0 (fun x => x = .int (drfS a)) a a R R := by
  have wU := hW.1
  have h12 := wU.2.2.1
  refine mq_mk (fun Q hq => ?_)
  refine a_met (by decide +kernel) rfl rfl (Nat.le_of_ble_eq_true rfl) (by simp [Value.category]) (by decide) rfl ?_
  show AW I_X10_drift 0 [.ref 317, .null, .null] [] (hS M L dd) 0 0 Q
  have eA : (mU M 317 (upd (M 317) 5 0)) 318 = a := by rw [mU_n (by omega)]; exact hA
  have fin : ∀ x : Int32, x = drfS a → Q (.inl (some (.int x))) (hS (mU M 317 (upd (M 317) 5 0)) L dd) := fun x hx => mq_v hq hA hR rfl (by rw [hx])
  refine r_aload_n dX10_drift_0 rfl ?_
  refine r_iconst_0 dX10_drift_1 ?_
  refine m_put 10 5 dX10_drift_2 fl_X10_42 (fun r hr => by cases hr; rfl) ob_model (Nat.le_of_ble_eq_true rfl) rfl ?_
  refine r_iconst_0 dX10_drift_5 ?_
  refine s_istore_n 1 dX10_drift_6 (by decide) rfl rfl ?_
  refine r_iconst_0 dX10_drift_7 ?_
  refine s_istore_n 2 dX10_drift_8 (by decide) rfl rfl ?_
  generalize mU M 317 (upd (M 317) 5 0) = M1 at *
  have lp : ∀ k, k ≤ nu a → AW I_X10_drift 9 [.ref 317, .int (sumI (fun u => if lfS a u then (if lkU a u < 0 then - lkU a u else lkU a u) else 0) k), .int (nI k)] [] (hS M1 L dd) 0 0 Q := by
    refine lp_up _ ?_ ?_
    · refine r_iload_n dX10_drift_9 rfl ?_
      refine r_aload_n dX10_drift_10 rfl ?_
      refine m_get 10 0 dX10_drift_11 fl_X10_7 ob_model rfl ?_
      refine r_iconst_4 dX10_drift_14 ?_
      refine m_iald 4 dX10_drift_15 ai_a rfl (by omega) (by first | decide | assumption) ?_
      refine r_icmp_ge 62 dX10_drift_16 (by decide) (fun _ => ?_) (fun z => absurd (by rw [eA, wU.1]; exact nI_le (Nat.le_refl _) (by omega)) z)
      refine r_iload_n dX10_drift_62 rfl ?_
      exact r_iret dX10_drift_63 rfl (fin _ rfl)
    · intro k hk ih 
      refine r_iload_n dX10_drift_9 rfl ?_
      refine r_aload_n dX10_drift_10 rfl ?_
      refine m_get 10 0 dX10_drift_11 fl_X10_7 ob_model rfl ?_
      refine r_iconst_4 dX10_drift_14 ?_
      refine m_iald 4 dX10_drift_15 ai_a rfl (by omega) (by first | decide | assumption) ?_
      refine r_icmp_ge 62 dX10_drift_16 (by decide) (fun z => absurd z (by rw [eA, wU.1]; exact nI_ge hk (by omega))) (fun _ => ?_)
      refine r_iload_n dX10_drift_19 rfl ?_
      refine r_aload_n dX10_drift_20 rfl ?_
      refine r_iload_n dX10_drift_21 rfl ?_
      refine m_cv1 dX10_drift_22 cv_X10_119 (c_X10_isLeaf eA wU.1 h12) rfl ob_model ⟨_, rfl, rfl⟩ ⟨rfl, rfl⟩ (by decide) (by decide) (Nat.le_of_ble_eq_true rfl) ?_
      refine r_if_ne 32 dX10_drift_25 (by decide) (fun h25 => ?_) (fun h25 => ?_)
      · refine r_aload_n dX10_drift_32 rfl ?_
        refine r_iload_n dX10_drift_33 rfl ?_
        refine m_cv1 dX10_drift_34 cv_X10_283 (c_X10_lackOf eA hW hk) rfl ob_model ⟨_, rfl, rfl⟩ ⟨rfl, rfl⟩ (by decide) (by decide) (Nat.le_of_ble_eq_true rfl) ?_
        refine r_if_ge 49 dX10_drift_37 (by decide) (fun h37 => ?_) (fun h37 => ?_)
        · refine r_aload_n dX10_drift_49 rfl ?_
          refine r_iload_n dX10_drift_50 rfl ?_
          refine m_cv1 dX10_drift_51 cv_X10_283 (c_X10_lackOf eA hW hk) rfl ob_model ⟨_, rfl, rfl⟩ ⟨rfl, rfl⟩ (by decide) (by decide) (Nat.le_of_ble_eq_true rfl) ?_
          refine r_iadd dX10_drift_54 ?_
          refine s_istore_n 1 dX10_drift_55 (by decide) rfl rfl ?_
          refine s_iinc dX10_drift_56 rfl (by decide) rfl ?_
          refine r_goto 9 dX10_drift_59 (by decide) ?_
          (refine m_sub ih ?_; rw [bI_0] at h25; first | (simp only [a_sub, sumI, nI_succ, if_neg h25, List.set_cons_zero, List.set_cons_succ]; simp; done) | (rw [Decidable.not_not] at h25; simp only [a_sub, sumI, nI_succ, if_pos h25, List.set_cons_zero, List.set_cons_succ]; rw [Int32.not_le.symm.trans Iff.rfl] at *; simp_all; done) | (rw [Decidable.not_not] at h25; simp only [a_sub, sumI, nI_succ, if_pos h25, List.set_cons_zero, List.set_cons_succ]; by_cases hneg : lkU a k < 0 <;> simp_all <;> grind))
        · refine r_aload_n dX10_drift_40 rfl ?_
          refine r_iload_n dX10_drift_41 rfl ?_
          refine m_cv1 dX10_drift_42 cv_X10_283 (c_X10_lackOf eA hW hk) rfl ob_model ⟨_, rfl, rfl⟩ ⟨rfl, rfl⟩ (by decide) (by decide) (Nat.le_of_ble_eq_true rfl) ?_
          refine r_ineg dX10_drift_45 ?_
          refine r_goto 54 dX10_drift_46 (by decide) ?_
          refine r_iadd dX10_drift_54 ?_
          refine s_istore_n 1 dX10_drift_55 (by decide) rfl rfl ?_
          refine s_iinc dX10_drift_56 rfl (by decide) rfl ?_
          refine r_goto 9 dX10_drift_59 (by decide) ?_
          (refine m_sub ih ?_; rw [bI_0] at h25; first | (simp only [a_sub, sumI, nI_succ, if_neg h25, List.set_cons_zero, List.set_cons_succ]; simp; done) | (rw [Decidable.not_not] at h25; simp only [a_sub, sumI, nI_succ, if_pos h25, List.set_cons_zero, List.set_cons_succ]; rw [Int32.not_le.symm.trans Iff.rfl] at *; simp_all; done) | (rw [Decidable.not_not] at h25; simp only [a_sub, sumI, nI_succ, if_pos h25, List.set_cons_zero, List.set_cons_succ]; by_cases hneg : lkU a k < 0 <;> simp_all <;> grind))
      · refine r_iconst_0 dX10_drift_28 ?_
        refine r_goto 54 dX10_drift_29 (by decide) ?_
        refine r_iadd dX10_drift_54 ?_
        refine s_istore_n 1 dX10_drift_55 (by decide) rfl rfl ?_
        refine s_iinc dX10_drift_56 rfl (by decide) rfl ?_
        refine r_goto 9 dX10_drift_59 (by decide) ?_
        (refine m_sub ih ?_; rw [bI_0] at h25; first | (simp only [a_sub, sumI, nI_succ, if_neg h25, List.set_cons_zero, List.set_cons_succ]; simp; done) | (rw [Decidable.not_not] at h25; simp only [a_sub, sumI, nI_succ, if_pos h25, List.set_cons_zero, List.set_cons_succ]; rw [Int32.not_le.symm.trans Iff.rfl] at *; simp_all; done) | (rw [Decidable.not_not] at h25; simp only [a_sub, sumI, nI_succ, if_pos h25, List.set_cons_zero, List.set_cons_succ]; by_cases hneg : lkU a k < 0 <;> simp_all <;> grind))
  exact m_sub (lp 0 (Nat.zero_le _)) (by simp [a_sub, sumI, nI_0])
def neF (a : Row) : Nat → Int32
  | 0 => -1
  | n + 1 => if lfS a n ∧ (neF a n = -1 ∨ lkU a (zN (neF a n)) < lkU a n) then nI n else neF a n
theorem neF_ok (a : Row) : ∀ n, n ≤ 12 → neF a n = -1 ∨ ∃ k, k < n ∧ neF a n = nI k := by
  intro n
  induction n with
  | zero => intro _; exact Or.inl rfl
  | succ n ih =>
    intro hn
    rw [neF]
    by_cases z : lfS a n ∧ (neF a n = -1 ∨ lkU a (zN (neF a n)) < lkU a n)
    · rw [if_pos z]; exact Or.inr ⟨n, by omega, rfl⟩
    · rw [if_neg z]
      rcases ih (by omega) with h | ⟨k, h1, h2⟩
      · exact Or.inl h
      · exact Or.inr ⟨k, by omega, h2⟩
theorem c_X10_neediest (hA : M 318 = a) (hR : MH M R) (hW : WF T a) : MQa yX10_neediest I_X10_neediest [.ref 317] M L dd 0 (fun x => x = .int (neF a (nu a))) a a R R := by
  have wU := hW.1
  have h12 := wU.2.2.1
  refine mq_mk (fun Q hq => ?_)
  refine a_met (by decide +kernel) rfl rfl (Nat.le_of_ble_eq_true rfl) (by simp [Value.category]) (by decide) rfl ?_
  show AW I_X10_neediest 0 [.ref 317, .null, .null] [] (hS M L dd) 0 0 Q
  have eA : (mU M 317 (upd (M 317) 5 0)) 318 = a := by rw [mU_n (by omega)]; exact hA
  have fin : ∀ x : Int32, x = neF a (nu a) → Q (.inl (some (.int x))) (hS (mU M 317 (upd (M 317) 5 0)) L dd) := fun x hx => mq_v hq hA hR rfl (by rw [hx])
  refine r_aload_n dX10_neediest_0 rfl ?_
  refine r_iconst_0 dX10_neediest_1 ?_
  refine m_put 10 5 dX10_neediest_2 fl_X10_42 (fun r hr => by cases hr; rfl) ob_model (Nat.le_of_ble_eq_true rfl) rfl ?_
  refine r_iconst_m1 dX10_neediest_5 ?_
  refine s_istore_n 1 dX10_neediest_6 (by decide) rfl rfl ?_
  refine r_iconst_0 dX10_neediest_7 ?_
  refine s_istore_n 2 dX10_neediest_8 (by decide) rfl rfl ?_
  generalize mU M 317 (upd (M 317) 5 0) = M1 at *
  have lp : ∀ k, k ≤ nu a → AW I_X10_neediest 9 [.ref 317, .int (neF a k), .int (nI k)] [] (hS M1 L dd) 0 0 Q := by
    refine lp_up _ ?_ ?_
    · refine r_iload_n dX10_neediest_9 rfl ?_
      refine r_aload_n dX10_neediest_10 rfl ?_
      refine m_get 10 0 dX10_neediest_11 fl_X10_7 ob_model rfl ?_
      refine r_iconst_4 dX10_neediest_14 ?_
      refine m_iald 4 dX10_neediest_15 ai_a rfl (by omega) (by first | decide | assumption) ?_
      refine r_icmp_ge 57 dX10_neediest_16 (by decide) (fun _ => ?_) (fun z => absurd (by rw [eA, wU.1]; exact nI_le (Nat.le_refl _) (by omega)) z)
      refine r_iload_n dX10_neediest_57 rfl ?_
      exact r_iret dX10_neediest_58 rfl (fin _ rfl)
    · intro k hk ih 
      refine r_iload_n dX10_neediest_9 rfl ?_
      refine r_aload_n dX10_neediest_10 rfl ?_
      refine m_get 10 0 dX10_neediest_11 fl_X10_7 ob_model rfl ?_
      refine r_iconst_4 dX10_neediest_14 ?_
      refine m_iald 4 dX10_neediest_15 ai_a rfl (by omega) (by first | decide | assumption) ?_
      refine r_icmp_ge 57 dX10_neediest_16 (by decide) (fun z => absurd z (by rw [eA, wU.1]; exact nI_ge hk (by omega))) (fun _ => ?_)
      refine r_aload_n dX10_neediest_19 rfl ?_
      refine r_iload_n dX10_neediest_20 rfl ?_
      refine m_cv1 dX10_neediest_21 cv_X10_119 (c_X10_isLeaf eA wU.1 h12) rfl ob_model ⟨_, rfl, rfl⟩ ⟨rfl, rfl⟩ (by decide) (by decide) (Nat.le_of_ble_eq_true rfl) ?_
      refine r_if_eq 49 dX10_neediest_24 (by decide) (fun h24 => ?_) (fun h24 => ?_)
      · rw [bI_0] at h24
        have ne : neF a (k + 1) = neF a k := by rw [neF, if_neg (fun z => h24 z.1)]
        refine r_iload_n dX10_neediest_49 rfl ?_
        refine s_istore_n 1 dX10_neediest_50 (by decide) rfl rfl ?_
        refine s_iinc dX10_neediest_51 rfl (by decide) rfl ?_
        refine r_goto 9 dX10_neediest_54 (by decide) ?_
        exact m_sub ih (by rw [ne]; simp [a_sub, nI_succ])
      · rw [bI_0, Decidable.not_not] at h24
        refine r_iload_n dX10_neediest_27 rfl ?_
        refine r_iconst_m1 dX10_neediest_28 ?_
        refine r_icmp_eq 45 dX10_neediest_29 (by decide) (fun h29 => ?_) (fun h29 => ?_)
        · have ne : neF a (k + 1) = nI k := by rw [neF, if_pos ⟨h24, Or.inl h29⟩]
          refine r_iload_n dX10_neediest_45 rfl ?_
          refine r_goto 50 dX10_neediest_46 (by decide) ?_
          refine s_istore_n 1 dX10_neediest_50 (by decide) rfl rfl ?_
          refine s_iinc dX10_neediest_51 rfl (by decide) rfl ?_
          refine r_goto 9 dX10_neediest_54 (by decide) ?_
          exact m_sub ih (by rw [ne]; simp [a_sub, nI_succ])
        · obtain ⟨b, hb, eb⟩ := (neF_ok a k (by omega)).resolve_left h29
          have zb : zN (nI b) = b := nI_clamp (by omega)
          refine r_aload_n dX10_neediest_32 rfl ?_
          refine r_iload_n dX10_neediest_33 rfl ?_
          refine m_cv1 dX10_neediest_34 cv_X10_283 (c_X10_lackOf eA hW hk) rfl ob_model ⟨_, rfl, rfl⟩ ⟨rfl, rfl⟩ (by decide) (by decide) (Nat.le_of_ble_eq_true rfl) ?_
          refine r_aload_n dX10_neediest_37 rfl ?_
          refine r_iload_n dX10_neediest_38 rfl ?_
          rw [eb]
          refine m_cv1 dX10_neediest_39 cv_X10_283 (c_X10_lackOf eA hW (show b < nu a by omega)) rfl ob_model ⟨_, rfl, rfl⟩ ⟨rfl, rfl⟩ (by decide) (by decide) (Nat.le_of_ble_eq_true rfl) ?_
          refine r_icmp_le 49 dX10_neediest_42 (by decide) (fun h42 => ?_) (fun h42 => ?_)
          · have ne : neF a (k + 1) = nI b := by rw [neF, if_neg (fun z => z.2.elim h29 (fun y => by rw [eb, zb] at y; grind)), eb]
            refine r_iload_n dX10_neediest_49 rfl ?_
            refine s_istore_n 1 dX10_neediest_50 (by decide) rfl rfl ?_
            refine s_iinc dX10_neediest_51 rfl (by decide) rfl ?_
            refine r_goto 9 dX10_neediest_54 (by decide) ?_
            exact m_sub ih (by rw [ne]; simp [a_sub, nI_succ])
          · have ne : neF a (k + 1) = nI k := by rw [neF, if_pos ⟨h24, Or.inr (by rw [eb, zb]; grind)⟩]
            refine r_iload_n dX10_neediest_45 rfl ?_
            refine r_goto 50 dX10_neediest_46 (by decide) ?_
            refine s_istore_n 1 dX10_neediest_50 (by decide) rfl rfl ?_
            refine s_iinc dX10_neediest_51 rfl (by decide) rfl ?_
            refine r_goto 9 dX10_neediest_54 (by decide) ?_
            exact m_sub ih (by rw [ne]; simp [a_sub, nI_succ])
  exact m_sub (lp 0 (Nat.zero_le _)) (by simp [a_sub, neF, nI_0])
theorem c_X10_errorPosition (hA : M 318 = a) (hR : MH M R) : MQa yX10_errorPosition I_X10_errorPosition [.ref 317] M L dd 0 (fun x => x = .int (M 317 15)) a a R R := by
  refine mq_mk (fun Q hq => ?_)
  refine a_met (by decide +kernel) rfl rfl (Nat.le_of_ble_eq_true rfl) (by simp [Value.category]) (by decide) rfl ?_
  show AW I_X10_errorPosition 0 [.ref 317] [] (hS M L dd) 0 0 Q
  refine r_aload_n dX10_errorPosition_0 rfl ?_
  refine r_iconst_0 dX10_errorPosition_1 ?_
  refine m_put 10 5 dX10_errorPosition_2 fl_X10_42 (fun r hr => by cases hr; rfl) ob_model (Nat.le_of_ble_eq_true rfl) rfl ?_
  refine r_aload_n dX10_errorPosition_5 rfl ?_
  refine m_get 10 15 dX10_errorPosition_6 fl_X10_25 ob_model rfl ?_
  exact r_iret dX10_errorPosition_9 rfl (mq_v hq hA hR rfl (by rw [mU_s, upd_ne (by omega)]))
theorem c_X10_thrown : AD yX10_thrown I_X10_thrown [.ref 317] (hS M L dd) (.inl (some (.int (M 317 5)))) (hS M L dd) := by
  intro Q hq
  refine a_met (by decide +kernel) rfl rfl (Nat.le_of_ble_eq_true rfl) (by simp [Value.category]) (by decide) rfl ?_
  show AW I_X10_thrown 0 [.ref 317] [] (hS M L dd) 0 0 Q
  refine r_aload_n dX10_thrown_0 rfl ?_
  refine m_get 10 5 dX10_thrown_1 fl_X10_42 ob_model rfl ?_
  exact e_iret dX10_thrown_4 rfl hq (rfl)
def thN (M : Nat → Nat → Int32) (i : Int32) : Int32 := if 0 ≤ i ∧ i < M 317 19 then 0 else 1
theorem c_X10_writtenByte {i : Int32} {n : Nat} (hA : M 318 = a) (hR : MH M R) (hn : M 317 19 = nI n) (hn2 : n ≤ 120) : MQa yX10_writtenByte I_X10_writtenByte [.ref 317, .int i] M L dd (thN M i) (fun x => ∀ k, k < n → i = nI k → x = .int (M 324 k)) a a R R := by
  refine mq_mk (fun Q hq => ?_)
  refine a_met (by decide +kernel) rfl rfl (Nat.le_of_ble_eq_true rfl) (by simp [Value.category]) (by decide) rfl ?_
  show AW I_X10_writtenByte 0 [.ref 317, .int i] [] (hS M L dd) 0 0 Q
  refine r_aload_n dX10_writtenByte_0 rfl ?_
  refine r_iload_n dX10_writtenByte_1 rfl ?_
  refine r_iconst_0 dX10_writtenByte_2 ?_
  refine r_aload_n dX10_writtenByte_3 rfl ?_
  refine m_get 10 19 dX10_writtenByte_4 fl_X10_286 ob_model rfl ?_
  refine r_iconst_1 dX10_writtenByte_7 ?_
  refine r_isub dX10_writtenByte_8 ?_
  refine m_cs3 dX10_writtenByte_9 cs_X10_54 (c_X10_isIn) rfl ⟨rfl, rfl⟩ (by decide) (by decide) (Nat.le_of_ble_eq_true rfl) ?_
  have e12 : bI (0 ≤ i ∧ i ≤ M 317 19 - 1) = bI (0 ≤ i ∧ i < M 317 19) := by
    unfold bI; by_cases z : 0 ≤ i <;> simp [z, le_pred hn (by omega)]
  simp only [Option.toList_some, List.singleton_append]
  rw [e12]
  refine r_if_eq 19 dX10_writtenByte_12 (by decide) (fun h12 => ?_) (fun h12 => ?_)
  · rw [bI_0] at h12
    refine r_iconst_1 dX10_writtenByte_19 ?_
    refine m_put 10 5 dX10_writtenByte_20 fl_X10_42 (fun r hr => by cases hr; rfl) ob_model (Nat.le_of_ble_eq_true rfl) rfl ?_
    refine r_aload_n dX10_writtenByte_23 rfl ?_
    refine m_get 10 5 dX10_writtenByte_24 fl_X10_42 ob_model rfl ?_
    refine r_if_le 34 dX10_writtenByte_27 (by decide) (fun z => absurd z (by rw [mU_s, upd_eq]; decide)) (fun _ => ?_)
    refine r_iconst_0 dX10_writtenByte_30 ?_
    refine r_goto 40 dX10_writtenByte_31 (by decide) ?_
    exact r_iret dX10_writtenByte_40 rfl (mq_t hq hA hR (by decide) (by rw [thN, if_neg h12]))
  · rw [bI_0, Decidable.not_not] at h12
    obtain ⟨k, hk, rfl⟩ := ix_n hn (by omega) h12
    refine r_iconst_0 dX10_writtenByte_15 ?_
    refine r_goto 20 dX10_writtenByte_16 (by decide) ?_
    refine m_put 10 5 dX10_writtenByte_20 fl_X10_42 (fun r hr => by cases hr; rfl) ob_model (Nat.le_of_ble_eq_true rfl) rfl ?_
    refine r_aload_n dX10_writtenByte_23 rfl ?_
    refine m_get 10 5 dX10_writtenByte_24 fl_X10_42 ob_model rfl ?_
    refine r_if_le 34 dX10_writtenByte_27 (by decide) (fun _ => ?_) (fun z => absurd (by rw [mU_s, upd_eq]; decide) z)
    refine r_aload_n dX10_writtenByte_34 rfl ?_
    refine m_get 10 18 dX10_writtenByte_35 fl_X10_32 ob_model rfl ?_
    refine r_iload_n dX10_writtenByte_38 rfl ?_
    refine m_iald k dX10_writtenByte_39 ai_written rfl (by omega) (by first | decide | assumption) ?_
    exact r_iret dX10_writtenByte_40 rfl (mq_v hq hA hR (by rw [thN, if_pos h12]) (fun k2 hk2 e2 => by rw [nI_eq (by omega) (by omega)] at e2; subst e2; rw [mU_n (by omega)]))
end MODEL9
