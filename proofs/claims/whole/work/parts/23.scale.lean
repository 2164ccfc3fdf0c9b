section SCALE
variable {M : Nat → Nat → Int32} {L : Nat → Nat → Int64} {dd : UInt64} {p : Nat} {a : Nat → Int32}
theorem c_X9_worthOf {t us k : Int32} : AD yX9_worthOf I_X9_worthOf [.int t, .int us, .int k] (hS M L dd) (.inl (some (.long (woS t us k)))) (hS M L dd) := by
  intro Q hq
  refine a_met (by decide +kernel) rfl rfl (Nat.le_of_ble_eq_true rfl) (by simp [Value.category]) (by decide) rfl ?_
  show AW I_X9_worthOf 0 [.int t, .int us, .int k, .null, .null] [] (hS M L dd) 0 0 Q
  refine r_ldc2 1000 dX9_worthOf_0 k_779 ?_
  refine r_iload_n dX9_worthOf_3 rfl ?_
  refine r_i2l dX9_worthOf_4 ?_
  refine r_ladd dX9_worthOf_5 ?_
  refine r_iload_n dX9_worthOf_6 rfl ?_
  refine r_i2l dX9_worthOf_7 ?_
  refine r_lmul dX9_worthOf_8 ?_
  refine s_lstore_n 3 dX9_worthOf_9 (by decide) rfl rfl ?_
  refine r_lload_n dX9_worthOf_10 rfl ?_
  refine r_lconst_0 dX9_worthOf_11 ?_
  refine r_lcmp dX9_worthOf_12 ?_
  refine r_if_le 27 dX9_worthOf_13 (by decide) (fun h13 => ?_) (fun h13 => ?_)
  · refine r_lconst_0 dX9_worthOf_27 ?_
    exact e_lret dX9_worthOf_28 rfl hq (by unfold woS; rw [lg_cmp_le] at h13; first | rw [if_neg (by rwa [Int64.not_lt])] | rw [if_pos (by rwa [← Int64.not_le])])
  · refine r_iload_n dX9_worthOf_16 rfl ?_
    refine r_i2l dX9_worthOf_17 ?_
    refine r_ldc2 1000 dX9_worthOf_18 k_779 ?_
    refine r_lmul dX9_worthOf_21 ?_
    refine r_lload_n dX9_worthOf_22 rfl ?_
    refine r_ldiv dX9_worthOf_23 (by intro z; apply h13; rw [z]; decide) ?_
    refine r_goto 28 dX9_worthOf_24 (by decide) ?_
    exact e_lret dX9_worthOf_28 rfl hq (by unfold woS; rw [lg_cmp_le] at h13; first | rw [if_neg (by rwa [Int64.not_lt])] | rw [if_pos (by rwa [← Int64.not_le])])
theorem c_X6_nextWorthOf {u : Nat} (hP : PL p) (hu : u < 12) : AD yX6_nextWorthOf I_X6_nextWorthOf [.ref (p + 23), .int (nI u)] (hS M L dd) (.inl (some (.long (L (p + 28) u)))) (hS M L dd) := by
  intro Q hq
  refine a_met (by decide +kernel) rfl rfl (Nat.le_of_ble_eq_true rfl) (by simp [Value.category]) (by decide) rfl ?_
  show AW I_X6_nextWorthOf 0 [.ref (p + 23), .int (nI u)] [] (hS M L dd) 0 0 Q
  refine r_iload_n dX6_nextWorthOf_0 rfl ?_
  refine r_if_lt 19 dX6_nextWorthOf_1 (by decide) (fun z => absurd z (nI_pos (by omega))) (fun _ => ?_)
  refine r_iload_n dX6_nextWorthOf_4 rfl ?_
  refine r_bipush 12 dX6_nextWorthOf_5 (by decide) ?_
  refine r_icmp_ge 19 dX6_nextWorthOf_7 (by decide) (fun z => absurd z (nI_ge hu (by decide))) (fun _ => ?_)
  refine r_aload_n dX6_nextWorthOf_10 rfl ?_
  refine m_get 6 4 dX6_nextWorthOf_11 fl_X6_24 (ob_scale hP) rfl ?_
  refine r_iload_n dX6_nextWorthOf_14 rfl ?_
  refine m_lald u dX6_nextWorthOf_15 (al_next hP) rfl (by omega) (by first | decide | assumption) ?_
  refine r_goto 20 dX6_nextWorthOf_16 (by decide) ?_
  exact e_lret dX6_nextWorthOf_20 rfl hq (rfl)
theorem c_X6_nowWorthOf {u : Nat} (hP : PL p) (hu : u < 12) : AD yX6_nowWorthOf I_X6_nowWorthOf [.ref (p + 23), .int (nI u)] (hS M L dd) (.inl (some (.long (L (p + 29) u)))) (hS M L dd) := by
  intro Q hq
  refine a_met (by decide +kernel) rfl rfl (Nat.le_of_ble_eq_true rfl) (by simp [Value.category]) (by decide) rfl ?_
  show AW I_X6_nowWorthOf 0 [.ref (p + 23), .int (nI u)] [] (hS M L dd) 0 0 Q
  refine r_iload_n dX6_nowWorthOf_0 rfl ?_
  refine r_if_lt 19 dX6_nowWorthOf_1 (by decide) (fun z => absurd z (nI_pos (by omega))) (fun _ => ?_)
  refine r_iload_n dX6_nowWorthOf_4 rfl ?_
  refine r_bipush 12 dX6_nowWorthOf_5 (by decide) ?_
  refine r_icmp_ge 19 dX6_nowWorthOf_7 (by decide) (fun z => absurd z (nI_ge hu (by decide))) (fun _ => ?_)
  refine r_aload_n dX6_nowWorthOf_10 rfl ?_
  refine m_get 6 5 dX6_nowWorthOf_11 fl_X6_28 (ob_scale hP) rfl ?_
  refine r_iload_n dX6_nowWorthOf_14 rfl ?_
  refine m_lald u dX6_nowWorthOf_15 (al_now hP) rfl (by omega) (by first | decide | assumption) ?_
  refine r_goto 20 dX6_nowWorthOf_16 (by decide) ?_
  exact e_lret dX6_nowWorthOf_20 rfl hq (rfl)
theorem c_X6_weigh {u : Nat} (hP : PL p) (hT : QT M p a) (hW : WU a) (hu : u < nu a) : PO yX6_weigh I_X6_weigh [.ref (p + 23), .ref (p + 1), .int (nI u)] M L dd none (fun M' L' => M' = M ∧ FrL (p + 28) (p + 30) L L' ∧ (∀ v, v ≠ u → L' (p + 28) v = L (p + 28) v ∧ L' (p + 29) v = L (p + 29) v) ∧ L' (p + 28) u = woS (M (p + 26) u) (a (34 + u)) (M (p + 24) u + 1) ∧ L' (p + 29) u = woS (M (p + 26) u) (a (34 + u)) (M (p + 24) u)) := by
  refine po_mk (fun Q hq => ?_)
  refine a_met (by decide +kernel) rfl rfl (Nat.le_of_ble_eq_true rfl) (by simp [Value.category]) (by decide) rfl ?_
  show AW I_X6_weigh 0 [.ref (p + 23), .ref (p + 1), .int (nI u)] [] (hS M L dd) 0 0 Q
  have e := hT.1.trans hW.1
  have h12 := hW.2.2.1
  have e3 := (hT.2 u hu).2.2
  refine r_aload_n dX6_weigh_0 rfl ?_
  refine r_iload_n dX6_weigh_1 rfl ?_
  refine m_cv1 dX6_weigh_2 cv_X6_67 (c_X8_has hP) rfl (ob_tree hP) ⟨_, rfl, rfl⟩ ⟨rfl, rfl⟩ (by decide) (by decide) (Nat.le_of_ble_eq_true rfl) ?_
  refine r_if_eq 64 dX6_weigh_5 (by decide) (fun z => absurd z (by rw [bI_t ⟨nI_pos' (by omega), by rw [e]; exact nI_lt hu (by omega)⟩]; decide)) (fun _ => ?_)
  refine r_aload_n dX6_weigh_8 rfl ?_
  refine m_get 6 4 dX6_weigh_9 fl_X6_24 (ob_scale hP) rfl ?_
  refine r_iload_n dX6_weigh_12 rfl ?_
  refine r_aload_n dX6_weigh_13 rfl ?_
  refine m_get 6 2 dX6_weigh_14 fl_X6_18 (ob_scale hP) rfl ?_
  refine r_iload_n dX6_weigh_17 rfl ?_
  refine m_iald u dX6_weigh_18 (ai_tickets hP) rfl (by omega) (by first | decide | assumption) ?_
  refine r_aload_n dX6_weigh_19 rfl ?_
  refine m_get 8 3 dX6_weigh_20 fl_X6_117 (ob_tree hP) rfl ?_
  refine r_iload_n dX6_weigh_23 rfl ?_
  refine m_iald u dX6_weigh_24 (ai_use hP) rfl (by omega) (by first | decide | assumption) ?_
  refine r_aload_n dX6_weigh_25 rfl ?_
  refine m_get 6 0 dX6_weigh_26 fl_X6_9 (ob_scale hP) rfl ?_
  refine r_iload_n dX6_weigh_29 rfl ?_
  refine m_iald u dX6_weigh_30 (ai_load hP) rfl (by omega) (by first | decide | assumption) ?_
  refine r_iconst_1 dX6_weigh_31 ?_
  refine r_iadd dX6_weigh_32 ?_
  refine m_cs3 dX6_weigh_33 cs_X6_120 (c_X9_worthOf) rfl ⟨rfl, rfl⟩ (by decide) (by decide) (Nat.le_of_ble_eq_true rfl) ?_
  refine m_last u dX6_weigh_36 (al_next hP) rfl (by omega) (by first | decide | assumption) ?_
  refine r_aload_n dX6_weigh_37 rfl ?_
  refine m_get 6 5 dX6_weigh_38 fl_X6_28 (ob_scale hP) rfl ?_
  refine r_iload_n dX6_weigh_41 rfl ?_
  refine r_aload_n dX6_weigh_42 rfl ?_
  refine m_get 6 2 dX6_weigh_43 fl_X6_18 (ob_scale hP) rfl ?_
  refine r_iload_n dX6_weigh_46 rfl ?_
  refine m_iald u dX6_weigh_47 (ai_tickets hP) rfl (by omega) (by first | decide | assumption) ?_
  refine r_aload_n dX6_weigh_48 rfl ?_
  refine m_get 8 3 dX6_weigh_49 fl_X6_117 (ob_tree hP) rfl ?_
  refine r_iload_n dX6_weigh_52 rfl ?_
  refine m_iald u dX6_weigh_53 (ai_use hP) rfl (by omega) (by first | decide | assumption) ?_
  refine r_aload_n dX6_weigh_54 rfl ?_
  refine m_get 6 0 dX6_weigh_55 fl_X6_9 (ob_scale hP) rfl ?_
  refine r_iload_n dX6_weigh_58 rfl ?_
  refine m_iald u dX6_weigh_59 (ai_load hP) rfl (by omega) (by first | decide | assumption) ?_
  refine m_cs3 dX6_weigh_60 cs_X6_120 (c_X9_worthOf) rfl ⟨rfl, rfl⟩ (by decide) (by decide) (Nat.le_of_ble_eq_true rfl) ?_
  refine m_last u dX6_weigh_63 (al_now hP) rfl (by omega) (by first | decide | assumption) ?_
  refine r_vret dX6_weigh_64 rfl (hq _ _ ⟨rfl, fr_Lu (fr_Lu fr_Lr (by omega)) (by omega), fun v hv => ?_, ?_, ?_⟩)
  · simp [mL, vp_updL, hv]
  · simp [mL, vp_updL, e3]
  · simp [mL, vp_updL, e3]
def CJ (M : Nat → Nat → Int32) (p : Nat) (a : Nat → Int32) (k : Nat) : Prop := (∀ v, v < nu a → M (p + 24) v = sumI (fun j => if jb a j 3 = 1 ∧ jb a j 0 = nI v then 1 else 0) k ∧ M (p + 25) v = sumI (fun j => if jb a j 3 = 0 ∧ jb a j 0 = nI v then 1 else 0) k) ∧ (∀ m, m < nm a → M (p + 27) m = sumI (fun j => if jb a j 3 = 1 ∧ jb a j 4 = nI m then 1 else 0) k)
theorem cj_o {k : Nat} (h : CJ M p a k) (h0 : ¬ jb a k 3 = 0) (h1 : ¬ jb a k 3 = 1) : CJ M p a (k + 1) := by
  refine ⟨fun v hv => ?_, fun m hm => ?_⟩
  · obtain ⟨g1, g2⟩ := h.1 v hv
    rw [g1, g2, sumI, sumI]; simp [h0, h1]
  · rw [h.2 m hm, sumI]; simp [h1]
theorem cj_w {k u : Nat} (h : CJ M p a k) (h0 : jb a k 3 = 0) (hu : jb a k 0 = nI u) (hu2 : u < nu a) (h12 : nu a ≤ 12) : CJ (mU M (p + 25) (upd (M (p + 25)) u (M (p + 25) u + 1))) p a (k + 1) := by
  have h1 : ¬ (0 : Int32) = 1 := by decide
  refine ⟨fun v hv => ?_, fun m hm => ?_⟩
  · obtain ⟨g1, g2⟩ := h.1 v hv
    have e : nI u = nI v ↔ u = v := nI_eq (by omega) (by omega)
    rw [mU_n (by omega), mU_s, g1, sumI, sumI]
    by_cases hv2 : v = u
    · subst hv2; simp [h0, hu, upd, g2]
    · simp [h0, hu, upd, g2, hv2, e, Ne.symm hv2]
  · rw [mU_n (by omega), h.2 m hm, sumI]; simp [h0]
theorem cj_r {k u m : Nat} (h : CJ M p a k) (h0 : jb a k 3 = 1) (hu : jb a k 0 = nI u) (hu2 : u < nu a) (h12 : nu a ≤ 12) (hm : jb a k 4 = nI m) (hm2 : m < nm a) (h6 : nm a ≤ 6) : CJ (mU (mU M (p + 24) (upd (M (p + 24)) u (M (p + 24) u + 1))) (p + 27) (upd (M (p + 27)) m (M (p + 27) m + 1))) p a (k + 1) := by
  refine ⟨fun v hv => ?_, fun m' hm' => ?_⟩
  · obtain ⟨g1, g2⟩ := h.1 v hv
    have e : nI u = nI v ↔ u = v := nI_eq (by omega) (by omega)
    rw [mU_n (show p + 24 ≠ p + 27 by omega), mU_s, mU_n (show p + 25 ≠ p + 27 by omega), mU_n (show p + 25 ≠ p + 24 by omega), g2, sumI, sumI]
    by_cases hv2 : v = u
    · subst hv2; simp [h0, hu, upd, g1]
    · simp [h0, hu, upd, g1, hv2, e, Ne.symm hv2]
  · have e : nI m = nI m' ↔ m = m' := nI_eq (by omega) (by omega)
    rw [mU_s, sumI]
    by_cases hv2 : m' = m
    · subst hv2; simp [h0, hm, upd, h.2 m' hm']
    · simp [h0, hm, upd, h.2 m' hm', hv2, e, Ne.symm hv2]
theorem c_X6_countJobs (hP : PL p) (hT : QT M p a) (hM : QM M p a) (hJ : QJ M p a) (hW : WU a) (hWM : WM a) (hWJ : WJ a) : PO yX6_countJobs I_X6_countJobs [.ref (p + 23), .ref p] M L dd none (fun M' L' => L' = L ∧ Fr (p + 24) (p + 28) M M' ∧ CJ M' p a (nj a)) := by
  refine po_mk (fun Q hq => ?_)
  refine a_met (by decide +kernel) rfl rfl (Nat.le_of_ble_eq_true rfl) (by simp [Value.category]) (by decide) rfl ?_
  show AW I_X6_countJobs 0 [.ref (p + 23), .ref p, .null, .null, .null, .null] [] (hS M L dd) 0 0 Q
  have h12 := hW.2.2.1
  have h6 := hWM.2.1
  have h30 := hWJ.2.1
  refine r_iconst_0 dX6_countJobs_0 ?_
  refine s_istore_n 2 dX6_countJobs_1 (by decide) rfl rfl ?_
  have lp1 : ∀ k, k ≤ 12 → ∀ M' : Nat → Nat → Int32, Fr (p + 24) (p + 28) M M' → (∀ v, v < k → M' (p + 24) v = 0 ∧ M' (p + 25) v = 0) → AW I_X6_countJobs 2 [.ref (p + 23), .ref p, .int (nI k), .null, .null, .null] [] (hS M' L dd) 0 0 Q := by
    refine lp_up _ ?_ ?_
    · intro M' f1 f2 
      refine r_iload_n dX6_countJobs_2 rfl ?_
      refine r_bipush 12 dX6_countJobs_3 (by decide) ?_
      refine r_icmp_ge 28 dX6_countJobs_5 (by decide) (fun _ => ?_) (fun z => absurd (by decide) z)
      refine r_iconst_0 dX6_countJobs_28 ?_
      refine s_istore_n 2 dX6_countJobs_29 (by decide) rfl rfl ?_
      have lp2 : ∀ k, k ≤ 6 → ∀ M' : Nat → Nat → Int32, Fr (p + 24) (p + 28) M M' → (∀ v, v < 12 → M' (p + 24) v = 0 ∧ M' (p + 25) v = 0) → (∀ v, v < k → M' (p + 27) v = 0) → AW I_X6_countJobs 30 [.ref (p + 23), .ref p, .int (nI k), .null, .null, .null] [] (hS M' L dd) 0 0 Q := by
        refine lp_up _ ?_ ?_
        · intro M' f1 f2 f3 
          refine r_iload_n dX6_countJobs_30 rfl ?_
          refine r_bipush 6 dX6_countJobs_31 (by decide) ?_
          refine r_icmp_ge 49 dX6_countJobs_33 (by decide) (fun _ => ?_) (fun z => absurd (by decide) z)
          refine r_aload_n dX6_countJobs_49 rfl ?_
          refine m_get 5 3 dX6_countJobs_50 fl_X6_54 (ob_place hP) rfl ?_
          refine s_astore_n 2 dX6_countJobs_53 (by decide) rfl rfl ?_
          refine r_iconst_0 dX6_countJobs_54 ?_
          refine s_istore_n 3 dX6_countJobs_55 (by decide) rfl rfl ?_
          have lp3 : ∀ k, k ≤ nj a → ∀ M' : Nat → Nat → Int32, Fr (p + 24) (p + 28) M M' → CJ M' p a k → AW I_X6_countJobs 56 [.ref (p + 23), .ref p, .ref (p + 15), .int (nI k), .null, .null] [] (hS M' L dd) 0 0 Q := by
            refine lp_up _ ?_ ?_
            · intro M' f1 f2 
              have hn := (qj_f f1 (Or.inl (by omega)) hJ).1.trans hWJ.1
              refine r_iload_n dX6_countJobs_56 rfl ?_
              refine r_aload_n dX6_countJobs_57 rfl ?_
              refine m_get 1 0 dX6_countJobs_58 fl_X6_58 (ob_jobs hP) rfl ?_
              refine r_icmp_ge 168 dX6_countJobs_61 (by decide) (fun _ => ?_) (fun z => absurd (by rw [hn]; exact nI_le (Nat.le_refl _) (by omega)) z)
              exact r_vret dX6_countJobs_168 rfl (hq _ _ ⟨rfl, f1, f2⟩)
            · intro k hk ih M' f1 f2 
              have hJ' := qj_f f1 (Or.inl (by omega)) hJ
              have hn := hJ'.1.trans hWJ.1
              have e4 := (rt_fr hT f1 (Or.inl (by omega))).1.trans hW.1
              have e5 := (qm_f f1 (Or.inl (by omega)) hM).1.trans hWM.1
              obtain ⟨t0, t1, t2, t3, t4, t5, t6⟩ := hJ'.2 k hk
              obtain ⟨u, hu, hu2, hlf⟩ := hWJ.2.2.1 k hk
              refine r_iload_n dX6_countJobs_56 rfl ?_
              refine r_aload_n dX6_countJobs_57 rfl ?_
              refine m_get 1 0 dX6_countJobs_58 fl_X6_58 (ob_jobs hP) rfl ?_
              refine r_icmp_ge 168 dX6_countJobs_61 (by decide) (fun z => absurd z (by rw [hn]; exact nI_ge hk (by omega))) (fun _ => ?_)
              refine r_aload_n dX6_countJobs_64 rfl ?_
              refine m_get 1 1 dX6_countJobs_65 fl_X6_61 (ob_jobs hP) rfl ?_
              refine r_iload_n dX6_countJobs_68 rfl ?_
              refine m_iald k dX6_countJobs_69 (ai_leaf hP) rfl (by omega) (by first | decide | assumption) ?_
              refine s_istore dX6_countJobs_70 (by decide) rfl ?_
              refine r_aload_n dX6_countJobs_72 rfl ?_
              refine m_get 1 5 dX6_countJobs_73 fl_X6_64 (ob_jobs hP) rfl ?_
              refine r_iload_n dX6_countJobs_76 rfl ?_
              refine m_iald k dX6_countJobs_77 (ai_machine hP) rfl (by omega) (by first | decide | assumption) ?_
              refine s_istore dX6_countJobs_78 (by decide) rfl ?_
              rw [t0, t4, hu2]
              refine r_aload_n dX6_countJobs_80 rfl ?_
              refine m_get 5 0 dX6_countJobs_81 fl_X6_38 (ob_place hP) rfl ?_
              refine r_iload dX6_countJobs_84 rfl ?_
              refine m_cv1 dX6_countJobs_86 cv_X6_67 (c_X8_has hP) rfl (ob_tree hP) ⟨_, rfl, rfl⟩ ⟨rfl, rfl⟩ (by decide) (by decide) (Nat.le_of_ble_eq_true rfl) ?_
              refine r_if_ne 95 dX6_countJobs_89 (by decide) (fun _ => ?_) (fun z => absurd z (by rw [bI_t ⟨nI_pos' (by omega), by rw [e4]; exact nI_lt hu (by omega)⟩]; decide))
              refine r_aload_n dX6_countJobs_95 rfl ?_
              refine m_get 1 4 dX6_countJobs_96 fl_X6_71 (ob_jobs hP) rfl ?_
              refine r_iload_n dX6_countJobs_99 rfl ?_
              refine m_iald k dX6_countJobs_100 (ai_state hP) rfl (by omega) (by first | decide | assumption) ?_
              refine r_if_ne 118 dX6_countJobs_101 (by decide) (fun h101 => ?_) (fun h101 => ?_)
              · rw [t3] at h101
                refine r_aload_n dX6_countJobs_118 rfl ?_
                refine m_get 1 4 dX6_countJobs_119 fl_X6_71 (ob_jobs hP) rfl ?_
                refine r_iload_n dX6_countJobs_122 rfl ?_
                refine m_iald _ dX6_countJobs_123 (ai_state hP) (by first | rfl | assumption) (by omega) (by first | decide | assumption) ?_
                refine r_iconst_1 dX6_countJobs_124 ?_
                refine r_icmp_ne 162 dX6_countJobs_125 (by decide) (fun h125 => ?_) (fun h125 => ?_)
                · rw [t3] at h125
                  refine s_iinc dX6_countJobs_162 rfl (by decide) rfl ?_
                  refine r_goto 56 dX6_countJobs_165 (by decide) ?_
                  exact m_sub (ih M' f1 (cj_o f2 h101 h125)) (by simp [a_sub, nI_succ])
                · rw [t3] at h125
                  obtain ⟨m, hm, hm2⟩ := hWJ.2.2.2.2 k hk h125
                  rw [hm2]
                  refine r_aload_n dX6_countJobs_128 rfl ?_
                  refine m_get 5 2 dX6_countJobs_129 fl_X6_74 (ob_place hP) rfl ?_
                  refine r_iload dX6_countJobs_132 rfl ?_
                  refine m_cv1 dX6_countJobs_134 cv_X6_78 (c_X3_has hP) rfl (ob_machines hP) ⟨_, rfl, rfl⟩ ⟨rfl, rfl⟩ (by decide) (by decide) (Nat.le_of_ble_eq_true rfl) ?_
                  refine r_if_eq 162 dX6_countJobs_137 (by decide) (fun z => absurd z (by rw [bI_t ⟨nI_pos' (by omega), by rw [e5]; exact nI_lt hm (by omega)⟩]; decide)) (fun _ => ?_)
                  refine r_aload_n dX6_countJobs_140 rfl ?_
                  refine m_get 6 0 dX6_countJobs_141 fl_X6_9 (ob_scale hP) rfl ?_
                  refine r_iload dX6_countJobs_144 rfl ?_
                  refine r_dup2 dX6_countJobs_146 rfl rfl ?_
                  refine m_iald u dX6_countJobs_147 (ai_load hP) rfl (by omega) (by first | decide | assumption) ?_
                  refine r_iconst_1 dX6_countJobs_148 ?_
                  refine r_iadd dX6_countJobs_149 ?_
                  refine m_iast u dX6_countJobs_150 (ai_load hP) rfl (by omega) (by first | decide | assumption) ?_
                  refine r_aload_n dX6_countJobs_151 rfl ?_
                  refine m_get 6 3 dX6_countJobs_152 fl_X6_21 (ob_scale hP) rfl ?_
                  refine r_iload dX6_countJobs_155 rfl ?_
                  refine r_dup2 dX6_countJobs_157 rfl rfl ?_
                  refine m_iald m dX6_countJobs_158 (ai_busy hP) rfl (by omega) (by first | decide | assumption) ?_
                  refine r_iconst_1 dX6_countJobs_159 ?_
                  refine r_iadd dX6_countJobs_160 ?_
                  refine m_iast m dX6_countJobs_161 (ai_busy hP) rfl (by omega) (by first | decide | assumption) ?_
                  refine s_iinc dX6_countJobs_162 rfl (by decide) rfl ?_
                  refine r_goto 56 dX6_countJobs_165 (by decide) ?_
                  refine m_sub (ih _ (fr_u (fr_u f1 (by omega)) (by omega)) ?_) (by simp [a_sub, nI_succ])
                  rw [mU_n (show p + 27 ≠ p + 24 by omega)]
                  exact cj_r f2 h125 hu2 hu h12 hm2 hm h6
              · rw [t3] at h101
                refine r_aload_n dX6_countJobs_104 rfl ?_
                refine m_get 6 1 dX6_countJobs_105 fl_X6_15 (ob_scale hP) rfl ?_
                refine r_iload dX6_countJobs_108 rfl ?_
                refine r_dup2 dX6_countJobs_110 rfl rfl ?_
                refine m_iald u dX6_countJobs_111 (ai_waiting hP) rfl (by omega) (by first | decide | assumption) ?_
                refine r_iconst_1 dX6_countJobs_112 ?_
                refine r_iadd dX6_countJobs_113 ?_
                refine m_iast u dX6_countJobs_114 (ai_waiting hP) rfl (by omega) (by first | decide | assumption) ?_
                refine r_goto 162 dX6_countJobs_115 (by decide) ?_
                refine s_iinc dX6_countJobs_162 rfl (by decide) rfl ?_
                refine r_goto 56 dX6_countJobs_165 (by decide) ?_
                exact m_sub (ih _ (fr_u f1 (by omega)) (cj_w f2 h101 hu2 hu h12)) (by simp [a_sub, nI_succ])
          exact m_sub (lp3 0 (Nat.zero_le _) M' f1 ⟨fun v hv => ⟨(f2 v (by omega)).1, (f2 v (by omega)).2⟩, fun m hm => f3 m (by omega)⟩) (by simp [a_sub, nI_0])
        · intro k hk ih M' f1 f2 f3 
          refine r_iload_n dX6_countJobs_30 rfl ?_
          refine r_bipush 6 dX6_countJobs_31 (by decide) ?_
          refine r_icmp_ge 49 dX6_countJobs_33 (by decide) (fun z => absurd z (nI_ge hk (by decide))) (fun _ => ?_)
          refine r_aload_n dX6_countJobs_36 rfl ?_
          refine m_get 6 3 dX6_countJobs_37 fl_X6_21 (ob_scale hP) rfl ?_
          refine r_iload_n dX6_countJobs_40 rfl ?_
          refine r_iconst_0 dX6_countJobs_41 ?_
          refine m_iast k dX6_countJobs_42 (ai_busy hP) rfl (by omega) (by first | decide | assumption) ?_
          refine s_iinc dX6_countJobs_43 rfl (by decide) rfl ?_
          refine r_goto 30 dX6_countJobs_46 (by decide) ?_
          refine m_sub (ih _ (fr_u f1 (by omega)) (fun v hv => ?_) (fun v hv => ?_)) (by simp [a_sub, nI_succ])
          · rw [mU_n (by omega), mU_n (by omega)]; exact f2 v hv
          · rw [mU_s]
            by_cases h : v = k
            · rw [h, upd_eq]
            · rw [upd_ne h]; exact f3 v (by omega)
      exact m_sub (lp2 0 (Nat.zero_le _) M' f1 f2 (fun v hv => by omega)) (by simp [a_sub, nI_0])
    · intro k hk ih M' f1 f2 
      refine r_iload_n dX6_countJobs_2 rfl ?_
      refine r_bipush 12 dX6_countJobs_3 (by decide) ?_
      refine r_icmp_ge 28 dX6_countJobs_5 (by decide) (fun z => absurd z (nI_ge hk (by decide))) (fun _ => ?_)
      refine r_aload_n dX6_countJobs_8 rfl ?_
      refine m_get 6 0 dX6_countJobs_9 fl_X6_9 (ob_scale hP) rfl ?_
      refine r_iload_n dX6_countJobs_12 rfl ?_
      refine r_iconst_0 dX6_countJobs_13 ?_
      refine m_iast k dX6_countJobs_14 (ai_load hP) rfl (by omega) (by first | decide | assumption) ?_
      refine r_aload_n dX6_countJobs_15 rfl ?_
      refine m_get 6 1 dX6_countJobs_16 fl_X6_15 (ob_scale hP) rfl ?_
      refine r_iload_n dX6_countJobs_19 rfl ?_
      refine r_iconst_0 dX6_countJobs_20 ?_
      refine m_iast k dX6_countJobs_21 (ai_waiting hP) rfl (by omega) (by first | decide | assumption) ?_
      refine s_iinc dX6_countJobs_22 rfl (by decide) rfl ?_
      refine r_goto 2 dX6_countJobs_25 (by decide) ?_
      refine m_sub (ih _ (fr_u (fr_u f1 (by omega)) (by omega)) (fun v hv => ?_)) (by simp [a_sub, nI_succ])
      by_cases h : v = k
      · subst h; simp [mU, upd]
      · have := f2 v (by omega); simp [mU, upd, h, this]
  exact m_sub (lp1 0 (Nat.zero_le _) M fr_r (fun v hv => by omega)) (by simp [a_sub, nI_0])
end SCALE
