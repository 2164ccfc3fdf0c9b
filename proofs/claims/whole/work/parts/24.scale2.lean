section SCALE2
variable {M : Nat → Nat → Int32} {L : Nat → Nat → Int64} {dd : UInt64} {p : Nat} {a : Nat → Int32}
abbrev tkJ (a : Nat → Int32) (v l : Nat) : Int32 := (if ln a l 1 = nI v then itS a l else 0) - (if ln a l 0 = nI v then itS a l else 0)
theorem tk_step {M' : Nat → Nat → Int32} {c k f t : Nat} {x : Int32} (h : ∀ v, v < nu a → M' c v = bse a v + sumI (tkJ a v) k) (hx : x = itS a k) (hf : f < nu a) (ht : t < nu a) (hft : f ≠ t) (h12 : nu a ≤ 12) (e0 : ln a k 0 = nI f) (e1 : ln a k 1 = nI t) : ∀ v, v < nu a → (mU (mU M' c (upd (M' c) f (M' c f - x))) c (upd (mU M' c (upd (M' c) f (M' c f - x)) c) t (mU M' c (upd (M' c) f (M' c f - x)) c t + x))) c v = bse a v + sumI (tkJ a v) (k + 1) := by
  intro v hv
  subst hx
  rw [mU_s, mU_s, sumI]
  have z0 : nI f = nI v ↔ f = v := nI_eq (by omega) (by omega)
  have z1 : nI t = nI v ↔ t = v := nI_eq (by omega) (by omega)
  simp only [tkJ, e0, e1, z0, z1]
  have g := h v hv
  by_cases h1 : v = t
  · subst h1
    rw [upd_eq, upd_ne (fun z => hft z.symm), g, if_pos rfl, if_neg hft]
    grind
  · rw [upd_ne h1, if_neg (fun z => h1 z.symm)]
    by_cases h2 : v = f
    · subst h2
      rw [upd_eq, g, if_pos rfl]
      grind
    · rw [upd_ne h2, if_neg (fun z => h2 z.symm), g]
      grind
theorem c_X6_dealTickets {T : Nat} (hP : PL p) (hQ : QP M p a) (hW : WF T a) : PO yX6_dealTickets I_X6_dealTickets [.ref (p + 23), .ref p] M L dd none (fun M' L' => L' = L ∧ Fr (p + 26) (p + 27) M M' ∧ ∀ u, u < nu a → M' (p + 26) u = tkS a u) := by
  obtain ⟨hT, hB, hL, hM, hJ, hQS⟩ := hQ
  obtain ⟨wU, wUse, wM, wJ, wL, wS⟩ := hW
  refine po_mk (fun Q hq => ?_)
  refine a_met (by decide +kernel) rfl rfl (Nat.le_of_ble_eq_true rfl) (by simp [Value.category]) (by decide) rfl ?_
  show AW I_X6_dealTickets 0 [.ref (p + 23), .ref p, .null, .null, .null, .null, .null, .null] [] (hS M L dd) 0 0 Q
  have h12 := wU.2.2.1
  have h8 := wL.2.1
  have hn0 := wL.1
  refine r_aload_n dX6_dealTickets_0 rfl ?_
  refine m_get 5 0 dX6_dealTickets_1 fl_X6_38 (ob_place hP) rfl ?_
  refine s_astore_n 2 dX6_dealTickets_4 (by decide) rfl rfl ?_
  refine r_aload_n dX6_dealTickets_5 rfl ?_
  refine m_get 5 1 dX6_dealTickets_6 fl_X6_81 (ob_place hP) rfl ?_
  refine s_astore_n 3 dX6_dealTickets_9 (by decide) rfl rfl ?_
  refine r_aload_n dX6_dealTickets_10 rfl ?_
  refine m_get 8 4 dX6_dealTickets_11 fl_X6_85 (ob_tree hP) rfl ?_
  refine r_iconst_0 dX6_dealTickets_14 ?_
  refine r_aload_n dX6_dealTickets_15 rfl ?_
  refine m_get 6 2 dX6_dealTickets_16 fl_X6_18 (ob_scale hP) rfl ?_
  refine r_iconst_0 dX6_dealTickets_19 ?_
  refine r_bipush 12 dX6_dealTickets_20 (by decide) ?_
  refine m_copy 12 dX6_dealTickets_22 ac_X6_88 (ai_base hP) (ai_tickets hP) (by decide) (by decide) (by decide) (by decide) (by decide) (Nat.le_of_ble_eq_true rfl) ?_
  refine r_iconst_0 dX6_dealTickets_25 ?_
  refine s_istore dX6_dealTickets_26 (by decide) rfl ?_
  refine m_abs (fun M2 => Fr (p + 26) (p + 27) M M2 ∧ ∀ u, u < nu a → M2 (p + 26) u = bse a u) ⟨fr_u fr_r (by omega), fun u hu => by rw [mU_s, if_pos (by omega)]; exact hB u hu⟩ (fun M2 ⟨f2, b2⟩ => ?_)
  have lp1 : ∀ k, k ≤ nl a → ∀ M' : Nat → Nat → Int32, Fr (p + 26) (p + 27) M M' → (∀ v, v < nu a → M' (p + 26) v = bse a v + sumI (tkJ a v) k) → AW I_X6_dealTickets 28 [.ref (p + 23), .ref p, .ref (p + 1), .ref (p + 6), .int (nI k), .null, .null, .null] [] (hS M' L dd) 0 0 Q := by
    refine lp_up _ ?_ ?_
    · intro M' f1 f2 
      have hn := (ql_f f1 (Or.inl (by omega)) hL).1.trans hn0
      refine r_iload dX6_dealTickets_28 rfl ?_
      refine r_aload_n dX6_dealTickets_30 rfl ?_
      refine m_get 2 0 dX6_dealTickets_31 fl_X6_94 (ob_loans hP) rfl ?_
      refine r_icmp_ge 136 dX6_dealTickets_34 (by decide) (fun _ => ?_) (fun z => absurd (by rw [hn]; exact nI_le (Nat.le_refl _) (by omega)) z)
      refine r_iconst_0 dX6_dealTickets_136 ?_
      refine s_istore dX6_dealTickets_137 (by decide) rfl ?_
      have lp2 : ∀ k, k ≤ nu a → ∀ M' : Nat → Nat → Int32, Fr (p + 26) (p + 27) M M' → (∀ v, v < nu a → M' (p + 26) v = if v < k then tkS a v else tkR a v) → AW I_X6_dealTickets 139 [.ref (p + 23), .ref p, .ref (p + 1), .ref (p + 6), .int (nI k), .null, .null, .null] [] (hS M' L dd) 0 0 Q := by
        refine lp_up _ ?_ ?_
        · intro M' f1 f2 
          have e4 := (rt_fr hT f1 (Or.inl (by omega))).1.trans wU.1
          refine r_iload dX6_dealTickets_139 rfl ?_
          refine r_aload_n dX6_dealTickets_141 rfl ?_
          refine m_get 8 0 dX6_dealTickets_142 fl_X6_44 (ob_tree hP) rfl ?_
          refine r_icmp_ge 172 dX6_dealTickets_145 (by decide) (fun _ => ?_) (fun z => absurd (by rw [e4]; exact nI_le (Nat.le_refl _) (by omega)) z)
          exact r_vret dX6_dealTickets_172 rfl (hq _ _ ⟨rfl, f1, fun u hu => by rw [f2 u hu, if_pos hu]⟩)
        · intro k hk ih M' f1 f2 
          have e4 := (rt_fr hT f1 (Or.inl (by omega))).1.trans wU.1
          have g := f2 k hk
          rw [if_neg (by omega)] at g
          refine r_iload dX6_dealTickets_139 rfl ?_
          refine r_aload_n dX6_dealTickets_141 rfl ?_
          refine m_get 8 0 dX6_dealTickets_142 fl_X6_44 (ob_tree hP) rfl ?_
          refine r_icmp_ge 172 dX6_dealTickets_145 (by decide) (fun z => absurd z (by rw [e4]; exact nI_ge hk (by omega))) (fun _ => ?_)
          refine r_aload_n dX6_dealTickets_148 rfl ?_
          refine m_get 6 2 dX6_dealTickets_149 fl_X6_18 (ob_scale hP) rfl ?_
          refine r_iload dX6_dealTickets_152 rfl ?_
          refine r_iconst_0 dX6_dealTickets_154 ?_
          refine r_aload_n dX6_dealTickets_155 rfl ?_
          refine m_get 6 2 dX6_dealTickets_156 fl_X6_18 (ob_scale hP) rfl ?_
          refine r_iload dX6_dealTickets_159 rfl ?_
          refine m_iald k dX6_dealTickets_161 (ai_tickets hP) rfl (by omega) (by first | decide | assumption) ?_
          refine r_mmax dX6_dealTickets_162 k_769 k_770 k_18 k_771 (by decide) (Nat.le_of_ble_eq_true rfl) ?_
          refine m_iast k dX6_dealTickets_165 (ai_tickets hP) rfl (by omega) (by first | decide | assumption) ?_
          refine s_iinc dX6_dealTickets_166 rfl (by decide) rfl ?_
          refine r_goto 139 dX6_dealTickets_169 (by decide) ?_
          refine m_sub (ih _ (fr_u f1 (by omega)) (fun v hv => ?_)) (by simp [a_sub, nI_succ])
          rw [mU_s]
          by_cases h : v = k
          · subst h; rw [upd_eq, g, if_pos (Nat.lt_succ_self v)]; rfl
          · rw [upd_ne h, f2 v hv]
            by_cases h5 : v < k
            · rw [if_pos h5, if_pos (by omega)]
            · rw [if_neg h5, if_neg (by omega)]
      exact m_sub (lp2 0 (Nat.zero_le _) M' f1 (fun v hv => by rw [if_neg (by omega)]; exact f2 v hv)) (by simp [a_sub, nI_0])
    · intro k hk ih M' f1 f2 
      have hL' := ql_f f1 (Or.inl (by omega)) hL
      have hn := hL'.1.trans hn0
      have e4 := (rt_fr hT f1 (Or.inl (by omega))).1.trans wU.1
      obtain ⟨t0, t1, t2, t3, t4⟩ := hL'.2 k hk
      obtain ⟨f, t, b, q, w1, w2, w3, -, -, w4, w5, -⟩ := wL.2.2.1 k hk
      have e6 : M' p 6 = a 0 := by rw [f1 p (by omega)]; exact hQS.2.2.2.1
      refine r_iload dX6_dealTickets_28 rfl ?_
      refine r_aload_n dX6_dealTickets_30 rfl ?_
      refine m_get 2 0 dX6_dealTickets_31 fl_X6_94 (ob_loans hP) rfl ?_
      refine r_icmp_ge 136 dX6_dealTickets_34 (by decide) (fun z => absurd z (by rw [hn]; exact nI_ge hk (by omega))) (fun _ => ?_)
      refine r_aload_n dX6_dealTickets_37 rfl ?_
      refine m_get 2 1 dX6_dealTickets_38 fl_X6_97 (ob_loans hP) rfl ?_
      refine r_iload dX6_dealTickets_41 rfl ?_
      refine m_iald k dX6_dealTickets_43 (ai_from hP) rfl (by omega) (by first | decide | assumption) ?_
      refine s_istore dX6_dealTickets_44 (by decide) rfl ?_
      refine r_aload_n dX6_dealTickets_46 rfl ?_
      refine m_get 2 2 dX6_dealTickets_47 fl_X6_100 (ob_loans hP) rfl ?_
      refine r_iload dX6_dealTickets_50 rfl ?_
      refine m_iald k dX6_dealTickets_52 (ai_to hP) rfl (by omega) (by first | decide | assumption) ?_
      refine s_istore dX6_dealTickets_53 (by decide) rfl ?_
      rw [t0, t1, w4, w5]
      refine r_aload_n dX6_dealTickets_55 rfl ?_
      refine r_iload dX6_dealTickets_56 rfl ?_
      refine m_cv1 dX6_dealTickets_58 cv_X6_67 (c_X8_has hP) rfl (ob_tree hP) ⟨_, rfl, rfl⟩ ⟨rfl, rfl⟩ (by decide) (by decide) (Nat.le_of_ble_eq_true rfl) ?_
      refine r_if_eq 130 dX6_dealTickets_61 (by decide) (fun z => absurd z (by rw [bI_t ⟨nI_pos' (by omega), by rw [e4]; exact nI_lt w1 (by omega)⟩]; decide)) (fun _ => ?_)
      refine r_aload_n dX6_dealTickets_64 rfl ?_
      refine r_iload dX6_dealTickets_65 rfl ?_
      refine m_cv1 dX6_dealTickets_67 cv_X6_67 (c_X8_has hP) rfl (ob_tree hP) ⟨_, rfl, rfl⟩ ⟨rfl, rfl⟩ (by decide) (by decide) (Nat.le_of_ble_eq_true rfl) ?_
      refine r_if_eq 130 dX6_dealTickets_70 (by decide) (fun z => absurd z (by rw [bI_t ⟨nI_pos' (by omega), by rw [e4]; exact nI_lt w2 (by omega)⟩]; decide)) (fun _ => ?_)
      refine r_aload_n dX6_dealTickets_73 rfl ?_
      refine r_iload dX6_dealTickets_74 rfl ?_
      refine r_aload_n dX6_dealTickets_76 rfl ?_
      refine m_get 5 6 dX6_dealTickets_77 fl_X6_103 (ob_place hP) rfl ?_
      refine m_cv2 dX6_dealTickets_80 cv_X6_106 (c_X2_isLent hP hL' hn0 h8 hk) rfl (ob_loans hP) ⟨_, rfl, rfl⟩ ⟨rfl, rfl⟩ (by decide) (by decide) (Nat.le_of_ble_eq_true rfl) ?_
      refine r_if_eq 96 dX6_dealTickets_83 (by decide) (fun h83 => ?_) (fun h83 => ?_)
      · refine r_aload_n dX6_dealTickets_96 rfl ?_
        refine m_get 2 3 dX6_dealTickets_97 fl_X6_110 (ob_loans hP) rfl ?_
        refine r_iload dX6_dealTickets_100 rfl ?_
        refine m_iald k dX6_dealTickets_102 (ai_ltickets hP) rfl (by omega) (by first | decide | assumption) ?_
        refine r_ineg dX6_dealTickets_103 ?_
        refine s_istore dX6_dealTickets_104 (by decide) rfl ?_
        refine r_aload_n dX6_dealTickets_106 rfl ?_
        refine m_get 6 2 dX6_dealTickets_107 fl_X6_18 (ob_scale hP) rfl ?_
        refine r_iload dX6_dealTickets_110 rfl ?_
        refine r_dup2 dX6_dealTickets_112 rfl rfl ?_
        refine m_iald f dX6_dealTickets_113 (ai_tickets hP) rfl (by omega) (by first | decide | assumption) ?_
        refine r_iload dX6_dealTickets_114 rfl ?_
        refine r_isub dX6_dealTickets_116 ?_
        refine m_iast f dX6_dealTickets_117 (ai_tickets hP) rfl (by omega) (by first | decide | assumption) ?_
        refine r_aload_n dX6_dealTickets_118 rfl ?_
        refine m_get 6 2 dX6_dealTickets_119 fl_X6_18 (ob_scale hP) rfl ?_
        refine r_iload dX6_dealTickets_122 rfl ?_
        refine r_dup2 dX6_dealTickets_124 rfl rfl ?_
        refine m_iald t dX6_dealTickets_125 (ai_tickets hP) rfl (by omega) (by first | decide | assumption) ?_
        refine r_iload dX6_dealTickets_126 rfl ?_
        refine r_iadd dX6_dealTickets_128 ?_
        refine m_iast t dX6_dealTickets_129 (ai_tickets hP) rfl (by omega) (by first | decide | assumption) ?_
        refine s_iinc dX6_dealTickets_130 rfl (by decide) rfl ?_
        refine r_goto 28 dX6_dealTickets_133 (by decide) ?_
        refine m_sub (ih _ (fr_u (fr_u f1 (by omega)) (by omega)) (tk_step f2 ?_ w1 w2 w3 h12 w4 w5)) (by simp [a_sub, nI_succ]); rw [bI_0, e6] at h83; unfold itS; first | rw [if_neg h83, t2] | rw [if_pos (Decidable.not_not.mp h83), t2]
      · refine r_aload_n dX6_dealTickets_86 rfl ?_
        refine m_get 2 3 dX6_dealTickets_87 fl_X6_110 (ob_loans hP) rfl ?_
        refine r_iload dX6_dealTickets_90 rfl ?_
        refine m_iald k dX6_dealTickets_92 (ai_ltickets hP) rfl (by omega) (by first | decide | assumption) ?_
        refine r_goto 104 dX6_dealTickets_93 (by decide) ?_
        refine s_istore dX6_dealTickets_104 (by decide) rfl ?_
        refine r_aload_n dX6_dealTickets_106 rfl ?_
        refine m_get 6 2 dX6_dealTickets_107 fl_X6_18 (ob_scale hP) rfl ?_
        refine r_iload dX6_dealTickets_110 rfl ?_
        refine r_dup2 dX6_dealTickets_112 rfl rfl ?_
        refine m_iald f dX6_dealTickets_113 (ai_tickets hP) rfl (by omega) (by first | decide | assumption) ?_
        refine r_iload dX6_dealTickets_114 rfl ?_
        refine r_isub dX6_dealTickets_116 ?_
        refine m_iast f dX6_dealTickets_117 (ai_tickets hP) rfl (by omega) (by first | decide | assumption) ?_
        refine r_aload_n dX6_dealTickets_118 rfl ?_
        refine m_get 6 2 dX6_dealTickets_119 fl_X6_18 (ob_scale hP) rfl ?_
        refine r_iload dX6_dealTickets_122 rfl ?_
        refine r_dup2 dX6_dealTickets_124 rfl rfl ?_
        refine m_iald t dX6_dealTickets_125 (ai_tickets hP) rfl (by omega) (by first | decide | assumption) ?_
        refine r_iload dX6_dealTickets_126 rfl ?_
        refine r_iadd dX6_dealTickets_128 ?_
        refine m_iast t dX6_dealTickets_129 (ai_tickets hP) rfl (by omega) (by first | decide | assumption) ?_
        refine s_iinc dX6_dealTickets_130 rfl (by decide) rfl ?_
        refine r_goto 28 dX6_dealTickets_133 (by decide) ?_
        refine m_sub (ih _ (fr_u (fr_u f1 (by omega)) (by omega)) (tk_step f2 ?_ w1 w2 w3 h12 w4 w5)) (by simp [a_sub, nI_succ]); rw [bI_0, e6] at h83; unfold itS; first | rw [if_neg h83, t2] | rw [if_pos (Decidable.not_not.mp h83), t2]
  exact m_sub (lp1 0 (Nat.zero_le _) M2 f2 (fun v hv => by rw [b2 v hv]; simp [sumI])) (by simp [a_sub, nI_0])
theorem c_X6_survey {T : Nat} (hP : PL p) (hQ : QP M p a) (hW : WF T a) : PO yX6_survey I_X6_survey [.ref (p + 23), .ref p] M L dd none (fun M' L' => Fr (p + 24) (p + 28) M M' ∧ FrL (p + 28) (p + 30) L L' ∧ QC M' L' p a ∧ ∀ u, u < nu a → M' (p + 25) u = waS a u) := by
  have hT := hQ.1
  have wU := hW.1
  have h12 := wU.2.2.1
  refine po_mk (fun Q hq => ?_)
  refine a_met (by decide +kernel) rfl rfl (Nat.le_of_ble_eq_true rfl) (by simp [Value.category]) (by decide) rfl ?_
  show AW I_X6_survey 0 [.ref (p + 23), .ref p, .null] [] (hS M L dd) 0 0 Q
  refine r_aload_n dX6_survey_0 rfl ?_
  refine r_aload_n dX6_survey_1 rfl ?_
  refine m_pv1 dX6_survey_2 cv_X6_31 (c_X6_countJobs hP hQ.1 hQ.2.2.2.1 hQ.2.2.2.2.1 hW.1 hW.2.2.1 hW.2.2.2.1) (ob_scale hP) ⟨_, rfl, rfl⟩ ⟨rfl, rfl⟩ (by decide) (by decide) (Nat.le_of_ble_eq_true rfl) (fun M1 L1 ⟨x1, x2, x3⟩ => ?_)
  subst x1
  refine r_aload_n dX6_survey_5 rfl ?_
  refine r_aload_n dX6_survey_6 rfl ?_
  refine m_pv1 dX6_survey_7 cv_X6_35 (c_X6_dealTickets hP (qp_f2 x2 hQ) hW) (ob_scale hP) ⟨_, rfl, rfl⟩ ⟨rfl, rfl⟩ (by decide) (by decide) (Nat.le_of_ble_eq_true rfl) (fun M2 L2 ⟨y1, y2, y3⟩ => ?_)
  refine r_iconst_0 dX6_survey_10 ?_
  refine s_istore_n 2 dX6_survey_11 (by decide) rfl rfl ?_
  subst y1
  have hF : Fr (p + 24) (p + 28) M M2 := fr_t x2 (fr_w y2 (by omega) (by omega))
  have hC : CJ M2 p a (nj a) := by
    unfold CJ
    rw [y2 (p + 24) (by omega), y2 (p + 25) (by omega), y2 (p + 27) (by omega)]
    exact x3
  have hT2 := rt_fr hT hF (Or.inl (by omega))
  have e4 := hT2.1.trans wU.1
  have lp : ∀ k, k ≤ nu a → ∀ L' : Nat → Nat → Int64, FrL (p + 28) (p + 30) L2 L' → (∀ v, v < k → L' (p + 28) v = wnS a v ∧ L' (p + 29) v = wwS a v) → AW I_X6_survey 12 [.ref (p + 23), .ref p, .int (nI k)] [] (hS M2 L' dd) 0 0 Q := by
    refine lp_up _ ?_ ?_
    · intro L' f1 f2 
      refine r_iload_n dX6_survey_12 rfl ?_
      refine r_aload_n dX6_survey_13 rfl ?_
      refine m_get 5 0 dX6_survey_14 fl_X6_38 (ob_place hP) rfl ?_
      refine m_get 8 0 dX6_survey_17 fl_X6_44 (ob_tree hP) rfl ?_
      refine r_icmp_ge 38 dX6_survey_20 (by decide) (fun _ => ?_) (fun z => absurd (by rw [e4]; exact nI_le (Nat.le_refl _) (by omega)) z)
      exact r_vret dX6_survey_38 rfl (hq _ _ ⟨hF, f1, ⟨fun u hu => ⟨(hC.1 u hu).1, y3 u hu, f2 u hu⟩, hC.2⟩, fun u hu => (hC.1 u hu).2⟩)
    · intro k hk ih L' f1 f2 
      refine r_iload_n dX6_survey_12 rfl ?_
      refine r_aload_n dX6_survey_13 rfl ?_
      refine m_get 5 0 dX6_survey_14 fl_X6_38 (ob_place hP) rfl ?_
      refine m_get 8 0 dX6_survey_17 fl_X6_44 (ob_tree hP) rfl ?_
      refine r_icmp_ge 38 dX6_survey_20 (by decide) (fun z => absurd z (by rw [e4]; exact nI_ge hk (by omega))) (fun _ => ?_)
      refine r_aload_n dX6_survey_23 rfl ?_
      refine r_aload_n dX6_survey_24 rfl ?_
      refine m_get 5 0 dX6_survey_25 fl_X6_38 (ob_place hP) rfl ?_
      refine r_iload_n dX6_survey_28 rfl ?_
      refine m_pv2 dX6_survey_29 cv_X6_50 (c_X6_weigh hP hT2 wU hk) (ob_scale hP) ⟨_, rfl, rfl⟩ ⟨rfl, rfl⟩ (by decide) (by decide) (Nat.le_of_ble_eq_true rfl) (fun M3 L3 ⟨z1, z2, z3, z4, z5⟩ => ?_)
      subst z1
      refine s_iinc dX6_survey_32 rfl (by decide) rfl ?_
      refine r_goto 12 dX6_survey_35 (by decide) ?_
      refine m_sub (ih L3 (fr_Lt f1 z2) (fun v hv => ?_)) (by simp [a_sub, nI_succ])
      by_cases h : v = k
      · subst h
        rw [z4, z5, y3 v hk, (hC.1 v hk).1]
        exact ⟨rfl, rfl⟩
      · rw [(z3 v h).1, (z3 v h).2]; exact f2 v (by omega)
  exact m_sub (lp 0 (Nat.zero_le _) _ fr_Lr (fun v hv => by omega)) (by simp [a_sub, nI_0])
theorem c_X6_shift {u m : Nat} {by' : Int32} {b : Nat → Int32} (hP : PL p) (hT : QT M p a) (hM : QM M p a) (wU : WU a) (wM : WM a) (hC : QC M L p a) (hu : u < nu a) (hm : m < nm a) (e1 : nu b = nu a) (e2 : nm b = nm a) (e3 : ∀ v, v < nu a → loS b v = if v = u then loS a v + by' else loS a v) (e4 : ∀ v, v < nm a → buS b v = if v = m then buS a v + by' else buS a v) (e5 : ∀ v, v < nu a → tkS b v = tkS a v ∧ b (34 + v) = a (34 + v)) : PO yX6_shift I_X6_shift [.ref (p + 23), .ref p, .int (nI u), .int (nI m), .int by'] M L dd none (fun M' L' => Fr (p + 24) (p + 28) M M' ∧ FrL (p + 28) (p + 30) L L' ∧ QC M' L' p b) := by
  have h12 := wU.2.2.1
  have h6 := wM.2.1
  have n4 := hT.1.trans wU.1
  have n5 := hM.1.trans wM.1
  refine po_mk (fun Q hq => ?_)
  refine a_met (by decide +kernel) rfl rfl (Nat.le_of_ble_eq_true rfl) (by simp [Value.category]) (by decide) rfl ?_
  show AW I_X6_shift 0 [.ref (p + 23), .ref p, .int (nI u), .int (nI m), .int by'] [] (hS M L dd) 0 0 Q
  refine r_aload_n dX6_shift_0 rfl ?_
  refine m_get 5 0 dX6_shift_1 fl_X6_38 (ob_place hP) rfl ?_
  refine r_iload_n dX6_shift_4 rfl ?_
  refine m_cv1 dX6_shift_5 cv_X6_67 (c_X8_has hP) rfl (ob_tree hP) ⟨_, rfl, rfl⟩ ⟨rfl, rfl⟩ (by decide) (by decide) (Nat.le_of_ble_eq_true rfl) ?_
  refine r_if_eq 53 dX6_shift_8 (by decide) (fun z => absurd z (by rw [bI_t ⟨nI_pos' (by omega), by rw [n4]; exact nI_lt hu (by omega)⟩]; decide)) (fun _ => ?_)
  refine r_aload_n dX6_shift_11 rfl ?_
  refine m_get 5 2 dX6_shift_12 fl_X6_74 (ob_place hP) rfl ?_
  refine r_iload_n dX6_shift_15 rfl ?_
  refine m_cv1 dX6_shift_16 cv_X6_78 (c_X3_has hP) rfl (ob_machines hP) ⟨_, rfl, rfl⟩ ⟨rfl, rfl⟩ (by decide) (by decide) (Nat.le_of_ble_eq_true rfl) ?_
  refine r_if_eq 53 dX6_shift_19 (by decide) (fun z => absurd z (by rw [bI_t ⟨nI_pos' (by omega), by rw [n5]; exact nI_lt hm (by omega)⟩]; decide)) (fun _ => ?_)
  refine r_aload_n dX6_shift_22 rfl ?_
  refine m_get 6 0 dX6_shift_23 fl_X6_9 (ob_scale hP) rfl ?_
  refine r_iload_n dX6_shift_26 rfl ?_
  refine r_dup2 dX6_shift_27 rfl rfl ?_
  refine m_iald u dX6_shift_28 (ai_load hP) rfl (by omega) (by first | decide | assumption) ?_
  refine r_iload dX6_shift_29 rfl ?_
  refine r_iadd dX6_shift_31 ?_
  refine m_iast u dX6_shift_32 (ai_load hP) rfl (by omega) (by first | decide | assumption) ?_
  refine r_aload_n dX6_shift_33 rfl ?_
  refine m_get 6 3 dX6_shift_34 fl_X6_21 (ob_scale hP) rfl ?_
  refine r_iload_n dX6_shift_37 rfl ?_
  refine r_dup2 dX6_shift_38 rfl rfl ?_
  refine m_iald m dX6_shift_39 (ai_busy hP) rfl (by omega) (by first | decide | assumption) ?_
  refine r_iload dX6_shift_40 rfl ?_
  refine r_iadd dX6_shift_42 ?_
  refine m_iast m dX6_shift_43 (ai_busy hP) rfl (by omega) (by first | decide | assumption) ?_
  refine r_aload_n dX6_shift_44 rfl ?_
  refine r_aload_n dX6_shift_45 rfl ?_
  refine m_get 5 0 dX6_shift_46 fl_X6_38 (ob_place hP) rfl ?_
  refine r_iload_n dX6_shift_49 rfl ?_
  refine m_abs (fun M2 => Fr (p + 24) (p + 28) M M2 ∧ (∀ v, v < nu a → M2 (p + 24) v = loS b v ∧ M2 (p + 26) v = M (p + 26) v) ∧ (∀ v, v < nm a → M2 (p + 27) v = buS b v)) ⟨fr_u (fr_u fr_r (by omega)) (by omega), fun v hv => ?_, fun v hv => ?_⟩ (fun M2 ⟨f2, g2, g3⟩ => ?_)
  · rw [mU_n (show p + 24 ≠ p + 27 by omega), mU_s, mU_n (show p + 26 ≠ p + 27 by omega), mU_n (show p + 26 ≠ p + 24 by omega), e3 v hv]
    refine ⟨?_, rfl⟩
    by_cases h : v = u
    · subst h; rw [upd_eq, if_pos rfl, (hC.1 v hv).1]
    · rw [upd_ne h, if_neg h, (hC.1 v hv).1]
  · rw [mU_s, e4 v hv]
    by_cases h : v = m
    · subst h; rw [upd_eq, if_pos rfl, mU_n (show p + 27 ≠ p + 24 by omega), hC.2 v hv]
    · rw [upd_ne h, if_neg h, mU_n (show p + 27 ≠ p + 24 by omega), hC.2 v hv]
  have hT2 := rt_fr hT f2 (Or.inl (by omega))
  refine m_pv2 dX6_shift_50 cv_X6_50 (c_X6_weigh hP hT2 wU hu) (ob_scale hP) ⟨_, rfl, rfl⟩ ⟨rfl, rfl⟩ (by decide) (by decide) (Nat.le_of_ble_eq_true rfl) (fun M3 L3 ⟨z1, z2, z3, z4, z5⟩ => ?_)
  subst z1
  refine r_vret dX6_shift_53 rfl (hq _ _ ⟨f2, z2, ⟨fun v hv => ?_, fun v hv => ?_⟩⟩)
  · rw [e1] at hv
    obtain ⟨q1, q2, q3, q4⟩ := hC.1 v hv
    obtain ⟨q5, q6⟩ := e5 v hv
    refine ⟨(g2 v hv).1, by rw [(g2 v hv).2, q2, q5], ?_⟩
    unfold wnS wwS
    rw [q5, q6]
    by_cases h : v = u
    · subst h
      rw [z4, z5, (g2 v hv).1, (g2 v hv).2, q2]
      exact ⟨rfl, rfl⟩
    · rw [(z3 v h).1, (z3 v h).2, q3, q4, e3 v hv, if_neg h]
      exact ⟨rfl, rfl⟩
  · rw [e2] at hv; exact g3 v hv
end SCALE2
