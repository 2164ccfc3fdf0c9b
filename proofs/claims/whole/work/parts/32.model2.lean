section MODEL2
variable {M : Nat → Nat → Int32} {L : Nat → Nat → Int64} {dd : UInt64} {a : Nat → Int32}
theorem c_X10_baseOf (hA : M 318 = a) (hW : WU a) : ∀ d u : Nat, u < nu a → u < d → AD yX10_baseOf (I_X10_baseOf d) [.ref 317, .int (nI u)] (hS M L dd) (.inl (some (.int (bse a u)))) (hS M L dd) := by
  subst hA
  intro d
  have h12 := hW.2.2.1
  have h0 := hW.1
  induction d with
  | zero => intro u _ h; omega
  | succ d ihd =>
    intro u hu hd
    intro Q hq
    refine a_met (by decide +kernel) rfl rfl (Nat.le_of_ble_eq_true rfl) (by simp [Value.category]) (fun z => (Bool.false_ne_true z).elim) rfl ?_
    show AW (I_X10_baseOf (d + 1)) 0 [.ref 317, .int (nI u), .null, .null] [] (hS M L dd) 0 0 Q
    by_cases hz : u = 0
    · subst hz
      refine r_iload_n dX10_baseOf_0 rfl ?_
      refine r_if_ne 7 dX10_baseOf_1 (by decide) (fun z => absurd (show nI 0 = 0 from rfl) z) (fun _ => ?_)
      refine r_ldc 1000000 dX10_baseOf_4 k_1382 ?_
      exact e_iret dX10_baseOf_6 rfl hq (rfl)
    · obtain ⟨q, hq2, hpq⟩ := hW.2.2.2.2.1 u (by omega) hu
      obtain ⟨B, s, S, g1, g2, g3, g4, g5, g6, g7, g8, g9⟩ := bse_step hW (by omega) hu hpq hq2
      have g3' : sumI (fun k => if k = 0 then 0 else if M 318 (10 + k) = nI q then M 318 (22 + k) else 0) (nu (M 318)) = nI S := g3
      have hne : ¬ (sumI (fun k => if k = 0 then 0 else if M 318 (10 + k) = nI q then M 318 (22 + k) else 0) (nu (M 318))).toInt64 = 0 := by
        intro z
        have e2 := congrArg Int64.toInt z
        rw [g3', nI_l (by omega), lN_toInt (by omega)] at e2
        have e3 : (0 : Int64).toInt = 0 := by decide
        omega
      refine r_iload_n dX10_baseOf_0 rfl ?_
      refine r_if_ne 7 dX10_baseOf_1 (by decide) (fun _ => ?_) (fun z => absurd z (nI_ne0 (by omega) (by omega)))
      refine r_iconst_0 dX10_baseOf_7 ?_
      refine s_istore_n 2 dX10_baseOf_8 (Nat.le_of_ble_eq_true rfl) rfl rfl ?_
      refine r_iconst_1 dX10_baseOf_9 ?_
      refine s_istore_n 3 dX10_baseOf_10 (Nat.le_of_ble_eq_true rfl) rfl rfl ?_
      have lp : ∀ k, k ≤ nu (M 318) → 1 ≤ k → AW (I_X10_baseOf (d + 1)) 11 [.ref 317, .int (nI u), .int (sumI (fun k => if k = 0 then 0 else if M 318 (10 + k) = nI q then M 318 (22 + k) else 0) k), .int (nI k)] [] (hS M L dd) 0 0 Q := by
        refine lp_up _ ?_ ?_
        · intro h1 
          refine r_iload_n dX10_baseOf_11 rfl ?_
          refine r_aload_n dX10_baseOf_12 rfl ?_
          refine m_get 10 0 dX10_baseOf_13 fl_X10_7 ob_model rfl ?_
          refine r_iconst_4 dX10_baseOf_16 ?_
          refine m_iald 4 dX10_baseOf_17 ai_a rfl (by omega) (by first | decide | assumption) ?_
          refine r_icmp_ge 64 dX10_baseOf_18 (by decide) (fun _ => ?_) (fun z => absurd (by rw [h0]; exact nI_le (Nat.le_refl _) (by omega)) z)
          refine r_aload_n dX10_baseOf_64 rfl ?_
          refine r_aload_n dX10_baseOf_65 rfl ?_
          refine m_get 10 0 dX10_baseOf_66 fl_X10_7 ob_model rfl ?_
          refine r_bipush 10 dX10_baseOf_69 (by decide) ?_
          refine r_iload_n dX10_baseOf_71 rfl ?_
          refine r_iadd dX10_baseOf_72 ?_
          refine m_iald (10 + u) dX10_baseOf_73 ai_a (nI_add 10 u) (by omega) (by first | decide | assumption) ?_
          rw [hpq]
          refine m_cv1 dX10_baseOf_74 (cv_X10_182 _) (ihd q (by omega) (by omega)) rfl ob_model ⟨_, rfl, rfl⟩ ⟨rfl, rfl⟩ (Nat.le_refl _) (Nat.le_of_ble_eq_true rfl) (Nat.le_of_ble_eq_true rfl) ?_
          refine r_i2l dX10_baseOf_77 ?_
          refine r_aload_n dX10_baseOf_78 rfl ?_
          refine m_get 10 0 dX10_baseOf_79 fl_X10_7 ob_model rfl ?_
          refine r_bipush 22 dX10_baseOf_82 (by decide) ?_
          refine r_iload_n dX10_baseOf_84 rfl ?_
          refine r_iadd dX10_baseOf_85 ?_
          refine m_iald (22 + u) dX10_baseOf_86 ai_a (nI_add 22 u) (by omega) (by first | decide | assumption) ?_
          refine r_i2l dX10_baseOf_87 ?_
          refine r_lmul dX10_baseOf_88 ?_
          refine r_iload_n dX10_baseOf_89 rfl ?_
          refine r_i2l dX10_baseOf_90 ?_
          refine r_ldiv dX10_baseOf_91 hne ?_
          refine r_l2i dX10_baseOf_92 ?_
          exact e_iret dX10_baseOf_93 rfl hq (by rw [g1, g2, g3', nI_l (by omega), nI_l (by omega), nI_l (by omega), lN_mul, lN_div (Nat.lt_of_le_of_lt (Nat.mul_le_mul g8 g5) (by decide)) (by omega) (by omega), lN_i, g9])
        · intro k hk ih h1 
          have h3 : ¬ k = 0 := by omega
          refine r_iload_n dX10_baseOf_11 rfl ?_
          refine r_aload_n dX10_baseOf_12 rfl ?_
          refine m_get 10 0 dX10_baseOf_13 fl_X10_7 ob_model rfl ?_
          refine r_iconst_4 dX10_baseOf_16 ?_
          refine m_iald 4 dX10_baseOf_17 ai_a rfl (by omega) (by first | decide | assumption) ?_
          refine r_icmp_ge 64 dX10_baseOf_18 (by decide) (fun z => absurd z (by rw [h0]; exact nI_ge hk (by omega))) (fun _ => ?_)
          refine r_iload_n dX10_baseOf_21 rfl ?_
          refine r_aload_n dX10_baseOf_22 rfl ?_
          refine m_get 10 0 dX10_baseOf_23 fl_X10_7 ob_model rfl ?_
          refine r_bipush 10 dX10_baseOf_26 (by decide) ?_
          refine r_iload_n dX10_baseOf_28 rfl ?_
          refine r_iadd dX10_baseOf_29 ?_
          refine m_iald (10 + k) dX10_baseOf_30 ai_a (nI_add 10 k) (by omega) (by first | decide | assumption) ?_
          refine r_aload_n dX10_baseOf_31 rfl ?_
          refine m_get 10 0 dX10_baseOf_32 fl_X10_7 ob_model rfl ?_
          refine r_bipush 10 dX10_baseOf_35 (by decide) ?_
          refine r_iload_n dX10_baseOf_37 rfl ?_
          refine r_iadd dX10_baseOf_38 ?_
          refine m_iald (10 + u) dX10_baseOf_39 ai_a (nI_add 10 u) (by omega) (by first | decide | assumption) ?_
          rw [hpq]
          refine r_icmp_ne 55 dX10_baseOf_40 (by decide) (fun h40 => ?_) (fun h40 => ?_)
          · refine r_iconst_0 dX10_baseOf_55 ?_
            refine r_iadd dX10_baseOf_56 ?_
            refine s_istore_n 2 dX10_baseOf_57 (Nat.le_of_ble_eq_true rfl) rfl rfl ?_
            refine s_iinc dX10_baseOf_58 rfl (Nat.le_of_ble_eq_true rfl) rfl ?_
            refine r_goto 11 dX10_baseOf_61 (by decide) ?_
            exact m_sub (ih (by omega)) (by simp [a_sub, sumI, nI_succ, h40, h3])
          · refine r_aload_n dX10_baseOf_43 rfl ?_
            refine m_get 10 0 dX10_baseOf_44 fl_X10_7 ob_model rfl ?_
            refine r_bipush 22 dX10_baseOf_47 (by decide) ?_
            refine r_iload_n dX10_baseOf_49 rfl ?_
            refine r_iadd dX10_baseOf_50 ?_
            refine m_iald (22 + k) dX10_baseOf_51 ai_a (nI_add 22 k) (by omega) (by first | decide | assumption) ?_
            refine r_goto 56 dX10_baseOf_52 (by decide) ?_
            refine r_iadd dX10_baseOf_56 ?_
            refine s_istore_n 2 dX10_baseOf_57 (Nat.le_of_ble_eq_true rfl) rfl rfl ?_
            refine s_iinc dX10_baseOf_58 rfl (Nat.le_of_ble_eq_true rfl) rfl ?_
            refine r_goto 11 dX10_baseOf_61 (by decide) ?_
            exact m_sub (ih (by omega)) (by simp [a_sub, sumI, nI_succ, h40, h3])
      exact m_sub (lp 1 (by omega) (Nat.le_refl _)) (by simp [a_sub, sumI, nI_succ, nI_0])
theorem tk_nl {u : Nat} (wU : WU a) (wL : WL a) (h : ¬ lfS a u) (hu : u < nu a) : tkR a u = bse a u := by
  have h12 := wU.2.2.1
  unfold tkR
  rw [sumI_cong (g := fun _ => 0) (fun l hl => ?_), sumI_0, Int32.add_zero]
  obtain ⟨f, t, b, q, w4, w5, w1, w6, w7, w2, w3, -⟩ := wL.2.2.1 l hl
  have n1 : ¬ ln a l 1 = nI u := fun z => by
    rw [w3, nI_eq (by omega) (by omega)] at z
    subst z; exact h w7
  have n2 : ¬ ln a l 0 = nI u := fun z => by
    rw [w2, nI_eq (by omega) (by omega)] at z
    subst z; exact h w6
  simp [n1, n2]
theorem c_X10_ticketsOf {u : Nat} (hA : M 318 = a) (wU : WU a) (wL : WL a) (hu : u < nu a) : AD yX10_ticketsOf I_X10_ticketsOf [.ref 317, .int (nI u)] (hS M L dd) (.inl (some (.int (tkS a u)))) (hS M L dd) := by
  subst hA
  have h12 := wU.2.2.1
  have h8 := wL.2.1
  have h0 := wU.1
  intro Q hq
  refine a_met (by decide +kernel) rfl rfl (Nat.le_of_ble_eq_true rfl) (by simp [Value.category]) (by decide) rfl ?_
  show AW I_X10_ticketsOf 0 [.ref 317, .int (nI u), .null, .null, .null] [] (hS M L dd) 0 0 Q
  refine r_aload_n dX10_ticketsOf_0 rfl ?_
  refine r_iload_n dX10_ticketsOf_1 rfl ?_
  refine m_cv1 dX10_ticketsOf_2 (cv_X10_182 _) (c_X10_baseOf rfl wU 14 u hu (by omega)) rfl ob_model ⟨_, rfl, rfl⟩ ⟨rfl, rfl⟩ (by decide) (by decide) (Nat.le_of_ble_eq_true rfl) ?_
  refine s_istore_n 2 dX10_ticketsOf_5 (by decide) rfl rfl ?_
  refine r_iconst_0 dX10_ticketsOf_6 ?_
  refine s_istore_n 3 dX10_ticketsOf_7 (by decide) rfl rfl ?_
  have fin : AW I_X10_ticketsOf 97 [.ref 317, .int (nI u), .int (tkR (M 318) u), .null, .null] [] (hS M L dd) 0 0 Q := by
    refine r_iload_n dX10_ticketsOf_97 rfl ?_
    refine r_if_ge 105 dX10_ticketsOf_98 (by decide) (fun h98 => ?_) (fun h98 => ?_)
    · refine r_iload_n dX10_ticketsOf_105 rfl ?_
      exact e_iret dX10_ticketsOf_106 rfl hq (by unfold tkS; grind)
    · refine r_iconst_0 dX10_ticketsOf_101 ?_
      refine r_goto 106 dX10_ticketsOf_102 (by decide) ?_
      exact e_iret dX10_ticketsOf_106 rfl hq (by unfold tkS; grind)
  have lp : ∀ k, k ≤ nl (M 318) → AW I_X10_ticketsOf 8 [.ref 317, .int (nI u), .int (bse (M 318) u + sumI (fun l => (if ln (M 318) l 1 = nI u then itS (M 318) l else 0) - (if ln (M 318) l 0 = nI u then itS (M 318) l else 0)) k), .int (nI k), .null] [] (hS M L dd) 0 0 Q := by
    refine lp_up _ ?_ ?_
    · refine r_iload_n dX10_ticketsOf_8 rfl ?_
      refine r_aload_n dX10_ticketsOf_9 rfl ?_
      refine m_get 10 0 dX10_ticketsOf_10 fl_X10_7 ob_model rfl ?_
      refine r_bipush 7 dX10_ticketsOf_13 (by decide) ?_
      refine m_iald 7 dX10_ticketsOf_15 ai_a rfl (by omega) (by first | decide | assumption) ?_
      refine r_icmp_ge 97 dX10_ticketsOf_16 (by decide) (fun _ => ?_) (fun z => absurd (by rw [wL.1]; exact nI_le (Nat.le_refl _) (by omega)) z)
      exact m_sub fin (by simp [a_sub, tkR])
    · intro k hk ih 
      refine r_iload_n dX10_ticketsOf_8 rfl ?_
      refine r_aload_n dX10_ticketsOf_9 rfl ?_
      refine m_get 10 0 dX10_ticketsOf_10 fl_X10_7 ob_model rfl ?_
      refine r_bipush 7 dX10_ticketsOf_13 (by decide) ?_
      refine m_iald 7 dX10_ticketsOf_15 ai_a rfl (by omega) (by first | decide | assumption) ?_
      refine r_icmp_ge 97 dX10_ticketsOf_16 (by decide) (fun z => absurd z (by rw [wL.1]; exact nI_ge hk (by omega))) (fun _ => ?_)
      refine r_aload_n dX10_ticketsOf_19 rfl ?_
      refine r_iload_n dX10_ticketsOf_20 rfl ?_
      refine m_cv1 dX10_ticketsOf_21 cv_X10_119 (c_X10_isLeaf rfl h0 h12) rfl ob_model ⟨_, rfl, rfl⟩ ⟨rfl, rfl⟩ (by decide) (by decide) (Nat.le_of_ble_eq_true rfl) ?_
      refine r_if_eq 97 dX10_ticketsOf_24 (by decide) (fun h24 => ?_) (fun h24 => ?_)
      · rw [bI_0] at h24
        have e : bse (M 318) u + sumI (fun l => (if ln (M 318) l 1 = nI u then itS (M 318) l else 0) - (if ln (M 318) l 0 = nI u then itS (M 318) l else 0)) k = tkR (M 318) u := by
          rw [tk_nl wU wL h24 hu, sumI_cong (g := fun _ => 0) (fun l hl => ?_), sumI_0, Int32.add_zero]
          obtain ⟨f, t, b, q, w4, w5, w1, w6, w7, w2, w3, -⟩ := wL.2.2.1 l (by omega)
          have n1 : ¬ ln (M 318) l 1 = nI u := fun z => by
            rw [w3, nI_eq (by omega) (by omega)] at z
            subst z; exact h24 w7
          have n2 : ¬ ln (M 318) l 0 = nI u := fun z => by
            rw [w2, nI_eq (by omega) (by omega)] at z
            subst z; exact h24 w6
          simp [n1, n2]
        exact m_sub fin (by rw [e]; simp [a_sub])
      · have ht : M 318 0 < duS (M 318) k → itS (M 318) k = ln (M 318) k 2 := fun z => if_pos z
        have hf : ¬ M 318 0 < duS (M 318) k → itS (M 318) k = - ln (M 318) k 2 := fun z => if_neg z
        have key : ∀ x : Int32, x = itS (M 318) k → AW I_X10_ticketsOf 51 [.ref 317, .int (nI u), .int (bse (M 318) u + sumI (fun l => (if ln (M 318) l 1 = nI u then itS (M 318) l else 0) - (if ln (M 318) l 0 = nI u then itS (M 318) l else 0)) k), .int (nI k), .null] [.int x] (hS M L dd) 0 0 Q := by
          intro x hx
          subst hx
          refine s_istore dX10_ticketsOf_51 (by decide) rfl ?_
          refine r_iload_n dX10_ticketsOf_53 rfl ?_
          refine r_aload_n dX10_ticketsOf_54 rfl ?_
          refine r_iload_n dX10_ticketsOf_55 rfl ?_
          refine r_iconst_1 dX10_ticketsOf_56 ?_
          refine m_cv2 dX10_ticketsOf_57 cv_X10_178 (c_X10_lent (f := 1) rfl (by omega) (by omega)) rfl ob_model ⟨_, rfl, rfl⟩ ⟨rfl, rfl⟩ (by decide) (by decide) (Nat.le_of_ble_eq_true rfl) ?_
          refine r_iload_n dX10_ticketsOf_60 rfl ?_
          refine r_icmp_ne 69 dX10_ticketsOf_61 (by decide) (fun h61 => ?_) (fun h61 => ?_)
          · refine r_iconst_0 dX10_ticketsOf_69 ?_
            refine r_iadd dX10_ticketsOf_70 ?_
            refine s_istore_n 2 dX10_ticketsOf_71 (by decide) rfl rfl ?_
            refine r_iload_n dX10_ticketsOf_72 rfl ?_
            refine r_aload_n dX10_ticketsOf_73 rfl ?_
            refine r_iload_n dX10_ticketsOf_74 rfl ?_
            refine r_iconst_0 dX10_ticketsOf_75 ?_
            refine m_cv2 dX10_ticketsOf_76 cv_X10_178 (c_X10_lent (f := 0) rfl (by omega) (by omega)) rfl ob_model ⟨_, rfl, rfl⟩ ⟨rfl, rfl⟩ (by decide) (by decide) (Nat.le_of_ble_eq_true rfl) ?_
            refine r_iload_n dX10_ticketsOf_79 rfl ?_
            refine r_icmp_ne 88 dX10_ticketsOf_80 (by decide) (fun h80 => ?_) (fun h80 => ?_)
            · refine r_iconst_0 dX10_ticketsOf_88 ?_
              refine r_isub dX10_ticketsOf_89 ?_
              refine s_istore_n 2 dX10_ticketsOf_90 (by decide) rfl rfl ?_
              refine s_iinc dX10_ticketsOf_91 rfl (by decide) rfl ?_
              refine r_goto 8 dX10_ticketsOf_94 (by decide) ?_
              (refine m_sub ih ?_; simp only [a_sub, sumI, nI_succ, h61, h80, if_true, if_false, List.set_cons_zero, List.set_cons_succ]; simp; try grind)
            · refine r_iload dX10_ticketsOf_83 rfl ?_
              refine r_goto 89 dX10_ticketsOf_85 (by decide) ?_
              refine r_isub dX10_ticketsOf_89 ?_
              refine s_istore_n 2 dX10_ticketsOf_90 (by decide) rfl rfl ?_
              refine s_iinc dX10_ticketsOf_91 rfl (by decide) rfl ?_
              refine r_goto 8 dX10_ticketsOf_94 (by decide) ?_
              (refine m_sub ih ?_; simp only [a_sub, sumI, nI_succ, h61, h80, if_true, if_false, List.set_cons_zero, List.set_cons_succ]; simp; try grind)
          · refine r_iload dX10_ticketsOf_64 rfl ?_
            refine r_goto 70 dX10_ticketsOf_66 (by decide) ?_
            refine r_iadd dX10_ticketsOf_70 ?_
            refine s_istore_n 2 dX10_ticketsOf_71 (by decide) rfl rfl ?_
            refine r_iload_n dX10_ticketsOf_72 rfl ?_
            refine r_aload_n dX10_ticketsOf_73 rfl ?_
            refine r_iload_n dX10_ticketsOf_74 rfl ?_
            refine r_iconst_0 dX10_ticketsOf_75 ?_
            refine m_cv2 dX10_ticketsOf_76 cv_X10_178 (c_X10_lent (f := 0) rfl (by omega) (by omega)) rfl ob_model ⟨_, rfl, rfl⟩ ⟨rfl, rfl⟩ (by decide) (by decide) (Nat.le_of_ble_eq_true rfl) ?_
            refine r_iload_n dX10_ticketsOf_79 rfl ?_
            refine r_icmp_ne 88 dX10_ticketsOf_80 (by decide) (fun h80 => ?_) (fun h80 => ?_)
            · refine r_iconst_0 dX10_ticketsOf_88 ?_
              refine r_isub dX10_ticketsOf_89 ?_
              refine s_istore_n 2 dX10_ticketsOf_90 (by decide) rfl rfl ?_
              refine s_iinc dX10_ticketsOf_91 rfl (by decide) rfl ?_
              refine r_goto 8 dX10_ticketsOf_94 (by decide) ?_
              (refine m_sub ih ?_; simp only [a_sub, sumI, nI_succ, h61, h80, if_true, if_false, List.set_cons_zero, List.set_cons_succ]; simp; try grind)
            · refine r_iload dX10_ticketsOf_83 rfl ?_
              refine r_goto 89 dX10_ticketsOf_85 (by decide) ?_
              refine r_isub dX10_ticketsOf_89 ?_
              refine s_istore_n 2 dX10_ticketsOf_90 (by decide) rfl rfl ?_
              refine s_iinc dX10_ticketsOf_91 rfl (by decide) rfl ?_
              refine r_goto 8 dX10_ticketsOf_94 (by decide) ?_
              (refine m_sub ih ?_; simp only [a_sub, sumI, nI_succ, h61, h80, if_true, if_false, List.set_cons_zero, List.set_cons_succ]; simp; try grind)
        refine r_aload_n dX10_ticketsOf_27 rfl ?_
        refine r_iload_n dX10_ticketsOf_28 rfl ?_
        refine m_cv1 dX10_ticketsOf_29 cv_X10_185 (c_X10_isLent rfl (by omega)) rfl ob_model ⟨_, rfl, rfl⟩ ⟨rfl, rfl⟩ (by decide) (by decide) (Nat.le_of_ble_eq_true rfl) ?_
        refine r_if_eq 44 dX10_ticketsOf_32 (by decide) (fun h32 => ?_) (fun h32 => ?_)
        · refine r_aload_n dX10_ticketsOf_44 rfl ?_
          refine r_iload_n dX10_ticketsOf_45 rfl ?_
          refine r_iconst_2 dX10_ticketsOf_46 ?_
          refine m_cv2 dX10_ticketsOf_47 cv_X10_178 (c_X10_lent (f := 2) rfl (by omega) (by omega)) rfl ob_model ⟨_, rfl, rfl⟩ ⟨rfl, rfl⟩ (by decide) (by decide) (Nat.le_of_ble_eq_true rfl) ?_
          refine r_ineg dX10_ticketsOf_50 ?_
          first | exact key _ (hf (by rw [bI_0] at h32; exact h32)).symm | exact key _ (ht (by rw [bI_0, Decidable.not_not] at h32; exact h32)).symm
        · refine r_aload_n dX10_ticketsOf_35 rfl ?_
          refine r_iload_n dX10_ticketsOf_36 rfl ?_
          refine r_iconst_2 dX10_ticketsOf_37 ?_
          refine m_cv2 dX10_ticketsOf_38 cv_X10_178 (c_X10_lent (f := 2) rfl (by omega) (by omega)) rfl ob_model ⟨_, rfl, rfl⟩ ⟨rfl, rfl⟩ (by decide) (by decide) (Nat.le_of_ble_eq_true rfl) ?_
          refine r_goto 51 dX10_ticketsOf_41 (by decide) ?_
          first | exact key _ (hf (by rw [bI_0] at h32; exact h32)).symm | exact key _ (ht (by rw [bI_0, Decidable.not_not] at h32; exact h32)).symm
  exact m_sub (lp 0 (Nat.zero_le _)) (by simp [a_sub, sumI, nI_0])
end MODEL2
