/-! THE TREE -/
section TREE
variable {M : Nat → Nat → Int32} {L : Nat → Nat → Int64} {dd : UInt64} {p : Nat} {a : Nat → Int32}
theorem c_X8_has {u : Int32} (hP : PL p) : AD yX8_has I_X8_has [.ref (p + 1), .int u] (hS M L dd) (.inl (some (.int (bI (0 ≤ u ∧ u < M (p + 1) 0))))) (hS M L dd) := by
  intro Q hq
  refine a_met (by decide +kernel) rfl rfl (Nat.le_of_ble_eq_true rfl) (by simp [Value.category]) (by decide) rfl ?_
  show AW I_X8_has 0 [.ref (p + 1), .int u] [] (hS M L dd) 0 0 Q
  refine r_iload_n dX8_has_0 rfl ?_
  refine r_if_lt 16 dX8_has_1 (by decide) (fun h1 => ?_) (fun h1 => ?_)
  · refine r_iconst_0 dX8_has_16 ?_
    exact e_zret dX8_has_17 rfl hq (by grind [bI])
  · refine r_iload_n dX8_has_4 rfl ?_
    refine r_aload_n dX8_has_5 rfl ?_
    refine m_get 8 0 dX8_has_6 fl_X8_27 (ob_tree hP) rfl ?_
    refine r_icmp_ge 16 dX8_has_9 (by decide) (fun h9 => ?_) (fun h9 => ?_)
    · refine r_iconst_0 dX8_has_16 ?_
      exact e_zret dX8_has_17 rfl hq (by grind [bI])
    · refine r_iconst_1 dX8_has_12 ?_
      refine r_goto 17 dX8_has_13 (by decide) ?_
      exact e_zret dX8_has_17 rfl hq (by grind [bI])
theorem c_X8_isFull (hP : PL p) : AD yX8_isFull I_X8_isFull [.ref (p + 1)] (hS M L dd) (.inl (some (.int (bI (12 ≤ M (p + 1) 0))))) (hS M L dd) := by
  intro Q hq
  refine a_met (by decide +kernel) rfl rfl (Nat.le_of_ble_eq_true rfl) (by simp [Value.category]) (by decide) rfl ?_
  show AW I_X8_isFull 0 [.ref (p + 1)] [] (hS M L dd) 0 0 Q
  refine r_aload_n dX8_isFull_0 rfl ?_
  refine m_get 8 0 dX8_isFull_1 fl_X8_27 (ob_tree hP) rfl ?_
  refine r_bipush 12 dX8_isFull_4 (by decide) ?_
  refine r_icmp_lt 13 dX8_isFull_6 (by decide) (fun h6 => ?_) (fun h6 => ?_)
  · refine r_iconst_0 dX8_isFull_13 ?_
    exact e_zret dX8_isFull_14 rfl hq (by grind [bI])
  · refine r_iconst_1 dX8_isFull_9 ?_
    refine r_goto 14 dX8_isFull_10 (by decide) ?_
    exact e_zret dX8_isFull_14 rfl hq (by grind [bI])
theorem c_X8_childrenOf {u : Int32} (hP : PL p) (hT : QT M p a) (hW : WU a) (hu : 0 ≤ u) : AD yX8_childrenOf I_X8_childrenOf [.ref (p + 1), .int u] (hS M L dd) (.inl (some (.int (chS a u)))) (hS M L dd) := by
  intro Q hq
  refine a_met (by decide +kernel) rfl rfl (Nat.le_of_ble_eq_true rfl) (by simp [Value.category]) (by decide) rfl ?_
  show AW I_X8_childrenOf 0 [.ref (p + 1), .int u, .null, .null] [] (hS M L dd) 0 0 Q
  have hn := hT.1.trans hW.1
  have h12 := hW.2.2.1
  refine r_iconst_0 dX8_childrenOf_0 ?_
  refine s_istore_n 2 dX8_childrenOf_1 (by decide) rfl rfl ?_
  refine r_iconst_1 dX8_childrenOf_2 ?_
  refine s_istore_n 3 dX8_childrenOf_3 (by decide) rfl rfl ?_
  have lp : ∀ k, k ≤ nu a → 1 ≤ k → AW I_X8_childrenOf 4 [.ref (p + 1), .int u, .int (sumI (fun k => if a (10 + k) = u then 1 else 0) k), .int (nI k)] [] (hS M L dd) 0 0 Q := by
    refine lp_up _ ?_ ?_
    · intro h1 
      refine r_iload_n dX8_childrenOf_4 rfl ?_
      refine r_aload_n dX8_childrenOf_5 rfl ?_
      refine m_get 8 0 dX8_childrenOf_6 fl_X8_27 (ob_tree hP) rfl ?_
      refine r_icmp_ge 31 dX8_childrenOf_9 (by decide) (fun _ => ?_) (fun z => absurd (by rw [hn]; exact nI_le (Nat.le_refl _) (by omega)) z)
      refine r_iload_n dX8_childrenOf_31 rfl ?_
      exact e_iret dX8_childrenOf_32 rfl hq (by first | rfl | grind)
    · intro k hk ih h1 
      have q := (hT.2 k hk).1
      refine r_iload_n dX8_childrenOf_4 rfl ?_
      refine r_aload_n dX8_childrenOf_5 rfl ?_
      refine m_get 8 0 dX8_childrenOf_6 fl_X8_27 (ob_tree hP) rfl ?_
      refine r_icmp_ge 31 dX8_childrenOf_9 (by decide) (fun z => absurd z (by rw [hn]; exact nI_ge hk (by omega))) (fun _ => ?_)
      refine r_aload_n dX8_childrenOf_12 rfl ?_
      refine m_get 8 1 dX8_childrenOf_13 fl_X8_9 (ob_tree hP) rfl ?_
      refine r_iload_n dX8_childrenOf_16 rfl ?_
      refine m_iald k dX8_childrenOf_17 (ai_parent hP) rfl (by omega) (by first | decide | assumption) ?_
      refine r_iload_n dX8_childrenOf_18 rfl ?_
      refine r_icmp_ne 25 dX8_childrenOf_19 (by decide) (fun h19 => ?_) (fun h19 => ?_)
      · refine s_iinc dX8_childrenOf_25 rfl (by decide) rfl ?_
        refine r_goto 4 dX8_childrenOf_28 (by decide) ?_
        exact m_eq (ih (by omega)) (by simp [sumI, nI_succ, ← q, h19]) rfl rfl
      · refine s_iinc dX8_childrenOf_22 rfl (by decide) rfl ?_
        refine s_iinc dX8_childrenOf_25 rfl (by decide) rfl ?_
        refine r_goto 4 dX8_childrenOf_28 (by decide) ?_
        exact m_eq (ih (by omega)) (by simp [sumI, nI_succ, ← q, h19]) rfl rfl
  refine m_eq (lp 1 hW.2.1 (Nat.le_refl _)) ?_ rfl rfl
  have h0 : ¬ (-1 : Int32) = u := by grind
  simp [sumI, hW.2.2.2.1, h0, show nI 1 = 1 from rfl]
theorem c_X8_isLeaf {u : Nat} (hP : PL p) (hT : QT M p a) (hW : WU a) (hu : u < nu a) : AD yX8_isLeaf I_X8_isLeaf [.ref (p + 1), .int (nI u)] (hS M L dd) (.inl (some (.int (bI (lfS a u))))) (hS M L dd) := by
  have h12 := hW.2.2.1
  intro Q hq
  refine a_met (by decide +kernel) rfl rfl (Nat.le_of_ble_eq_true rfl) (by simp [Value.category]) (by decide) rfl ?_
  show AW I_X8_isLeaf 0 [.ref (p + 1), .int (nI u)] [] (hS M L dd) 0 0 Q
  refine r_aload_n dX8_isLeaf_0 rfl ?_
  refine r_iload_n dX8_isLeaf_1 rfl ?_
  refine m_cv1 dX8_isLeaf_2 cv_X8_38 (c_X8_childrenOf hP hT hW (nI_pos' (by omega))) rfl (ob_tree hP) ⟨_, rfl, rfl⟩ ⟨rfl, rfl⟩ (by decide) (by decide) (Nat.le_of_ble_eq_true rfl) ?_
  refine r_if_ne 12 dX8_isLeaf_5 (by decide) (fun h5 => ?_) (fun h5 => ?_)
  · refine r_iconst_0 dX8_isLeaf_12 ?_
    exact e_zret dX8_isLeaf_13 rfl hq (by grind [bI])
  · refine r_iconst_1 dX8_isLeaf_8 ?_
    refine r_goto 13 dX8_isLeaf_9 (by decide) ?_
    exact e_zret dX8_isLeaf_13 rfl hq (by grind [bI])
theorem c_X8_sharesUnder {u : Int32} (hP : PL p) (hT : QT M p a) (hW : WU a) : AD yX8_sharesUnder I_X8_sharesUnder [.ref (p + 1), .int u] (hS M L dd) (.inl (some (.int (shS a u)))) (hS M L dd) := by
  intro Q hq
  refine a_met (by decide +kernel) rfl rfl (Nat.le_of_ble_eq_true rfl) (by simp [Value.category]) (by decide) rfl ?_
  show AW I_X8_sharesUnder 0 [.ref (p + 1), .int u, .null, .null] [] (hS M L dd) 0 0 Q
  have hn := hT.1.trans hW.1
  have h12 := hW.2.2.1
  refine r_iconst_0 dX8_sharesUnder_0 ?_
  refine s_istore_n 2 dX8_sharesUnder_1 (by decide) rfl rfl ?_
  refine r_iconst_1 dX8_sharesUnder_2 ?_
  refine s_istore_n 3 dX8_sharesUnder_3 (by decide) rfl rfl ?_
  have lp : ∀ k, k ≤ nu a → 1 ≤ k → AW I_X8_sharesUnder 4 [.ref (p + 1), .int u, .int (sumI (fun k => if k = 0 then 0 else if a (10 + k) = u then a (22 + k) else 0) k), .int (nI k)] [] (hS M L dd) 0 0 Q := by
    refine lp_up _ ?_ ?_
    · intro h1 
      refine r_iload_n dX8_sharesUnder_4 rfl ?_
      refine r_aload_n dX8_sharesUnder_5 rfl ?_
      refine m_get 8 0 dX8_sharesUnder_6 fl_X8_27 (ob_tree hP) rfl ?_
      refine r_icmp_ge 37 dX8_sharesUnder_9 (by decide) (fun _ => ?_) (fun z => absurd (by rw [hn]; exact nI_le (Nat.le_refl _) (by omega)) z)
      refine r_iload_n dX8_sharesUnder_37 rfl ?_
      exact e_iret dX8_sharesUnder_38 rfl hq (by first | rfl | grind)
    · intro k hk ih h1 
      have q := (hT.2 k hk).1
      have q2 := (hT.2 k hk).2.1
      have q3 : ¬ k = 0 := by omega
      refine r_iload_n dX8_sharesUnder_4 rfl ?_
      refine r_aload_n dX8_sharesUnder_5 rfl ?_
      refine m_get 8 0 dX8_sharesUnder_6 fl_X8_27 (ob_tree hP) rfl ?_
      refine r_icmp_ge 37 dX8_sharesUnder_9 (by decide) (fun z => absurd z (by rw [hn]; exact nI_ge hk (by omega))) (fun _ => ?_)
      refine r_aload_n dX8_sharesUnder_12 rfl ?_
      refine m_get 8 1 dX8_sharesUnder_13 fl_X8_9 (ob_tree hP) rfl ?_
      refine r_iload_n dX8_sharesUnder_16 rfl ?_
      refine m_iald k dX8_sharesUnder_17 (ai_parent hP) rfl (by omega) (by first | decide | assumption) ?_
      refine r_iload_n dX8_sharesUnder_18 rfl ?_
      refine r_icmp_ne 31 dX8_sharesUnder_19 (by decide) (fun h19 => ?_) (fun h19 => ?_)
      · refine s_iinc dX8_sharesUnder_31 rfl (by decide) rfl ?_
        refine r_goto 4 dX8_sharesUnder_34 (by decide) ?_
        exact m_eq (ih (by omega)) (by simp [sumI, nI_succ, ← q, h19, q2, q3]) rfl rfl
      · refine r_iload_n dX8_sharesUnder_22 rfl ?_
        refine r_aload_n dX8_sharesUnder_23 rfl ?_
        refine m_get 8 2 dX8_sharesUnder_24 fl_X8_15 (ob_tree hP) rfl ?_
        refine r_iload_n dX8_sharesUnder_27 rfl ?_
        refine m_iald k dX8_sharesUnder_28 (ai_shares hP) rfl (by omega) (by first | decide | assumption) ?_
        refine r_iadd dX8_sharesUnder_29 ?_
        refine s_istore_n 2 dX8_sharesUnder_30 (by decide) rfl rfl ?_
        refine s_iinc dX8_sharesUnder_31 rfl (by decide) rfl ?_
        refine r_goto 4 dX8_sharesUnder_34 (by decide) ?_
        exact m_eq (ih (by omega)) (by simp [sumI, nI_succ, ← q, h19, q2, q3]) rfl rfl
  exact m_eq (lp 1 hW.2.1 (Nat.le_refl _)) (by simp [sumI, show nI 1 = 1 from rfl]) rfl rfl
theorem c_X8_isUnder {u : Int32} {t : Int32} (hP : PL p) (hT : QT M p a) (hW : WU a) : AD yX8_isUnder I_X8_isUnder [.ref (p + 1), .int u, .int t] (hS M L dd) (.inl (some (.int (bI (bel a t 12 u = true))))) (hS M L dd) := by
  intro Q hq
  refine a_met (by decide +kernel) rfl rfl (Nat.le_of_ble_eq_true rfl) (by simp [Value.category]) (by decide) rfl ?_
  show AW I_X8_isUnder 0 [.ref (p + 1), .int u, .int t, .null, .null] [] (hS M L dd) 0 0 Q
  have hn := hT.1
  have h12 := hW.2.2.1
  refine r_iload_n dX8_isUnder_0 rfl ?_
  refine s_istore_n 3 dX8_isUnder_1 (by decide) rfl rfl ?_
  refine r_iconst_0 dX8_isUnder_2 ?_
  refine s_istore dX8_isUnder_3 (by decide) rfl ?_
  have lp : ∀ k, k ≤ 12 → ∀ x : Int32, bel a t (12 - k) x = bel a t 12 u → AW I_X8_isUnder 5 [.ref (p + 1), .int u, .int t, .int x, .int (nI k)] [] (hS M L dd) 0 0 Q := by
    refine lp_up _ ?_ ?_
    · intro x h1 
      refine r_iload dX8_isUnder_5 rfl ?_
      refine r_bipush 12 dX8_isUnder_7 (by decide) ?_
      refine r_icmp_ge 40 dX8_isUnder_9 (by decide) (fun _ => ?_) (fun z => absurd (by decide) z)
      refine r_iconst_0 dX8_isUnder_40 ?_
      exact e_zret dX8_isUnder_41 rfl hq (by rw [← h1]; rfl)
    · intro k hk ih x h1 
      rw [show 12 - k = (12 - (k + 1)) + 1 by omega, bel] at h1
      refine r_iload dX8_isUnder_5 rfl ?_
      refine r_bipush 12 dX8_isUnder_7 (by decide) ?_
      refine r_icmp_ge 40 dX8_isUnder_9 (by decide) (fun z => absurd z (nI_ge hk (by decide))) (fun _ => ?_)
      refine r_aload_n dX8_isUnder_12 rfl ?_
      refine r_iload_n dX8_isUnder_13 rfl ?_
      refine m_cv1 dX8_isUnder_14 cv_X8_46 (c_X8_has hP) rfl (ob_tree hP) ⟨_, rfl, rfl⟩ ⟨rfl, rfl⟩ (by decide) (by decide) (Nat.le_of_ble_eq_true rfl) ?_
      refine r_if_eq 40 dX8_isUnder_17 (by decide) (fun h17 => ?_) (fun h17 => ?_)
      · rw [bI_0, hn] at h17
        rw [if_neg h17] at h1
        refine r_iconst_0 dX8_isUnder_40 ?_
        exact e_zret dX8_isUnder_41 rfl hq (by rw [← h1]; rfl)
      · rw [bI_0, hn, Decidable.not_not] at h17
        rw [if_pos h17] at h1
        have h18 : x = nI (zN x) := nI_z h17.1
        have h19 : zN x < nu a := by
          have h20 := h17.2
          rw [h18, hW.1, nI_ltI (by show x.toNatClampNeg < _; have := Int32.toInt_lt x; have e : x.toNatClampNeg = x.toInt.toNat := rfl; omega) (by omega)] at h20
          exact h20
        refine r_iload_n dX8_isUnder_20 rfl ?_
        refine r_iload_n dX8_isUnder_21 rfl ?_
        refine r_icmp_ne 27 dX8_isUnder_22 (by decide) (fun h22 => ?_) (fun h22 => ?_)
        · rw [if_neg h22, ← (hT.2 _ h19).1] at h1
          refine r_aload_n dX8_isUnder_27 rfl ?_
          refine m_get 8 1 dX8_isUnder_28 fl_X8_9 (ob_tree hP) rfl ?_
          refine r_iload_n dX8_isUnder_31 rfl ?_
          refine m_iald (zN x) dX8_isUnder_32 (ai_parent hP) h18 (by omega) (by first | decide | assumption) ?_
          refine s_istore_n 3 dX8_isUnder_33 (by decide) rfl rfl ?_
          refine s_iinc dX8_isUnder_34 rfl (by decide) rfl ?_
          refine r_goto 5 dX8_isUnder_37 (by decide) ?_
          exact m_eq (ih _ h1) (by simp [nI_succ]) rfl rfl
        · rw [if_pos h22] at h1
          refine r_iconst_1 dX8_isUnder_25 ?_
          exact e_zret dX8_isUnder_26 rfl hq (by rw [← h1]; rfl)
  exact lp 0 (Nat.zero_le _) u rfl
theorem c_X8_sumBelow {t : Int32} {c n : Nat} {r : Nat → Int32} (hP : PL p) (hT : QT M p a) (hW : WU a) (hc : AI c n) (hn2 : nu a ≤ n) (hn3 : n < 2 ^ 31) (hr : ∀ k, k < nu a → M c k = r k) : AD yX8_sumBelow I_X8_sumBelow [.ref (p + 1), .int t, .ref c] (hS M L dd) (.inl (some (.int (sbS a t r)))) (hS M L dd) := by
  intro Q hq
  refine a_met (by decide +kernel) rfl rfl (Nat.le_of_ble_eq_true rfl) (by simp [Value.category]) (by decide) rfl ?_
  show AW I_X8_sumBelow 0 [.ref (p + 1), .int t, .ref c, .null, .null] [] (hS M L dd) 0 0 Q
  have hn := hT.1.trans hW.1
  have h12 := hW.2.2.1
  refine r_iconst_0 dX8_sumBelow_0 ?_
  refine s_istore_n 3 dX8_sumBelow_1 (by decide) rfl rfl ?_
  refine r_iconst_0 dX8_sumBelow_2 ?_
  refine s_istore dX8_sumBelow_3 (by decide) rfl ?_
  have lp : ∀ k, k ≤ nu a → AW I_X8_sumBelow 5 [.ref (p + 1), .int t, .ref c, .int (sumI (fun k => if lfS a k ∧ bel a t 12 (nI k) = true then r k else 0) k), .int (nI k)] [] (hS M L dd) 0 0 Q := by
    refine lp_up _ ?_ ?_
    · refine r_iload dX8_sumBelow_5 rfl ?_
      refine r_aload_n dX8_sumBelow_7 rfl ?_
      refine m_get 8 0 dX8_sumBelow_8 fl_X8_27 (ob_tree hP) rfl ?_
      refine r_icmp_ge 53 dX8_sumBelow_11 (by decide) (fun _ => ?_) (fun z => absurd (by rw [hn]; exact nI_le (Nat.le_refl _) (by omega)) z)
      refine r_iload_n dX8_sumBelow_53 rfl ?_
      exact e_iret dX8_sumBelow_54 rfl hq (by first | rfl | grind)
    · intro k hk ih 
      refine r_iload dX8_sumBelow_5 rfl ?_
      refine r_aload_n dX8_sumBelow_7 rfl ?_
      refine m_get 8 0 dX8_sumBelow_8 fl_X8_27 (ob_tree hP) rfl ?_
      refine r_icmp_ge 53 dX8_sumBelow_11 (by decide) (fun z => absurd z (by rw [hn]; exact nI_ge hk (by omega))) (fun _ => ?_)
      refine r_iload dX8_sumBelow_14 rfl ?_
      refine r_aload_n dX8_sumBelow_16 rfl ?_
      refine m_alen dX8_sumBelow_17 hc ?_
      refine r_icmp_ge 53 dX8_sumBelow_18 (by decide) (fun z => absurd z (nI_ge (by omega) hn3)) (fun _ => ?_)
      refine r_aload_n dX8_sumBelow_21 rfl ?_
      refine r_iload dX8_sumBelow_22 rfl ?_
      refine m_cv1 dX8_sumBelow_24 cv_X8_56 (c_X8_isLeaf hP hT hW hk) rfl (ob_tree hP) ⟨_, rfl, rfl⟩ ⟨rfl, rfl⟩ (by decide) (by decide) (Nat.le_of_ble_eq_true rfl) ?_
      refine r_if_eq 47 dX8_sumBelow_27 (by decide) (fun h27 => ?_) (fun h27 => ?_)
      · refine s_iinc dX8_sumBelow_47 rfl (by decide) rfl ?_
        refine r_goto 5 dX8_sumBelow_50 (by decide) ?_
        exact m_eq (ih) (by simp_all [sumI, nI_succ, bI_0, lfS]) rfl rfl
      · refine r_aload_n dX8_sumBelow_30 rfl ?_
        refine r_iload dX8_sumBelow_31 rfl ?_
        refine r_iload_n dX8_sumBelow_33 rfl ?_
        refine m_cv2 dX8_sumBelow_34 cv_X8_59 (c_X8_isUnder hP hT hW) rfl (ob_tree hP) ⟨_, rfl, rfl⟩ ⟨rfl, rfl⟩ (by decide) (by decide) (Nat.le_of_ble_eq_true rfl) ?_
        refine r_if_eq 47 dX8_sumBelow_37 (by decide) (fun h37 => ?_) (fun h37 => ?_)
        · refine s_iinc dX8_sumBelow_47 rfl (by decide) rfl ?_
          refine r_goto 5 dX8_sumBelow_50 (by decide) ?_
          exact m_eq (ih) (by simp_all [sumI, nI_succ, bI_0, lfS]) rfl rfl
        · refine r_iload_n dX8_sumBelow_40 rfl ?_
          refine r_aload_n dX8_sumBelow_41 rfl ?_
          refine r_iload dX8_sumBelow_42 rfl ?_
          refine m_iald k dX8_sumBelow_44 hc rfl (by omega) (by first | decide | assumption) ?_
          refine r_iadd dX8_sumBelow_45 ?_
          refine s_istore_n 3 dX8_sumBelow_46 (by decide) rfl rfl ?_
          refine s_iinc dX8_sumBelow_47 rfl (by decide) rfl ?_
          refine r_goto 5 dX8_sumBelow_50 (by decide) ?_
          exact m_eq (ih) (by simp_all [sumI, nI_succ, bI_0, lfS]) rfl rfl
  exact lp 0 (Nat.zero_le _)
end TREE
