section LN2
variable {M : Nat → Nat → Int32} {L : Nat → Nat → Int64} {dd : UInt64} {p : Nat} {a : Nat → Int32}
/-- what a loan brings, as the class works it out -/
theorem bl_eq {T l : Nat} (hL : WL a) (hS : WS T a) (hl : l < nl a) : ((if (0 : Int32) < duS a l - a 0 then duS a l - a 0 else 0) - (gnS a l - (if duS a l < a 0 then a 0 else duS a l))) * ln a l 2 = blI a l := by
  obtain ⟨f, t, b, q, -, -, -, -, -, -, -, h3, h4, h5, h6, h7⟩ := hL.2.2.1 l hl
  obtain ⟨s1, s2, s3, -⟩ := hS
  unfold blI
  have e1 : duS a l = nI (b + q) := by rw [duS, h3, h5, nI_add]
  have e2 : gnS a l = nI (b + 2 * q) := by rw [gnS, h3, h5, show (2 : Int32) = nI 2 from rfl, pk_mul, nI_add]
  generalize zN (a 0) = τ at *
  rw [e1, e2, h5, s1]
  by_cases hlt : τ < b + q
  · rw [if_pos (nI_lt hlt (by omega)), if_pos (nI_lt hlt (by omega)), pk_sub (by omega), if_neg (nI_nlt (Nat.le_of_lt hlt) (by omega)), if_pos (by rw [show (0 : Int32) = nI 0 from rfl]; exact nI_lt (by omega) (by omega)), pk_sub (by omega), show b + 2 * q - (b + q) = q by omega]
  · have e4 : ¬ nI τ < nI (b + q) := nI_nlt (by omega) (by omega)
    have e3 : ¬ (0 : Int32) < nI (b + q) - nI τ := by
      rw [Int32.lt_iff_toInt_lt, pk_sub_toInt (by omega) (by omega)]
      have : (0 : Int32).toInt = 0 := by decide
      omega
    rw [if_neg e3, if_neg e4, if_neg e4]
    by_cases h9 : nI (b + q) < nI τ
    · rw [if_pos h9]
    · rw [nI_ltI (by omega) (by omega)] at h9
      rw [if_neg (nI_nlt (by omega) (by omega)), show b + q = τ by omega]
theorem c_X2_balanceOf {T : Nat} {u : Int32} {t : Int32} (hP : PL p) (hQ : QL M p a) (hU : WU a) (hL : WL a) (hW : WS T a) (ht : t = a 0) : AD yX2_balanceOf I_X2_balanceOf [.ref (p + 6), .int u, .int t] (hS M L dd) (.inl (some (.int (blS a u)))) (hS M L dd) := by
  subst ht
  intro Q hq
  refine a_met (by decide +kernel) rfl rfl (Nat.le_of_ble_eq_true rfl) (by simp [Value.category]) (by decide) rfl ?_
  show AW I_X2_balanceOf 0 [.ref (p + 6), .int u, .int (a 0), .null, .null, .null, .null, .null] [] (hS M L dd) 0 0 Q
  have hn0 := hL.1
  have h8 := hL.2.1
  have hn := hQ.1.trans hn0
  refine r_iconst_0 dX2_balanceOf_0 ?_
  refine s_istore_n 3 dX2_balanceOf_1 (by decide) rfl rfl ?_
  refine r_iconst_0 dX2_balanceOf_2 ?_
  refine s_istore dX2_balanceOf_3 (by decide) rfl ?_
  have lp : ∀ k, k ≤ nl a → AW I_X2_balanceOf 5 [.ref (p + 6), .int u, .int (a 0), .int (sumI (fun l => if ln a l 1 = u then blI a l else if ln a l 0 = u then - blI a l else 0) k), .int (nI k), .null, .null, .null] [] (hS M L dd) 0 0 Q := by
    refine lp_up _ ?_ ?_
    · refine r_iload dX2_balanceOf_5 rfl ?_
      refine r_aload_n dX2_balanceOf_7 rfl ?_
      refine m_get 2 0 dX2_balanceOf_8 fl_X2_27 (ob_loans hP) rfl ?_
      refine r_icmp_ge 100 dX2_balanceOf_11 (by decide) (fun _ => ?_) (fun z => absurd (by rw [hn]; exact nI_le (Nat.le_refl _) (by omega)) z)
      refine r_iload_n dX2_balanceOf_100 rfl ?_
      exact e_iret dX2_balanceOf_101 rfl hq (rfl)
    · intro k hk ih 
      obtain ⟨t0, t1, t2, t3, t4⟩ := hQ.2 k hk
      have hx : ln a k 1 = u → ¬ ln a k 0 = u := by
        obtain ⟨f, t, b, q, w4, w5, w1, -, -, w2, w3, -⟩ := hL.2.2.1 k hk
        intro z1 z2
        have w6 := hU.2.2.1
        rw [w2] at z2
        rw [w3, ← z2, nI_eq (by omega) (by omega)] at z1
        exact w1 z1.symm
      refine r_iload dX2_balanceOf_5 rfl ?_
      refine r_aload_n dX2_balanceOf_7 rfl ?_
      refine m_get 2 0 dX2_balanceOf_8 fl_X2_27 (ob_loans hP) rfl ?_
      refine r_icmp_ge 100 dX2_balanceOf_11 (by decide) (fun z => absurd z (by rw [hn]; exact nI_ge hk (by omega))) (fun _ => ?_)
      refine r_iconst_0 dX2_balanceOf_14 ?_
      refine r_aload_n dX2_balanceOf_15 rfl ?_
      refine r_iload dX2_balanceOf_16 rfl ?_
      refine m_cv1 dX2_balanceOf_18 cv_X2_45 (c_X2_dueAt hP hQ hn0 h8 hk) rfl (ob_loans hP) ⟨_, rfl, rfl⟩ ⟨rfl, rfl⟩ (by decide) (by decide) (Nat.le_of_ble_eq_true rfl) ?_
      refine r_iload_n dX2_balanceOf_21 rfl ?_
      refine r_isub dX2_balanceOf_22 ?_
      refine r_mmax dX2_balanceOf_23 k_939 k_770 k_18 k_771 (by decide) (Nat.le_of_ble_eq_true rfl) ?_
      refine s_istore dX2_balanceOf_26 (by decide) rfl ?_
      refine r_aload_n dX2_balanceOf_28 rfl ?_
      refine r_iload dX2_balanceOf_29 rfl ?_
      refine m_cv1 dX2_balanceOf_31 cv_X2_49 (c_X2_goneAt hP hQ hn0 h8 hk) rfl (ob_loans hP) ⟨_, rfl, rfl⟩ ⟨rfl, rfl⟩ (by decide) (by decide) (Nat.le_of_ble_eq_true rfl) ?_
      refine r_aload_n dX2_balanceOf_34 rfl ?_
      refine r_iload dX2_balanceOf_35 rfl ?_
      refine m_cv1 dX2_balanceOf_37 cv_X2_45 (c_X2_dueAt hP hQ hn0 h8 hk) rfl (ob_loans hP) ⟨_, rfl, rfl⟩ ⟨rfl, rfl⟩ (by decide) (by decide) (Nat.le_of_ble_eq_true rfl) ?_
      refine r_iload_n dX2_balanceOf_40 rfl ?_
      refine r_mmax dX2_balanceOf_41 k_939 k_770 k_18 k_771 (by decide) (Nat.le_of_ble_eq_true rfl) ?_
      refine r_isub dX2_balanceOf_44 ?_
      refine s_istore dX2_balanceOf_45 (by decide) rfl ?_
      refine r_iload dX2_balanceOf_47 rfl ?_
      refine r_iload dX2_balanceOf_49 rfl ?_
      refine r_isub dX2_balanceOf_51 ?_
      refine r_aload_n dX2_balanceOf_52 rfl ?_
      refine m_get 2 3 dX2_balanceOf_53 fl_X2_18 (ob_loans hP) rfl ?_
      refine r_iload dX2_balanceOf_56 rfl ?_
      refine m_iald k dX2_balanceOf_58 (ai_ltickets hP) rfl (by omega) (by first | decide | assumption) ?_
      refine r_imul dX2_balanceOf_59 ?_
      refine s_istore dX2_balanceOf_60 (by decide) rfl ?_
      refine r_aload_n dX2_balanceOf_62 rfl ?_
      refine m_get 2 2 dX2_balanceOf_63 fl_X2_15 (ob_loans hP) rfl ?_
      refine r_iload dX2_balanceOf_66 rfl ?_
      refine m_iald k dX2_balanceOf_68 (ai_to hP) rfl (by omega) (by first | decide | assumption) ?_
      refine r_iload_n dX2_balanceOf_69 rfl ?_
      refine r_icmp_ne 78 dX2_balanceOf_70 (by decide) (fun h70 => ?_) (fun h70 => ?_)
      · refine r_aload_n dX2_balanceOf_78 rfl ?_
        refine m_get 2 1 dX2_balanceOf_79 fl_X2_9 (ob_loans hP) rfl ?_
        refine r_iload dX2_balanceOf_82 rfl ?_
        refine m_iald k dX2_balanceOf_84 (ai_from hP) rfl (by omega) (by first | decide | assumption) ?_
        refine r_iload_n dX2_balanceOf_85 rfl ?_
        refine r_icmp_ne 94 dX2_balanceOf_86 (by decide) (fun h86 => ?_) (fun h86 => ?_)
        · refine s_iinc dX2_balanceOf_94 rfl (by decide) rfl ?_
          refine r_goto 5 dX2_balanceOf_97 (by decide) ?_
          refine m_sub ih ?_; simp only [a_sub, List.set_cons_zero, List.set_cons_succ, nI_succ, sumI]; rw [t1] at h70; rw [t0] at h86; try rw [t2, bl_eq hL hW hk]; first | exact absurd h86 (hx h70) | (rw [if_pos h70]; simp) | (rw [if_neg h70, if_pos h86, ← Int32.sub_eq_add_neg]; simp) | (rw [if_neg h70, if_neg h86, Int32.add_zero]; simp)
        · refine r_iload_n dX2_balanceOf_89 rfl ?_
          refine r_iload dX2_balanceOf_90 rfl ?_
          refine r_isub dX2_balanceOf_92 ?_
          refine s_istore_n 3 dX2_balanceOf_93 (by decide) rfl rfl ?_
          refine s_iinc dX2_balanceOf_94 rfl (by decide) rfl ?_
          refine r_goto 5 dX2_balanceOf_97 (by decide) ?_
          refine m_sub ih ?_; simp only [a_sub, List.set_cons_zero, List.set_cons_succ, nI_succ, sumI]; rw [t1] at h70; rw [t0] at h86; try rw [t2, bl_eq hL hW hk]; first | exact absurd h86 (hx h70) | (rw [if_pos h70]; simp) | (rw [if_neg h70, if_pos h86, ← Int32.sub_eq_add_neg]; simp) | (rw [if_neg h70, if_neg h86, Int32.add_zero]; simp)
      · refine r_iload_n dX2_balanceOf_73 rfl ?_
        refine r_iload dX2_balanceOf_74 rfl ?_
        refine r_iadd dX2_balanceOf_76 ?_
        refine s_istore_n 3 dX2_balanceOf_77 (by decide) rfl rfl ?_
        refine r_aload_n dX2_balanceOf_78 rfl ?_
        refine m_get 2 1 dX2_balanceOf_79 fl_X2_9 (ob_loans hP) rfl ?_
        refine r_iload dX2_balanceOf_82 rfl ?_
        refine m_iald k dX2_balanceOf_84 (ai_from hP) rfl (by omega) (by first | decide | assumption) ?_
        refine r_iload_n dX2_balanceOf_85 rfl ?_
        refine r_icmp_ne 94 dX2_balanceOf_86 (by decide) (fun h86 => ?_) (fun h86 => ?_)
        · refine s_iinc dX2_balanceOf_94 rfl (by decide) rfl ?_
          refine r_goto 5 dX2_balanceOf_97 (by decide) ?_
          refine m_sub ih ?_; simp only [a_sub, List.set_cons_zero, List.set_cons_succ, nI_succ, sumI]; rw [t1] at h70; rw [t0] at h86; try rw [t2, bl_eq hL hW hk]; first | exact absurd h86 (hx h70) | (rw [if_pos h70]; simp) | (rw [if_neg h70, if_pos h86, ← Int32.sub_eq_add_neg]; simp) | (rw [if_neg h70, if_neg h86, Int32.add_zero]; simp)
        · refine r_iload_n dX2_balanceOf_89 rfl ?_
          refine r_iload dX2_balanceOf_90 rfl ?_
          refine r_isub dX2_balanceOf_92 ?_
          refine s_istore_n 3 dX2_balanceOf_93 (by decide) rfl rfl ?_
          refine s_iinc dX2_balanceOf_94 rfl (by decide) rfl ?_
          refine r_goto 5 dX2_balanceOf_97 (by decide) ?_
          refine m_sub ih ?_; simp only [a_sub, List.set_cons_zero, List.set_cons_succ, nI_succ, sumI]; rw [t1] at h70; rw [t0] at h86; try rw [t2, bl_eq hL hW hk]; first | exact absurd h86 (hx h70) | (rw [if_pos h70]; simp) | (rw [if_neg h70, if_pos h86, ← Int32.sub_eq_add_neg]; simp) | (rw [if_neg h70, if_neg h86, Int32.add_zero]; simp)
  exact lp 0 (Nat.zero_le _)
theorem lnL_len {n : Nat} : (lnL a n).length = n := by simp [lnL]
theorem lnL_get {n k : Nat} (h : k < n) : (lnL a n)[k]? = some (lnT a k) := by simp [lnL, h]
theorem nl_er {l : Nat} (hn : a 7 = nI (nl a)) (hl : l < nl a) (h8 : nl a ≤ 8) : nl (erL a l) = nl a - 1 := by
  show zN (if 7 = 7 then a 7 - 1 else _) = _
  rw [if_pos rfl, hn, show (1 : Int32) = nI 1 from rfl, pk_sub (by omega), zN, nI_clamp (by omega)]
theorem er_ln {l k f : Nat} (h8 : nl a ≤ 8) (hk : k < nl a - 1) (hf : f < 5) : ln (erL a l) k f = if l ≤ k then ln a (k + 1) f else ln a k f := by
  show erL a l (268 + 5 * k + f) = _
  unfold erL
  rw [if_neg (by omega)]
  by_cases h : l ≤ k
  · rw [if_pos h, if_pos (by omega)]
    exact congrArg a (by omega)
  · rw [if_neg h, if_neg (by omega)]
theorem er_lst {l : Nat} (hn : a 7 = nI (nl a)) (hl : l < nl a) (h8 : nl a ≤ 8) : lnL (erL a l) (nl a - 1) = (lnL a (nl a)).eraseIdx l := by
  refine List.ext_getElem? fun i => ?_
  rw [List.getElem?_eraseIdx]
  by_cases hi : i < nl a - 1
  · rw [lnL_get hi]
    simp only [lnT]
    rw [er_ln h8 hi (by omega), er_ln h8 hi (by omega), er_ln h8 hi (by omega), er_ln h8 hi (by omega), er_ln h8 hi (by omega)]
    by_cases h : i < l
    · rw [if_pos h, lnL_get (by omega)]; simp [show ¬ l ≤ i by omega]
    · rw [if_neg h, lnL_get (by omega)]; simp [show l ≤ i by omega]
  · rw [List.getElem?_eq_none (by rw [lnL_len]; omega)]
    by_cases h : i < l
    · omega
    · rw [if_neg h, List.getElem?_eq_none (by rw [lnL_len]; omega)]
theorem drD_ok (t : Int32) : ∀ n (a : Nat → Int32), a 0 = t → a 7 = nI (nl a) → nl a ≤ 8 → n ≤ nl a → (drD n a) 7 = nI (nl (drD n a)) ∧ lnL (drD n a) (nl (drD n a)) = ((lnL a (nl a)).take n).filter (lvT t) ++ (lnL a (nl a)).drop n ∧ (∀ i, i ≠ 7 → (i < 268 ∨ 308 ≤ i) → drD n a i = a i) := by
  intro n
  induction n with
  | zero =>
    intro a h0 h7 h8 hn
    exact ⟨h7, by simp [drD], fun i _ _ => rfl⟩
  | succ n ih =>
    intro a h0 h7 h8 hn
    rw [drD]
    have hg : (lnL a (nl a))[n]'(by rw [lnL_len]; omega) = lnT a n := by
      have := lnL_get (a := a) (n := nl a) (k := n) (by omega)
      rw [List.getElem?_eq_getElem (by rw [lnL_len]; omega)] at this
      exact Option.some.inj this
    have ht : (lnL a (nl a)).take (n + 1) = (lnL a (nl a)).take n ++ [lnT a n] := by
      rw [List.take_succ_eq_append_getElem (by rw [lnL_len]; omega), hg]
    have hd : (lnL a (nl a)).drop n = lnT a n :: (lnL a (nl a)).drop (n + 1) := by
      rw [List.drop_eq_getElem_cons (by rw [lnL_len]; omega), hg]
    by_cases hp : a 0 < gnS a n
    · rw [if_pos hp]
      obtain ⟨g1, g2, g3⟩ := ih a h0 h7 h8 (by omega)
      refine ⟨g1, ?_, g3⟩
      rw [g2, ht, hd, List.filter_append]
      have : lvT t (lnT a n) = true := by rw [lvT, decide_eq_true_iff, ← h0]; exact hp
      simp [this]
    · rw [if_neg hp]
      have e7 := nl_er h7 (show n < nl a by omega) h8
      have e8 : (erL a n) 7 = nI (nl (erL a n)) := by
        rw [e7]
        show (if 7 = 7 then a 7 - 1 else _) = _
        rw [if_pos rfl, h7, show (1 : Int32) = nI 1 from rfl, pk_sub (by omega)]
        try (congr 1; rw [← h7])
      obtain ⟨g1, g2, g3⟩ := ih (erL a n) (by show (if 0 = 7 then _ else _) = t; rw [if_neg (by omega), if_neg (by omega)]; exact h0) e8 (by rw [e7]; omega) (by rw [e7]; omega)
      refine ⟨g1, ?_, fun i h1 h2 => ?_⟩
      · rw [g2, e7, er_lst h7 (by omega) h8, ht, List.filter_append, List.eraseIdx_eq_take_drop_succ]
        have : lvT t (lnT a n) = false := by rw [lvT, decide_eq_false_iff_not, ← h0]; exact hp
        have hl : (lnL a (nl a)).length = nl a := lnL_len
        simp [this, List.take_append_of_le_length, List.drop_append_of_le_length, hl, Nat.min_eq_left (show n ≤ nl a by omega)]
      · rw [g3 i h1 h2]
        show (if i = 7 then _ else if _ then _ else _) = _
        rw [if_neg h1, if_neg (by omega)]
theorem drS_ok (hn : a 7 = nI (nl a)) (h8 : nl a ≤ 8) : (drS a) 7 = nI (nl (drS a)) ∧ lnL (drS a) (nl (drS a)) = (lnL a (nl a)).filter (lvT (a 0)) ∧ (∀ i, i ≠ 7 → (i < 268 ∨ 308 ≤ i) → drS a i = a i) := by
  obtain ⟨g1, g2, g3⟩ := drD_ok (a 0) (nl a) a rfl hn h8 (Nat.le_refl _)
  refine ⟨g1, ?_, g3⟩
  have hl : (lnL a (nl a)).length = nl a := lnL_len
  rw [drS, g2, List.take_of_length_le (by omega), List.drop_of_length_le (by omega), List.append_nil]
end LN2
