/-! THE LAW'S LOOP -/
section LOOP
variable {LL : Nat} {xs : Nat → Int32} {Q : a_Q}
theorem ll_gt {k : Nat} (hLL : LL ≤ 65536) (hk : 6 * k ≤ LL + 5) (h : ¬ 6 * k + 6 ≤ LL) : nI LL - 6 < nI (6 * k) := by
  by_cases z : 6 ≤ LL
  · rw [show (6 : Int32) = nI 6 from rfl, pk_sub z]; exact nI_lt (by omega) (by omega)
  · have h0 : nI LL - 6 < 0 := by
      rcases (show LL = 0 ∨ LL = 1 ∨ LL = 2 ∨ LL = 3 ∨ LL = 4 ∨ LL = 5 by omega) with y | y | y | y | y | y <;> subst y <;> decide
    exact Int32.lt_of_lt_of_le h0 (nI_pos' (by omega))
theorem law_loop {C0 S0 : Nat} (hLL : LL ≤ 65536) (hC0 : C0 ≤ 400) (hS0 : S0 ≤ 20000) (hq : ∀ M' L' dd', Q (.inl (some (.int 1))) (hS M' L' dd')) : ∀ d k (M : Nat → Nat → Int32) (L : Nat → Nat → Int64) (dd : UInt64) (R : List Row), LL ≤ 6 * k + d → 6 * k ≤ LL + 5 → J M R → AW (I_L_law LL xs) 28 [.ref 5000, .ref 0, .ref 317, .ref 325, .ref 326, .int (nI (6 * k)), .null, .null, .null] [] (hS M L dd) (C0 + 7 * k) (S0 + 42 * k) Q := by
  have fin : ∀ k (M : Nat → Nat → Int32) (L : Nat → Nat → Int64) (dd : UInt64), 6 * k ≤ LL + 5 → ¬ 6 * k + 6 ≤ LL → AW (I_L_law LL xs) 28 [.ref 5000, .ref 0, .ref 317, .ref 325, .ref 326, .int (nI (6 * k)), .null, .null, .null] [] (hS M L dd) (C0 + 7 * k) (S0 + 42 * k) Q := by
    intro k M L dd h1 h2
    refine r_iload dL_law_28 rfl ?_
    refine r_aload_n dL_law_30 rfl ?_
    refine r_slen dL_law_31 rfl ?_
    refine r_bipush 6 dL_law_32 (by decide) ?_
    refine r_isub dL_law_34 ?_
    refine r_icmp_gt 1803 dL_law_35 (by decide) (fun _ => ?_) (fun z => absurd (ll_gt hLL h1 h2) z)
    refine r_iconst_1 dL_law_1803 ?_
    exact r_zret true dL_law_1804 rfl rfl (hq _ _ _)
  intro d
  induction d with
  | zero => exact fun k M L dd R h1 h2 hJ => fin k M L dd h2 (by omega)
  | succ d ih =>
    intro k M L dd R h1 h2 hJ
    by_cases h3 : 6 * k + 6 ≤ LL
    · have hb : ∀ q : Nat, 1 ≤ q → q ≤ 5 → vp_in (nI (6 * k) + nI q) LL := fun q g1 g2 => by rw [nI_add]; exact vp_in_nI (by omega) (by omega)
      have hu : C0 + 7 * k + 7 ≤ 601024 := by omega
      have hv : S0 + 42 * k + 42 ≤ 7293034 := by omega
      have nx : BNext LL xs (6 * k) (C0 + 7 * k + 7) (S0 + 42 * k + 42) Q := by
        intro M' L' dd' R' hJ'
        have g := ih (k + 1) M' L' dd' R' (by omega) (by omega) hJ'
        rw [show C0 + 7 * (k + 1) = C0 + 7 * k + 7 by omega, show S0 + 42 * (k + 1) = S0 + 42 * k + 42 by omega] at g
        have e6 : nI (6 * k) + 6 = nI (6 * (k + 1)) := by rw [show (6 : Int32) = nI 6 from rfl, nI_add]; exact congrArg nI (by omega)
        refine s_iincN dL_law_1797 rfl (Nat.le_of_ble_eq_true rfl) rfl ?_
        refine r_goto 28 dL_law_1800 (by decide) ?_
        exact m_sub g (by simp [a_sub, ← e6])
      refine r_iload dL_law_28 rfl ?_
      refine r_aload_n dL_law_30 rfl ?_
      refine r_slen dL_law_31 rfl ?_
      refine r_bipush 6 dL_law_32 (by decide) ?_
      refine r_isub dL_law_34 ?_
      refine r_icmp_gt 1803 dL_law_35 (by decide) (fun z => absurd z (by rw [show (6 : Int32) = nI 6 from rfl]; show ¬ nI LL - nI 6 < _; rw [pk_sub (by omega)]; exact nI_nlt (by omega) (by omega))) (fun _ => ?_)
      refine r_aload_n dL_law_38 rfl ?_
      refine r_iload dL_law_39 rfl ?_
      refine r_sald dL_law_41 rfl (vp_in_nI (by omega) (by omega)) ?_
      refine r_bipush 31 dL_law_42 (by decide) ?_
      refine r_iand dL_law_44 ?_
      by_cases w45_0 : xs (nI (6 * k)).toNatClampNeg &&& 31 = 0
      · refine r_swIn 172 dL_law_45 (by rw [w45_0]; decide) (by rw [w45_0]; decide) (by rw [w45_0]; rfl) (by decide) ?_
        exact b_append hJ hb hu hv nx
      by_cases w45_1 : xs (nI (6 * k)).toNatClampNeg &&& 31 = 1
      · refine r_swIn 276 dL_law_45 (by rw [w45_1]; decide) (by rw [w45_1]; decide) (by rw [w45_1]; rfl) (by decide) ?_
        exact b_load hJ hb hu hv nx
      by_cases w45_2 : xs (nI (6 * k)).toNatClampNeg &&& 31 = 2
      · refine r_swIn 332 dL_law_45 (by rw [w45_2]; decide) (by rw [w45_2]; decide) (by rw [w45_2]; rfl) (by decide) ?_
        exact b_errorPosition hJ hu hv nx
      by_cases w45_3 : xs (nI (6 * k)).toNatClampNeg &&& 31 = 3
      · refine r_swIn 345 dL_law_45 (by rw [w45_3]; decide) (by rw [w45_3]; decide) (by rw [w45_3]; rfl) (by decide) ?_
        exact b_count hJ hb hu hv nx
      by_cases w45_4 : xs (nI (6 * k)).toNatClampNeg &&& 31 = 4
      · refine r_swIn 401 dL_law_45 (by rw [w45_4]; decide) (by rw [w45_4]; decide) (by rw [w45_4]; rfl) (by decide) ?_
        exact b_user hJ hb hu hv nx
      by_cases w45_5 : xs (nI (6 * k)).toNatClampNeg &&& 31 = 5
      · refine r_swIn 469 dL_law_45 (by rw [w45_5]; decide) (by rw [w45_5]; decide) (by rw [w45_5]; rfl) (by decide) ?_
        exact b_addUser hJ hb hu hv nx
      by_cases w45_6 : xs (nI (6 * k)).toNatClampNeg &&& 31 = 6
      · refine r_swIn 537 dL_law_45 (by rw [w45_6]; decide) (by rw [w45_6]; decide) (by rw [w45_6]; rfl) (by decide) ?_
        exact b_setShares hJ hb hu hv nx
      by_cases w45_7 : xs (nI (6 * k)).toNatClampNeg &&& 31 = 7
      · refine r_swIn 605 dL_law_45 (by rw [w45_7]; decide) (by rw [w45_7]; decide) (by rw [w45_7]; rfl) (by decide) ?_
        exact b_lend hJ hb hu hv nx
      by_cases w45_8 : xs (nI (6 * k)).toNatClampNeg &&& 31 = 8
      · refine r_swIn 697 dL_law_45 (by rw [w45_8]; decide) (by rw [w45_8]; decide) (by rw [w45_8]; rfl) (by decide) ?_
        exact b_loan hJ hb hu hv nx
      by_cases w45_9 : xs (nI (6 * k)).toNatClampNeg &&& 31 = 9
      · refine r_swIn 765 dL_law_45 (by rw [w45_9]; decide) (by rw [w45_9]; decide) (by rw [w45_9]; rfl) (by decide) ?_
        exact b_balance hJ hb hu hv nx
      by_cases w45_10 : xs (nI (6 * k)).toNatClampNeg &&& 31 = 10
      · refine r_swIn 821 dL_law_45 (by rw [w45_10]; decide) (by rw [w45_10]; decide) (by rw [w45_10]; rfl) (by decide) ?_
        exact b_ranked hJ hb hu hv nx
      by_cases w45_11 : xs (nI (6 * k)).toNatClampNeg &&& 31 = 11
      · refine r_swIn 877 dL_law_45 (by rw [w45_11]; decide) (by rw [w45_11]; decide) (by rw [w45_11]; rfl) (by decide) ?_
        exact b_worth hJ hb hu hv nx
      by_cases w45_12 : xs (nI (6 * k)).toNatClampNeg &&& 31 = 12
      · refine r_swIn 944 dL_law_45 (by rw [w45_12]; decide) (by rw [w45_12]; decide) (by rw [w45_12]; rfl) (by decide) ?_
        exact b_machine hJ hb hu hv nx
      by_cases w45_13 : xs (nI (6 * k)).toNatClampNeg &&& 31 = 13
      · refine r_swIn 1012 dL_law_45 (by rw [w45_13]; decide) (by rw [w45_13]; decide) (by rw [w45_13]; rfl) (by decide) ?_
        exact b_job hJ hb hu hv nx
      by_cases w45_14 : xs (nI (6 * k)).toNatClampNeg &&& 31 = 14
      · refine r_swIn 1080 dL_law_45 (by rw [w45_14]; decide) (by rw [w45_14]; decide) (by rw [w45_14]; rfl) (by decide) ?_
        exact b_first hJ hb hu hv nx
      by_cases w45_15 : xs (nI (6 * k)).toNatClampNeg &&& 31 = 15
      · refine r_swIn 1124 dL_law_45 (by rw [w45_15]; decide) (by rw [w45_15]; decide) (by rw [w45_15]; rfl) (by decide) ?_
        exact b_submit hJ hb hu hv nx
      by_cases w45_16 : xs (nI (6 * k)).toNatClampNeg &&& 31 = 16
      · refine r_swIn 1192 dL_law_45 (by rw [w45_16]; decide) (by rw [w45_16]; decide) (by rw [w45_16]; rfl) (by decide) ?_
        exact b_cancel hJ hb hu hv nx
      by_cases w45_17 : xs (nI (6 * k)).toNatClampNeg &&& 31 = 17
      · refine r_swIn 1248 dL_law_45 (by rw [w45_17]; decide) (by rw [w45_17]; decide) (by rw [w45_17]; rfl) (by decide) ?_
        exact b_setUp hJ hb hu hv nx
      by_cases w45_18 : xs (nI (6 * k)).toNatClampNeg &&& 31 = 18
      · refine r_swIn 1332 dL_law_45 (by rw [w45_18]; decide) (by rw [w45_18]; decide) (by rw [w45_18]; rfl) (by decide) ?_
        exact b_set hJ hb hu hv nx
      by_cases w45_19 : xs (nI (6 * k)).toNatClampNeg &&& 31 = 19
      · refine r_swIn 1400 dL_law_45 (by rw [w45_19]; decide) (by rw [w45_19]; decide) (by rw [w45_19]; rfl) (by decide) ?_
        exact b_tick hJ hb hu hv nx
      by_cases w45_20 : xs (nI (6 * k)).toNatClampNeg &&& 31 = 20
      · refine r_swIn 1456 dL_law_45 (by rw [w45_20]; decide) (by rw [w45_20]; decide) (by rw [w45_20]; rfl) (by decide) ?_
        exact b_finishedIn hJ hb hu hv nx
      by_cases w45_21 : xs (nI (6 * k)).toNatClampNeg &&& 31 = 21
      · refine r_swIn 1512 dL_law_45 (by rw [w45_21]; decide) (by rw [w45_21]; decide) (by rw [w45_21]; rfl) (by decide) ?_
        exact b_ahead hJ hb hu hv nx
      by_cases w45_22 : xs (nI (6 * k)).toNatClampNeg &&& 31 = 22
      · refine r_swIn 1580 dL_law_45 (by rw [w45_22]; decide) (by rw [w45_22]; decide) (by rw [w45_22]; rfl) (by decide) ?_
        exact b_drift hJ hu hv nx
      by_cases w45_23 : xs (nI (6 * k)).toNatClampNeg &&& 31 = 23
      · refine r_swIn 1593 dL_law_45 (by rw [w45_23]; decide) (by rw [w45_23]; decide) (by rw [w45_23]; rfl) (by decide) ?_
        exact b_part hJ hb hu hv nx
      by_cases w45_24 : xs (nI (6 * k)).toNatClampNeg &&& 31 = 24
      · refine r_swIn 1671 dL_law_45 (by rw [w45_24]; decide) (by rw [w45_24]; decide) (by rw [w45_24]; rfl) (by decide) ?_
        exact b_neediest hJ hu hv nx
      by_cases w45_25 : xs (nI (6 * k)).toNatClampNeg &&& 31 = 25
      · refine r_swIn 1684 dL_law_45 (by rw [w45_25]; decide) (by rw [w45_25]; decide) (by rw [w45_25]; rfl) (by decide) ?_
        exact b_writeMachines hJ hu hv nx
      by_cases w45_26 : xs (nI (6 * k)).toNatClampNeg &&& 31 = 26
      · refine r_swIn 1697 dL_law_45 (by rw [w45_26]; decide) (by rw [w45_26]; decide) (by rw [w45_26]; rfl) (by decide) ?_
        exact b_writtenByte hJ hb hu hv nx
      by_cases w45_27 : xs (nI (6 * k)).toNatClampNeg &&& 31 = 27
      · refine r_swIn 1753 dL_law_45 (by rw [w45_27]; decide) (by rw [w45_27]; decide) (by rw [w45_27]; rfl) (by decide) ?_
        exact b_undo hJ hb hu hv nx
      refine r_swOut 1797 dL_law_45 (by have e0 : (xs (nI (6 * k)).toNatClampNeg &&& 31).toInt ≠ 0 := fun z => w45_0 (Int32.toInt_inj.mp (z.trans (by decide))); have e1 : (xs (nI (6 * k)).toNatClampNeg &&& 31).toInt ≠ 1 := fun z => w45_1 (Int32.toInt_inj.mp (z.trans (by decide))); have e2 : (xs (nI (6 * k)).toNatClampNeg &&& 31).toInt ≠ 2 := fun z => w45_2 (Int32.toInt_inj.mp (z.trans (by decide))); have e3 : (xs (nI (6 * k)).toNatClampNeg &&& 31).toInt ≠ 3 := fun z => w45_3 (Int32.toInt_inj.mp (z.trans (by decide))); have e4 : (xs (nI (6 * k)).toNatClampNeg &&& 31).toInt ≠ 4 := fun z => w45_4 (Int32.toInt_inj.mp (z.trans (by decide))); have e5 : (xs (nI (6 * k)).toNatClampNeg &&& 31).toInt ≠ 5 := fun z => w45_5 (Int32.toInt_inj.mp (z.trans (by decide))); have e6 : (xs (nI (6 * k)).toNatClampNeg &&& 31).toInt ≠ 6 := fun z => w45_6 (Int32.toInt_inj.mp (z.trans (by decide))); have e7 : (xs (nI (6 * k)).toNatClampNeg &&& 31).toInt ≠ 7 := fun z => w45_7 (Int32.toInt_inj.mp (z.trans (by decide))); have e8 : (xs (nI (6 * k)).toNatClampNeg &&& 31).toInt ≠ 8 := fun z => w45_8 (Int32.toInt_inj.mp (z.trans (by decide))); have e9 : (xs (nI (6 * k)).toNatClampNeg &&& 31).toInt ≠ 9 := fun z => w45_9 (Int32.toInt_inj.mp (z.trans (by decide))); have e10 : (xs (nI (6 * k)).toNatClampNeg &&& 31).toInt ≠ 10 := fun z => w45_10 (Int32.toInt_inj.mp (z.trans (by decide))); have e11 : (xs (nI (6 * k)).toNatClampNeg &&& 31).toInt ≠ 11 := fun z => w45_11 (Int32.toInt_inj.mp (z.trans (by decide))); have e12 : (xs (nI (6 * k)).toNatClampNeg &&& 31).toInt ≠ 12 := fun z => w45_12 (Int32.toInt_inj.mp (z.trans (by decide))); have e13 : (xs (nI (6 * k)).toNatClampNeg &&& 31).toInt ≠ 13 := fun z => w45_13 (Int32.toInt_inj.mp (z.trans (by decide))); have e14 : (xs (nI (6 * k)).toNatClampNeg &&& 31).toInt ≠ 14 := fun z => w45_14 (Int32.toInt_inj.mp (z.trans (by decide))); have e15 : (xs (nI (6 * k)).toNatClampNeg &&& 31).toInt ≠ 15 := fun z => w45_15 (Int32.toInt_inj.mp (z.trans (by decide))); have e16 : (xs (nI (6 * k)).toNatClampNeg &&& 31).toInt ≠ 16 := fun z => w45_16 (Int32.toInt_inj.mp (z.trans (by decide))); have e17 : (xs (nI (6 * k)).toNatClampNeg &&& 31).toInt ≠ 17 := fun z => w45_17 (Int32.toInt_inj.mp (z.trans (by decide))); have e18 : (xs (nI (6 * k)).toNatClampNeg &&& 31).toInt ≠ 18 := fun z => w45_18 (Int32.toInt_inj.mp (z.trans (by decide))); have e19 : (xs (nI (6 * k)).toNatClampNeg &&& 31).toInt ≠ 19 := fun z => w45_19 (Int32.toInt_inj.mp (z.trans (by decide))); have e20 : (xs (nI (6 * k)).toNatClampNeg &&& 31).toInt ≠ 20 := fun z => w45_20 (Int32.toInt_inj.mp (z.trans (by decide))); have e21 : (xs (nI (6 * k)).toNatClampNeg &&& 31).toInt ≠ 21 := fun z => w45_21 (Int32.toInt_inj.mp (z.trans (by decide))); have e22 : (xs (nI (6 * k)).toNatClampNeg &&& 31).toInt ≠ 22 := fun z => w45_22 (Int32.toInt_inj.mp (z.trans (by decide))); have e23 : (xs (nI (6 * k)).toNatClampNeg &&& 31).toInt ≠ 23 := fun z => w45_23 (Int32.toInt_inj.mp (z.trans (by decide))); have e24 : (xs (nI (6 * k)).toNatClampNeg &&& 31).toInt ≠ 24 := fun z => w45_24 (Int32.toInt_inj.mp (z.trans (by decide))); have e25 : (xs (nI (6 * k)).toNatClampNeg &&& 31).toInt ≠ 25 := fun z => w45_25 (Int32.toInt_inj.mp (z.trans (by decide))); have e26 : (xs (nI (6 * k)).toNatClampNeg &&& 31).toInt ≠ 26 := fun z => w45_26 (Int32.toInt_inj.mp (z.trans (by decide))); have e27 : (xs (nI (6 * k)).toNatClampNeg &&& 31).toInt ≠ 27 := fun z => w45_27 (Int32.toInt_inj.mp (z.trans (by decide))); omega) (by decide) ?_
      exact r_wide (Nat.le_add_right _ 7) (Nat.le_add_right _ 42) hu hv (nx M L dd R hJ)
    · exact fin k M L dd h2 h3
end LOOP
