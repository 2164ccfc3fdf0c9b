theorem zN_lt (x : Int32) : zN x < 2 ^ 31 := by
  have h := Int32.toInt_lt x
  have e : x.toNatClampNeg = x.toInt.toNat := rfl
  show x.toNatClampNeg < _
  omega
theorem wo_pos {us : Int32} {q : Nat} (hu : us = nI (zN us)) (h1 : 1 ≤ q) (h2 : q < 100) : (0 : Int64) < (1000 + us.toInt64) * (nI q).toInt64 := by
  have hx := zN_lt us
  rw [hu, nI_l hx, nI_l (by omega), show (1000 : Int64) = lN 1000 from rfl, lN_add, lN_mul, Int64.lt_iff_toInt_lt]
  have hb : (1000 + zN us) * q < 2 ^ 63 := Nat.lt_of_le_of_lt (Nat.mul_le_mul (show 1000 + zN us ≤ 2 ^ 32 by omega) (show q ≤ 100 by omega)) (by decide)
  have hp : 0 < (1000 + zN us) * q := Nat.mul_pos (by omega) (by omega)
  rw [lN_toI hb]
  have e3 : (0 : Int64).toInt = 0 := by decide
  omega
theorem ne_of_pos {x : Int64} (h : 0 < x) : ¬ x = 0 := fun z => by rw [z] at h; exact absurd h (by decide)
def MK (M : Nat → Nat → Int32) (a : Nat → Int32) : Prop := ∀ u, u < nu a → M 323 u = tkS a u
def Fm (M M' : Nat → Nat → Int32) : Prop := ∀ c, c ≠ 318 → c ≠ 323 → M' c = M c
theorem fm_r {M : Nat → Nat → Int32} : Fm M M := fun _ _ _ => rfl
theorem fm_t {M M1 M2 : Nat → Nat → Int32} (h : Fm M M1) (h2 : Fm M1 M2) : Fm M M2 := fun c h3 h4 => (h2 c h3 h4).trans (h c h3 h4)
theorem fm_a {M M' : Nat → Nat → Int32} {r : Nat → Int32} (h : Fm M M') : Fm M (mU M' 318 r) := fun c h3 h4 => (mU_n h3).trans (h c h3 h4)
theorem lo_pos {a : Nat → Int32} {j u : Nat} (hj : j < nj a) (h3 : jb a j 3 = 1) (h0 : jb a j 0 = nI u) : ∃ n, 1 ≤ n ∧ n ≤ nj a ∧ loS a u = nI n := by
  refine ⟨sumN (fun j => if jb a j 3 = 1 ∧ jb a j 0 = nI u then 1 else 0) (nj a), ?_, ?_, sumI_nat (fun k hk => ?_)⟩
  · have := sumN_le (f := fun j => if jb a j 3 = 1 ∧ jb a j 0 = nI u then 1 else 0) hj
    simp only [h3, h0, and_self, if_true] at this
    exact this
  · have := sumN_mul (f := fun j => if jb a j 3 = 1 ∧ jb a j 0 = nI u then 1 else 0) (n := nj a) (b := 1) (fun k hk => by by_cases h : jb a k 3 = 1 ∧ jb a k 0 = nI u <;> simp [h])
    omega
  · by_cases h : jb a k 3 = 1 ∧ jb a k 0 = nI u
    · rw [if_pos h, if_pos h]; rfl
    · rw [if_neg h, if_neg h]; rfl
theorem at318 {M M1 : Nat → Nat → Int32} {r : Nat → Int32} (h : M1 = mU M 318 r) : M1 318 = r := by rw [h, mU_s]
section MODEL3
variable {M : Nat → Nat → Int32} {L : Nat → Nat → Int64} {dd : UInt64} {a : Nat → Int32} {T B : Nat}
theorem c_X10_worksTickets (hA : M 318 = a) (wU : WU a) (wL : WL a) : PO yX10_worksTickets I_X10_worksTickets [.ref 317] M L dd none (fun M' L' => L' = L ∧ Fr 323 324 M M' ∧ MK M' a) := by
  have h12 := wU.2.2.1
  refine po_mk (fun Q hq => ?_)
  refine a_met (by decide +kernel) rfl rfl (Nat.le_of_ble_eq_true rfl) (by simp [Value.category]) (by decide) rfl ?_
  show AW I_X10_worksTickets 0 [.ref 317, .null] [] (hS M L dd) 0 0 Q
  refine r_iconst_0 dX10_worksTickets_0 ?_
  refine s_istore_n 1 dX10_worksTickets_1 (by decide) rfl rfl ?_
  have lp : ∀ k, k ≤ nu a → ∀ M' : Nat → Nat → Int32, Fr 323 324 M M' → (∀ u, u < k → M' 323 u = tkS a u) → AW I_X10_worksTickets 2 [.ref 317, .int (nI k)] [] (hS M' L dd) 0 0 Q := by
    refine lp_up _ ?_ ?_
    · intro M' f1 f2 
      have e : M' 318 = a := (f1 318 (by omega)).trans hA
      refine r_iload_n dX10_worksTickets_2 rfl ?_
      refine r_aload_n dX10_worksTickets_3 rfl ?_
      refine m_get 10 0 dX10_worksTickets_4 fl_X10_7 ob_model rfl ?_
      refine r_iconst_4 dX10_worksTickets_7 ?_
      refine m_iald 4 dX10_worksTickets_8 ai_a rfl (by omega) (by first | decide | assumption) ?_
      refine r_icmp_ge 29 dX10_worksTickets_9 (by decide) (fun _ => ?_) (fun z => absurd (by rw [e, wU.1]; exact nI_le (Nat.le_refl _) (by omega)) z)
      exact r_vret dX10_worksTickets_29 rfl (hq _ _ ⟨rfl, f1, f2⟩)
    · intro k hk ih M' f1 f2 
      have e : M' 318 = a := (f1 318 (by omega)).trans hA
      refine r_iload_n dX10_worksTickets_2 rfl ?_
      refine r_aload_n dX10_worksTickets_3 rfl ?_
      refine m_get 10 0 dX10_worksTickets_4 fl_X10_7 ob_model rfl ?_
      refine r_iconst_4 dX10_worksTickets_7 ?_
      refine m_iald 4 dX10_worksTickets_8 ai_a rfl (by omega) (by first | decide | assumption) ?_
      refine r_icmp_ge 29 dX10_worksTickets_9 (by decide) (fun z => absurd z (by rw [e, wU.1]; exact nI_ge hk (by omega))) (fun _ => ?_)
      refine r_aload_n dX10_worksTickets_12 rfl ?_
      refine m_get 10 16 dX10_worksTickets_13 fl_X10_29 ob_model rfl ?_
      refine r_iload_n dX10_worksTickets_16 rfl ?_
      refine r_aload_n dX10_worksTickets_17 rfl ?_
      refine r_iload_n dX10_worksTickets_18 rfl ?_
      refine m_cv1 dX10_worksTickets_19 cv_X10_195 (c_X10_ticketsOf e wU wL hk) rfl ob_model ⟨_, rfl, rfl⟩ ⟨rfl, rfl⟩ (by decide) (by decide) (Nat.le_of_ble_eq_true rfl) ?_
      refine m_iast k dX10_worksTickets_22 ai_mtickets rfl (by omega) (by first | decide | assumption) ?_
      refine s_iinc dX10_worksTickets_23 rfl (by decide) rfl ?_
      refine r_goto 2 dX10_worksTickets_26 (by decide) ?_
      refine m_sub (ih _ (fr_u f1 (by omega)) (fun u hu => ?_)) (by simp [a_sub, nI_succ])
      rw [mU_s]
      by_cases z : u = k
      · rw [z, upd_eq]
      · rw [upd_ne z]; exact f2 u (by omega)
  exact m_sub (lp 0 (Nat.zero_le _) M fr_r (fun u hu => by omega)) (by simp [a_sub, nI_0])
theorem c_X10_worthOf {u q : Nat} {k : Int32} (hA : M 318 = a) (hK : MK M a) (h12 : nu a ≤ 12) (hu : u < nu a) (hx : a (34 + u) = nI (zN (a (34 + u)))) (hk : k = nI q) (h1 : 1 ≤ q) (h2 : q < 100) : AD yX10_worthOf I_X10_worthOf [.ref 317, .int (nI u), .int k] (hS M L dd) (.inl (some (.long (woS (tkS a u) (a (34 + u)) k)))) (hS M L dd) := by
  have hp := wo_pos hx h1 h2
  rw [← hk] at hp
  intro Q hq
  refine a_met (by decide +kernel) rfl rfl (Nat.le_of_ble_eq_true rfl) (by simp [Value.category]) (by decide) rfl ?_
  show AW I_X10_worthOf 0 [.ref 317, .int (nI u), .int k] [] (hS M L dd) 0 0 Q
  refine r_aload_n dX10_worthOf_0 rfl ?_
  refine m_get 10 16 dX10_worthOf_1 fl_X10_29 ob_model rfl ?_
  refine r_iload_n dX10_worthOf_4 rfl ?_
  refine m_iald u dX10_worthOf_5 ai_mtickets rfl (by omega) (by first | decide | assumption) ?_
  refine r_i2l dX10_worthOf_6 ?_
  refine r_ldc2 1000 dX10_worthOf_7 k_1407 ?_
  refine r_lmul dX10_worthOf_10 ?_
  refine r_ldc2 1000 dX10_worthOf_11 k_1407 ?_
  refine r_aload_n dX10_worthOf_14 rfl ?_
  refine m_get 10 0 dX10_worthOf_15 fl_X10_7 ob_model rfl ?_
  refine r_bipush 34 dX10_worthOf_18 (by decide) ?_
  refine r_iload_n dX10_worthOf_20 rfl ?_
  refine r_iadd dX10_worthOf_21 ?_
  refine m_iald (34 + u) dX10_worthOf_22 ai_a (nI_add 34 u) (by omega) (by first | decide | assumption) ?_
  refine r_i2l dX10_worthOf_23 ?_
  refine r_ladd dX10_worthOf_24 ?_
  refine r_iload_n dX10_worthOf_25 rfl ?_
  refine r_i2l dX10_worthOf_26 ?_
  refine r_lmul dX10_worthOf_27 ?_
  rw [hK u hu, hA]
  refine r_ldiv dX10_worthOf_28 (ne_of_pos hp) ?_
  exact e_lret dX10_worthOf_29 rfl hq (by unfold woS; rw [if_pos hp])
theorem c_X10_jobWorth0 {j u : Nat} (hA : M 318 = a) (hK : MK M a) (wU : WU a) (wJ : WJ a) (hx : ∀ u, u < nu a → a (34 + u) = nI (zN (a (34 + u)))) (hj : j < nj a) (h3 : jb a j 3 = 0) (h0 : jb a j 0 = nI u) (hu : u < nu a) : AD yX10_jobWorth I_X10_jobWorth [.ref 317, .int (nI j)] (hS M L dd) (.inl (some (.long (wnS a u)))) (hS M L dd) := by
  have h30 := wJ.2.1
  have h12 := wU.2.2.1
  obtain ⟨n, hn, en⟩ := loS_nat a u
  intro Q hq
  refine a_met (by decide +kernel) rfl rfl (Nat.le_of_ble_eq_true rfl) (by simp [Value.category]) (by decide) rfl ?_
  show AW I_X10_jobWorth 0 [.ref 317, .int (nI j), .null] [] (hS M L dd) 0 0 Q
  refine r_aload_n dX10_jobWorth_0 rfl ?_
  refine r_iload_n dX10_jobWorth_1 rfl ?_
  refine r_iconst_0 dX10_jobWorth_2 ?_
  refine m_cv2 dX10_jobWorth_3 cv_X10_175 (c_X10_of (f := 0) hA (by omega) (by omega)) rfl ob_model ⟨_, rfl, rfl⟩ ⟨rfl, rfl⟩ (by decide) (by decide) (Nat.le_of_ble_eq_true rfl) ?_
  simp only [Option.toList_some, List.singleton_append]
  rw [h0]
  refine s_istore_n 2 dX10_jobWorth_6 (by decide) rfl rfl ?_
  refine r_aload_n dX10_jobWorth_7 rfl ?_
  refine r_iload_n dX10_jobWorth_8 rfl ?_
  refine r_aload_n dX10_jobWorth_9 rfl ?_
  refine r_iload_n dX10_jobWorth_10 rfl ?_
  refine r_iconst_3 dX10_jobWorth_11 ?_
  refine m_cv2 dX10_jobWorth_12 cv_X10_175 (c_X10_of (f := 3) hA (by omega) (by omega)) rfl ob_model ⟨_, rfl, rfl⟩ ⟨rfl, rfl⟩ (by decide) (by decide) (Nat.le_of_ble_eq_true rfl) ?_
  refine r_if_ne 28 dX10_jobWorth_15 (by decide) (fun z => absurd h3 z) (fun _ => ?_)
  refine r_aload_n dX10_jobWorth_18 rfl ?_
  refine r_iload_n dX10_jobWorth_19 rfl ?_
  refine m_cv1 dX10_jobWorth_20 cv_X10_216 (c_X10_loadOf hA wJ.1 h30) rfl ob_model ⟨_, rfl, rfl⟩ ⟨rfl, rfl⟩ (by decide) (by decide) (Nat.le_of_ble_eq_true rfl) ?_
  refine r_iconst_1 dX10_jobWorth_23 ?_
  refine r_iadd dX10_jobWorth_24 ?_
  refine r_goto 33 dX10_jobWorth_25 (by decide) ?_
  refine m_cv2 dX10_jobWorth_33 cv_X10_219 (c_X10_worthOf (q := n + 1) hA hK h12 hu (hx u hu) (by rw [en, nI_1]) (by omega) (by omega)) rfl ob_model ⟨_, rfl, rfl⟩ ⟨rfl, rfl⟩ (by decide) (by decide) (Nat.le_of_ble_eq_true rfl) ?_
  exact e_lret dX10_jobWorth_36 rfl hq (rfl)
theorem c_X10_jobWorth1 {j u : Nat} (hA : M 318 = a) (hK : MK M a) (wU : WU a) (wJ : WJ a) (hx : ∀ u, u < nu a → a (34 + u) = nI (zN (a (34 + u)))) (hj : j < nj a) (h3 : jb a j 3 = 1) (h0 : jb a j 0 = nI u) (hu : u < nu a) : AD yX10_jobWorth I_X10_jobWorth [.ref 317, .int (nI j)] (hS M L dd) (.inl (some (.long (wwS a u)))) (hS M L dd) := by
  have h30 := wJ.2.1
  have h12 := wU.2.2.1
  obtain ⟨n, hn1, hn, en⟩ := lo_pos hj h3 h0
  intro Q hq
  refine a_met (by decide +kernel) rfl rfl (Nat.le_of_ble_eq_true rfl) (by simp [Value.category]) (by decide) rfl ?_
  show AW I_X10_jobWorth 0 [.ref 317, .int (nI j), .null] [] (hS M L dd) 0 0 Q
  refine r_aload_n dX10_jobWorth_0 rfl ?_
  refine r_iload_n dX10_jobWorth_1 rfl ?_
  refine r_iconst_0 dX10_jobWorth_2 ?_
  refine m_cv2 dX10_jobWorth_3 cv_X10_175 (c_X10_of (f := 0) hA (by omega) (by omega)) rfl ob_model ⟨_, rfl, rfl⟩ ⟨rfl, rfl⟩ (by decide) (by decide) (Nat.le_of_ble_eq_true rfl) ?_
  simp only [Option.toList_some, List.singleton_append]
  rw [h0]
  refine s_istore_n 2 dX10_jobWorth_6 (by decide) rfl rfl ?_
  refine r_aload_n dX10_jobWorth_7 rfl ?_
  refine r_iload_n dX10_jobWorth_8 rfl ?_
  refine r_aload_n dX10_jobWorth_9 rfl ?_
  refine r_iload_n dX10_jobWorth_10 rfl ?_
  refine r_iconst_3 dX10_jobWorth_11 ?_
  refine m_cv2 dX10_jobWorth_12 cv_X10_175 (c_X10_of (f := 3) hA (by omega) (by omega)) rfl ob_model ⟨_, rfl, rfl⟩ ⟨rfl, rfl⟩ (by decide) (by decide) (Nat.le_of_ble_eq_true rfl) ?_
  refine r_if_ne 28 dX10_jobWorth_15 (by decide) (fun _ => ?_) (fun z => absurd z (by rw [h3]; decide))
  refine r_aload_n dX10_jobWorth_28 rfl ?_
  refine r_iload_n dX10_jobWorth_29 rfl ?_
  refine m_cv1 dX10_jobWorth_30 cv_X10_216 (c_X10_loadOf hA wJ.1 h30) rfl ob_model ⟨_, rfl, rfl⟩ ⟨rfl, rfl⟩ (by decide) (by decide) (Nat.le_of_ble_eq_true rfl) ?_
  refine m_cv2 dX10_jobWorth_33 cv_X10_219 (c_X10_worthOf (q := n) hA hK h12 hu (hx u hu) en hn1 (by omega)) rfl ob_model ⟨_, rfl, rfl⟩ ⟨rfl, rfl⟩ (by decide) (by decide) (Nat.le_of_ble_eq_true rfl) ?_
  exact e_lret dX10_jobWorth_36 rfl hq (rfl)
theorem c_X10_bestWaiting (hA : M 318 = a) (hK : MK M a) (wU : WU a) (wJ : WJ a) (hx : ∀ u, u < nu a → a (34 + u) = nI (zN (a (34 + u)))) : AD yX10_bestWaiting I_X10_bestWaiting [.ref 317] (hS M L dd) (.inl (some (.int (bwS a)))) (hS M L dd) := by
  have h30 := wJ.2.1
  have h12 := wU.2.2.1
  intro Q hq
  refine a_met (by decide +kernel) rfl rfl (Nat.le_of_ble_eq_true rfl) (by simp [Value.category]) (by decide) rfl ?_
  show AW I_X10_bestWaiting 0 [.ref 317, .null, .null, .null, .null, .null, .null] [] (hS M L dd) 0 0 Q
  refine r_iconst_m1 dX10_bestWaiting_0 ?_
  refine s_istore_n 1 dX10_bestWaiting_1 (by decide) rfl rfl ?_
  refine r_lconst_0 dX10_bestWaiting_2 ?_
  refine s_lstore_n 2 dX10_bestWaiting_3 (by decide) rfl rfl ?_
  refine r_iconst_0 dX10_bestWaiting_4 ?_
  refine s_istore dX10_bestWaiting_5 (by decide) rfl ?_
  have lp : ∀ k, k ≤ nj a → AW I_X10_bestWaiting 7 [.ref 317, .int (bwP a k).1, .long (bwP a k).2, .null, .int (nI k), .null, .null] [] (hS M L dd) 0 0 Q := by
    refine lp_up _ ?_ ?_
    · refine r_iload dX10_bestWaiting_7 rfl ?_
      refine r_aload_n dX10_bestWaiting_9 rfl ?_
      refine m_get 10 0 dX10_bestWaiting_10 fl_X10_7 ob_model rfl ?_
      refine r_bipush 6 dX10_bestWaiting_13 (by decide) ?_
      refine m_iald 6 dX10_bestWaiting_15 ai_a rfl (by omega) (by first | decide | assumption) ?_
      refine r_icmp_ge 67 dX10_bestWaiting_16 (by decide) (fun _ => ?_) (fun z => absurd (by rw [hA, wJ.1]; exact nI_le (Nat.le_refl _) (by omega)) z)
      refine r_iload_n dX10_bestWaiting_67 rfl ?_
      exact e_iret dX10_bestWaiting_68 rfl hq (rfl)
    · intro k hk ih 
      obtain ⟨u, hu, hu2, hlf⟩ := wJ.2.2.1 k hk
      refine r_iload dX10_bestWaiting_7 rfl ?_
      refine r_aload_n dX10_bestWaiting_9 rfl ?_
      refine m_get 10 0 dX10_bestWaiting_10 fl_X10_7 ob_model rfl ?_
      refine r_bipush 6 dX10_bestWaiting_13 (by decide) ?_
      refine m_iald 6 dX10_bestWaiting_15 ai_a rfl (by omega) (by first | decide | assumption) ?_
      refine r_icmp_ge 67 dX10_bestWaiting_16 (by decide) (fun z => absurd z (by rw [hA, wJ.1]; exact nI_ge hk (by omega))) (fun _ => ?_)
      refine r_aload_n dX10_bestWaiting_19 rfl ?_
      refine r_iload dX10_bestWaiting_20 rfl ?_
      refine r_iconst_3 dX10_bestWaiting_22 ?_
      refine m_cv2 dX10_bestWaiting_23 cv_X10_175 (c_X10_of (f := 3) hA (by omega) (by omega)) rfl ob_model ⟨_, rfl, rfl⟩ ⟨rfl, rfl⟩ (by decide) (by decide) (Nat.le_of_ble_eq_true rfl) ?_
      refine r_if_eq 32 dX10_bestWaiting_26 (by decide) (fun h26 => ?_) (fun h26 => ?_)
      · refine r_aload_n dX10_bestWaiting_32 rfl ?_
        refine r_iload dX10_bestWaiting_33 rfl ?_
        refine m_cv1 dX10_bestWaiting_35 cv_X10_223 (c_X10_jobWorth0 hA hK wU wJ hx hk h26 hu2 hu) rfl ob_model ⟨_, rfl, rfl⟩ ⟨rfl, rfl⟩ (by decide) (by decide) (Nat.le_of_ble_eq_true rfl) ?_
        refine s_lstore dX10_bestWaiting_38 (by decide) rfl ?_
        refine r_iload_n dX10_bestWaiting_40 rfl ?_
        refine r_iconst_m1 dX10_bestWaiting_41 ?_
        refine r_icmp_eq 55 dX10_bestWaiting_42 (by decide) (fun h42 => ?_) (fun h42 => ?_)
        · refine r_iload dX10_bestWaiting_55 rfl ?_
          refine s_istore_n 1 dX10_bestWaiting_57 (by decide) rfl rfl ?_
          refine r_lload dX10_bestWaiting_58 rfl ?_
          refine s_lstore_n 2 dX10_bestWaiting_60 (by decide) rfl rfl ?_
          refine s_iinc dX10_bestWaiting_61 rfl (by decide) rfl ?_
          refine r_goto 7 dX10_bestWaiting_64 (by decide) ?_
          first | (have e := bw_y h26 hu2 (by omega) (Or.inl h42); exact m_sub ih (by simp [a_sub, nI_succ, e])) | (rw [lg_cmp_gt] at h49; have e := bw_y h26 hu2 (by omega) (Or.inr h49); exact m_sub ih (by simp [a_sub, nI_succ, e])) | (rw [lg_cmp_gt] at h49; have e := bw_k h26 hu2 (by omega) h42 h49; exact m_sub ih (by simp [a_sub, nI_succ, e]))
        · refine r_lload dX10_bestWaiting_45 rfl ?_
          refine r_lload_n dX10_bestWaiting_47 rfl ?_
          refine r_lcmp dX10_bestWaiting_48 ?_
          refine r_if_gt 55 dX10_bestWaiting_49 (by decide) (fun h49 => ?_) (fun h49 => ?_)
          · refine r_iload dX10_bestWaiting_55 rfl ?_
            refine s_istore_n 1 dX10_bestWaiting_57 (by decide) rfl rfl ?_
            refine r_lload dX10_bestWaiting_58 rfl ?_
            refine s_lstore_n 2 dX10_bestWaiting_60 (by decide) rfl rfl ?_
            refine s_iinc dX10_bestWaiting_61 rfl (by decide) rfl ?_
            refine r_goto 7 dX10_bestWaiting_64 (by decide) ?_
            first | (have e := bw_y h26 hu2 (by omega) (Or.inl h42); exact m_sub ih (by simp [a_sub, nI_succ, e])) | (rw [lg_cmp_gt] at h49; have e := bw_y h26 hu2 (by omega) (Or.inr h49); exact m_sub ih (by simp [a_sub, nI_succ, e])) | (rw [lg_cmp_gt] at h49; have e := bw_k h26 hu2 (by omega) h42 h49; exact m_sub ih (by simp [a_sub, nI_succ, e]))
          · refine r_goto 61 dX10_bestWaiting_52 (by decide) ?_
            refine s_iinc dX10_bestWaiting_61 rfl (by decide) rfl ?_
            refine r_goto 7 dX10_bestWaiting_64 (by decide) ?_
            first | (have e := bw_y h26 hu2 (by omega) (Or.inl h42); exact m_sub ih (by simp [a_sub, nI_succ, e])) | (rw [lg_cmp_gt] at h49; have e := bw_y h26 hu2 (by omega) (Or.inr h49); exact m_sub ih (by simp [a_sub, nI_succ, e])) | (rw [lg_cmp_gt] at h49; have e := bw_k h26 hu2 (by omega) h42 h49; exact m_sub ih (by simp [a_sub, nI_succ, e]))
      · refine r_goto 61 dX10_bestWaiting_29 (by decide) ?_
        refine s_iinc dX10_bestWaiting_61 rfl (by decide) rfl ?_
        refine r_goto 7 dX10_bestWaiting_64 (by decide) ?_
        exact m_sub ih (by simp [a_sub, nI_succ, bw_n h26])
  exact m_sub (lp 0 (Nat.zero_le _)) (by simp [a_sub, nI_0, bwF])
theorem c_X10_leastRunning {m : Nat} (hA : M 318 = a) (hK : MK M a) (wU : WU a) (wJ : WJ a) (hx : ∀ u, u < nu a → a (34 + u) = nI (zN (a (34 + u)))) : AD yX10_leastRunning I_X10_leastRunning [.ref 317, .int (nI m)] (hS M L dd) (.inl (some (.int (lrS a m)))) (hS M L dd) := by
  have h30 := wJ.2.1
  have h12 := wU.2.2.1
  intro Q hq
  refine a_met (by decide +kernel) rfl rfl (Nat.le_of_ble_eq_true rfl) (by simp [Value.category]) (by decide) rfl ?_
  show AW I_X10_leastRunning 0 [.ref 317, .int (nI m), .null, .null, .null, .null, .null, .null] [] (hS M L dd) 0 0 Q
  refine r_iconst_m1 dX10_leastRunning_0 ?_
  refine s_istore_n 2 dX10_leastRunning_1 (by decide) rfl rfl ?_
  refine r_lconst_0 dX10_leastRunning_2 ?_
  refine s_lstore_n 3 dX10_leastRunning_3 (by decide) rfl rfl ?_
  refine r_iconst_0 dX10_leastRunning_4 ?_
  refine s_istore dX10_leastRunning_5 (by decide) rfl ?_
  have lp : ∀ k, k ≤ nj a → AW I_X10_leastRunning 7 [.ref 317, .int (nI m), .int (lrP a m k).1, .long (lrP a m k).2, .null, .int (nI k), .null, .null] [] (hS M L dd) 0 0 Q := by
    refine lp_up _ ?_ ?_
    · refine r_iload dX10_leastRunning_7 rfl ?_
      refine r_aload_n dX10_leastRunning_9 rfl ?_
      refine m_get 10 0 dX10_leastRunning_10 fl_X10_7 ob_model rfl ?_
      refine r_bipush 6 dX10_leastRunning_13 (by decide) ?_
      refine m_iald 6 dX10_leastRunning_15 ai_a rfl (by omega) (by first | decide | assumption) ?_
      refine r_icmp_ge 79 dX10_leastRunning_16 (by decide) (fun _ => ?_) (fun z => absurd (by rw [hA, wJ.1]; exact nI_le (Nat.le_refl _) (by omega)) z)
      refine r_iload_n dX10_leastRunning_79 rfl ?_
      exact e_iret dX10_leastRunning_80 rfl hq (rfl)
    · intro k hk ih 
      obtain ⟨u, hu, hu2, hlf⟩ := wJ.2.2.1 k hk
      refine r_iload dX10_leastRunning_7 rfl ?_
      refine r_aload_n dX10_leastRunning_9 rfl ?_
      refine m_get 10 0 dX10_leastRunning_10 fl_X10_7 ob_model rfl ?_
      refine r_bipush 6 dX10_leastRunning_13 (by decide) ?_
      refine m_iald 6 dX10_leastRunning_15 ai_a rfl (by omega) (by first | decide | assumption) ?_
      refine r_icmp_ge 79 dX10_leastRunning_16 (by decide) (fun z => absurd z (by rw [hA, wJ.1]; exact nI_ge hk (by omega))) (fun _ => ?_)
      refine r_aload_n dX10_leastRunning_19 rfl ?_
      refine r_iload dX10_leastRunning_20 rfl ?_
      refine r_iconst_3 dX10_leastRunning_22 ?_
      refine m_cv2 dX10_leastRunning_23 cv_X10_175 (c_X10_of (f := 3) hA (by omega) (by omega)) rfl ob_model ⟨_, rfl, rfl⟩ ⟨rfl, rfl⟩ (by decide) (by decide) (Nat.le_of_ble_eq_true rfl) ?_
      refine r_iconst_1 dX10_leastRunning_26 ?_
      refine r_icmp_ne 73 dX10_leastRunning_27 (by decide) (fun h27 => ?_) (fun h27 => ?_)
      · refine s_iinc dX10_leastRunning_73 rfl (by decide) rfl ?_
        refine r_goto 7 dX10_leastRunning_76 (by decide) ?_
        exact m_sub ih (by simp [a_sub, nI_succ, lr_n (m := m) (fun z => h27 z.1)])
      · refine r_aload_n dX10_leastRunning_30 rfl ?_
        refine r_iload dX10_leastRunning_31 rfl ?_
        refine r_iconst_4 dX10_leastRunning_33 ?_
        refine m_cv2 dX10_leastRunning_34 cv_X10_175 (c_X10_of (f := 4) hA (by omega) (by omega)) rfl ob_model ⟨_, rfl, rfl⟩ ⟨rfl, rfl⟩ (by decide) (by decide) (Nat.le_of_ble_eq_true rfl) ?_
        refine r_iload_n dX10_leastRunning_37 rfl ?_
        refine r_icmp_eq 44 dX10_leastRunning_38 (by decide) (fun h38 => ?_) (fun h38 => ?_)
        · refine r_aload_n dX10_leastRunning_44 rfl ?_
          refine r_iload dX10_leastRunning_45 rfl ?_
          refine m_cv1 dX10_leastRunning_47 cv_X10_223 (c_X10_jobWorth1 hA hK wU wJ hx hk h27 hu2 hu) rfl ob_model ⟨_, rfl, rfl⟩ ⟨rfl, rfl⟩ (by decide) (by decide) (Nat.le_of_ble_eq_true rfl) ?_
          refine s_lstore dX10_leastRunning_50 (by decide) rfl ?_
          refine r_iload_n dX10_leastRunning_52 rfl ?_
          refine r_iconst_m1 dX10_leastRunning_53 ?_
          refine r_icmp_eq 67 dX10_leastRunning_54 (by decide) (fun h54 => ?_) (fun h54 => ?_)
          · refine r_iload dX10_leastRunning_67 rfl ?_
            refine s_istore_n 2 dX10_leastRunning_69 (by decide) rfl rfl ?_
            refine r_lload dX10_leastRunning_70 rfl ?_
            refine s_lstore_n 3 dX10_leastRunning_72 (by decide) rfl rfl ?_
            refine s_iinc dX10_leastRunning_73 rfl (by decide) rfl ?_
            refine r_goto 7 dX10_leastRunning_76 (by decide) ?_
            first | (have e := lr_y (m := m) ⟨h27, h38⟩ hu2 (by omega) (Or.inl h54); exact m_sub ih (by simp [a_sub, nI_succ, e])) | (rw [lg_cmp_le] at h61; have e := lr_y (m := m) ⟨h27, h38⟩ hu2 (by omega) (Or.inr h61); exact m_sub ih (by simp [a_sub, nI_succ, e])) | (rw [lg_cmp_le] at h61; have e := lr_k (m := m) ⟨h27, h38⟩ hu2 (by omega) h54 h61; exact m_sub ih (by simp [a_sub, nI_succ, e]))
          · refine r_lload dX10_leastRunning_57 rfl ?_
            refine r_lload_n dX10_leastRunning_59 rfl ?_
            refine r_lcmp dX10_leastRunning_60 ?_
            refine r_if_le 67 dX10_leastRunning_61 (by decide) (fun h61 => ?_) (fun h61 => ?_)
            · refine r_iload dX10_leastRunning_67 rfl ?_
              refine s_istore_n 2 dX10_leastRunning_69 (by decide) rfl rfl ?_
              refine r_lload dX10_leastRunning_70 rfl ?_
              refine s_lstore_n 3 dX10_leastRunning_72 (by decide) rfl rfl ?_
              refine s_iinc dX10_leastRunning_73 rfl (by decide) rfl ?_
              refine r_goto 7 dX10_leastRunning_76 (by decide) ?_
              first | (have e := lr_y (m := m) ⟨h27, h38⟩ hu2 (by omega) (Or.inl h54); exact m_sub ih (by simp [a_sub, nI_succ, e])) | (rw [lg_cmp_le] at h61; have e := lr_y (m := m) ⟨h27, h38⟩ hu2 (by omega) (Or.inr h61); exact m_sub ih (by simp [a_sub, nI_succ, e])) | (rw [lg_cmp_le] at h61; have e := lr_k (m := m) ⟨h27, h38⟩ hu2 (by omega) h54 h61; exact m_sub ih (by simp [a_sub, nI_succ, e]))
            · refine r_goto 73 dX10_leastRunning_64 (by decide) ?_
              refine s_iinc dX10_leastRunning_73 rfl (by decide) rfl ?_
              refine r_goto 7 dX10_leastRunning_76 (by decide) ?_
              first | (have e := lr_y (m := m) ⟨h27, h38⟩ hu2 (by omega) (Or.inl h54); exact m_sub ih (by simp [a_sub, nI_succ, e])) | (rw [lg_cmp_le] at h61; have e := lr_y (m := m) ⟨h27, h38⟩ hu2 (by omega) (Or.inr h61); exact m_sub ih (by simp [a_sub, nI_succ, e])) | (rw [lg_cmp_le] at h61; have e := lr_k (m := m) ⟨h27, h38⟩ hu2 (by omega) h54 h61; exact m_sub ih (by simp [a_sub, nI_succ, e]))
        · refine r_goto 73 dX10_leastRunning_41 (by decide) ?_
          refine s_iinc dX10_leastRunning_73 rfl (by decide) rfl ?_
          refine r_goto 7 dX10_leastRunning_76 (by decide) ?_
          exact m_sub ih (by simp [a_sub, nI_succ, lr_n (m := m) (fun z => h38 z.2)])
  exact m_sub (lp 0 (Nat.zero_le _)) (by simp [a_sub, nI_0, lrF])
theorem c_X10_lays {j f : Nat} {v : Int32} (hA : M 318 = a) (hj : j < 30) (hf : f < 7) : PO yX10_lays I_X10_lays [.ref 317, .int (nI j), .int (nI f), .int v] M L dd none (fun M' L' => L' = L ∧ M' = mU M 318 (layJ a j f v)) := by
  subst hA
  refine po_mk (fun Q hq => ?_)
  refine a_met (by decide +kernel) rfl rfl (Nat.le_of_ble_eq_true rfl) (by simp [Value.category]) (by decide) rfl ?_
  show AW I_X10_lays 0 [.ref 317, .int (nI j), .int (nI f), .int v] [] (hS M L dd) 0 0 Q
  refine r_aload_n dX10_lays_0 rfl ?_
  refine m_get 10 0 dX10_lays_1 fl_X10_7 ob_model rfl ?_
  refine r_bipush 58 dX10_lays_4 (by decide) ?_
  refine r_bipush 7 dX10_lays_6 (by decide) ?_
  refine r_iload_n dX10_lays_8 rfl ?_
  refine r_imul dX10_lays_9 ?_
  refine r_iadd dX10_lays_10 ?_
  refine r_iload_n dX10_lays_11 rfl ?_
  refine r_iadd dX10_lays_12 ?_
  refine r_iload_n dX10_lays_13 rfl ?_
  refine m_iast (58 + 7 * j + f) dX10_lays_14 ai_a (ix_j j f) (by omega) (by first | decide | assumption) ?_
  exact r_vret dX10_lays_15 rfl (hq _ _ ⟨rfl, rfl⟩)
theorem c_X10_runs {j : Nat} {m : Int32} (hA : M 318 = a) (hj : j < 30) : PO yX10_runs I_X10_runs [.ref 317, .int (nI j), .int m] M L dd none (fun M' L' => L' = L ∧ M' = mU M 318 (runS a j m)) := by
  refine po_mk (fun Q hq => ?_)
  refine a_met (by decide +kernel) rfl rfl (Nat.le_of_ble_eq_true rfl) (by simp [Value.category]) (by decide) rfl ?_
  show AW I_X10_runs 0 [.ref 317, .int (nI j), .int m] [] (hS M L dd) 0 0 Q
  refine r_aload_n dX10_runs_0 rfl ?_
  refine r_iload_n dX10_runs_1 rfl ?_
  refine r_iconst_3 dX10_runs_2 ?_
  refine r_iconst_1 dX10_runs_3 ?_
  refine m_pv3 dX10_runs_4 cv_X10_233 (c_X10_lays (f := 3) hA hj (by omega)) ob_model ⟨_, rfl, rfl⟩ ⟨rfl, rfl⟩ (by decide) (by decide) (Nat.le_of_ble_eq_true rfl) (fun M1 L1 ⟨x1, x2⟩ => ?_)
  subst x1
  refine r_aload_n dX10_runs_7 rfl ?_
  refine r_iload_n dX10_runs_8 rfl ?_
  refine r_iconst_4 dX10_runs_9 ?_
  refine r_iload_n dX10_runs_10 rfl ?_
  refine m_pv3 dX10_runs_11 cv_X10_233 (c_X10_lays (f := 4) (at318 x2) hj (by omega)) ob_model ⟨_, rfl, rfl⟩ ⟨rfl, rfl⟩ (by decide) (by decide) (Nat.le_of_ble_eq_true rfl) (fun M2 L2 ⟨y1, y2⟩ => ?_)
  exact r_vret dX10_runs_14 rfl (hq _ _ ⟨y1, by rw [y2, x2, mU_mU]; rfl⟩)
theorem c_X10_ends {j : Nat} {s : Int32} (hA : M 318 = a) (hj : j < 30) : PO yX10_ends I_X10_ends [.ref 317, .int (nI j), .int s] M L dd none (fun M' L' => L' = L ∧ M' = mU M 318 (endS a j s)) := by
  refine po_mk (fun Q hq => ?_)
  refine a_met (by decide +kernel) rfl rfl (Nat.le_of_ble_eq_true rfl) (by simp [Value.category]) (by decide) rfl ?_
  show AW I_X10_ends 0 [.ref 317, .int (nI j), .int s] [] (hS M L dd) 0 0 Q
  refine r_aload_n dX10_ends_0 rfl ?_
  refine r_iload_n dX10_ends_1 rfl ?_
  refine r_iconst_3 dX10_ends_2 ?_
  refine r_iload_n dX10_ends_3 rfl ?_
  refine m_pv3 dX10_ends_4 cv_X10_233 (c_X10_lays (f := 3) hA hj (by omega)) ob_model ⟨_, rfl, rfl⟩ ⟨rfl, rfl⟩ (by decide) (by decide) (Nat.le_of_ble_eq_true rfl) (fun M1 L1 ⟨x1, x2⟩ => ?_)
  subst x1
  refine r_aload_n dX10_ends_7 rfl ?_
  refine r_iload_n dX10_ends_8 rfl ?_
  refine r_iconst_4 dX10_ends_9 ?_
  refine r_iconst_m1 dX10_ends_10 ?_
  refine m_pv3 dX10_ends_11 cv_X10_233 (c_X10_lays (f := 4) (at318 x2) hj (by omega)) ob_model ⟨_, rfl, rfl⟩ ⟨rfl, rfl⟩ (by decide) (by decide) (Nat.le_of_ble_eq_true rfl) (fun M2 L2 ⟨y1, y2⟩ => ?_)
  refine r_aload_n dX10_ends_14 rfl ?_
  refine r_iload_n dX10_ends_15 rfl ?_
  refine r_iconst_5 dX10_ends_16 ?_
  refine r_aload_n dX10_ends_17 rfl ?_
  refine m_get 10 0 dX10_ends_18 fl_X10_7 ob_model rfl ?_
  refine r_iconst_0 dX10_ends_21 ?_
  refine m_iald 0 dX10_ends_22 ai_a rfl (by omega) (by first | decide | assumption) ?_
  subst y1
  have e0 : M2 318 0 = a 0 := by rw [y2, mU_s, lay_o hj (by omega) (by omega), lay_o hj (by omega) (by omega)]
  rw [e0]
  refine m_pv3 dX10_ends_23 cv_X10_233 (c_X10_lays (f := 5) (at318 y2) hj (by omega)) ob_model ⟨_, rfl, rfl⟩ ⟨rfl, rfl⟩ (by decide) (by decide) (Nat.le_of_ble_eq_true rfl) (fun M3 L3 ⟨z1, z2⟩ => ?_)
  exact r_vret dX10_ends_26 rfl (hq _ _ ⟨z1, by rw [z2, y2, x2, mU_mU, mU_mU]; rfl⟩)
theorem c_X10_interrupts {j : Nat} (hA : M 318 = a) (hj : j < 30) (h3 : ¬ a 3 = 0) : PO yX10_interrupts I_X10_interrupts [.ref 317, .int (nI j)] M L dd none (fun M' L' => L' = L ∧ M' = mU M 318 (intS a j)) := by
  refine po_mk (fun Q hq => ?_)
  refine a_met (by decide +kernel) rfl rfl (Nat.le_of_ble_eq_true rfl) (by simp [Value.category]) (by decide) rfl ?_
  show AW I_X10_interrupts 0 [.ref 317, .int (nI j), .null] [] (hS M L dd) 0 0 Q
  refine r_aload_n dX10_interrupts_0 rfl ?_
  refine r_iload_n dX10_interrupts_1 rfl ?_
  refine r_iconst_2 dX10_interrupts_2 ?_
  refine m_cv2 dX10_interrupts_3 cv_X10_175 (c_X10_of (f := 2) hA hj (by omega)) rfl ob_model ⟨_, rfl, rfl⟩ ⟨rfl, rfl⟩ (by decide) (by decide) (Nat.le_of_ble_eq_true rfl) ?_
  refine r_aload_n dX10_interrupts_6 rfl ?_
  refine m_get 10 0 dX10_interrupts_7 fl_X10_7 ob_model rfl ?_
  refine r_iconst_3 dX10_interrupts_10 ?_
  refine m_iald 3 dX10_interrupts_11 ai_a rfl (by omega) (by first | decide | assumption) ?_
  rw [hA]
  refine r_irem dX10_interrupts_12 h3 ?_
  refine s_istore_n 2 dX10_interrupts_13 (by decide) rfl rfl ?_
  refine r_aload_n dX10_interrupts_14 rfl ?_
  refine r_iload_n dX10_interrupts_15 rfl ?_
  refine r_iconst_2 dX10_interrupts_16 ?_
  refine r_aload_n dX10_interrupts_17 rfl ?_
  refine r_iload_n dX10_interrupts_18 rfl ?_
  refine r_iconst_2 dX10_interrupts_19 ?_
  refine m_cv2 dX10_interrupts_20 cv_X10_175 (c_X10_of (f := 2) hA hj (by omega)) rfl ob_model ⟨_, rfl, rfl⟩ ⟨rfl, rfl⟩ (by decide) (by decide) (Nat.le_of_ble_eq_true rfl) ?_
  refine r_iload_n dX10_interrupts_23 rfl ?_
  refine r_isub dX10_interrupts_24 ?_
  refine m_pv3 dX10_interrupts_25 cv_X10_233 (c_X10_lays (f := 2) hA hj (by omega)) ob_model ⟨_, rfl, rfl⟩ ⟨rfl, rfl⟩ (by decide) (by decide) (Nat.le_of_ble_eq_true rfl) (fun M1 L1 ⟨x1, x2⟩ => ?_)
  subst x1
  refine r_aload_n dX10_interrupts_28 rfl ?_
  refine r_iload_n dX10_interrupts_29 rfl ?_
  refine r_iconst_3 dX10_interrupts_30 ?_
  refine r_iconst_0 dX10_interrupts_31 ?_
  refine m_pv3 dX10_interrupts_32 cv_X10_233 (c_X10_lays (f := 3) (at318 x2) hj (by omega)) ob_model ⟨_, rfl, rfl⟩ ⟨rfl, rfl⟩ (by decide) (by decide) (Nat.le_of_ble_eq_true rfl) (fun M2 L2 ⟨y1, y2⟩ => ?_)
  subst y1
  refine r_aload_n dX10_interrupts_35 rfl ?_
  refine r_iload_n dX10_interrupts_36 rfl ?_
  refine r_iconst_4 dX10_interrupts_37 ?_
  refine r_iconst_m1 dX10_interrupts_38 ?_
  refine m_pv3 dX10_interrupts_39 cv_X10_233 (c_X10_lays (f := 4) (at318 y2) hj (by omega)) ob_model ⟨_, rfl, rfl⟩ ⟨rfl, rfl⟩ (by decide) (by decide) (Nat.le_of_ble_eq_true rfl) (fun M3 L3 ⟨z1, z2⟩ => ?_)
  refine r_aload_n dX10_interrupts_42 rfl ?_
  refine m_get 10 0 dX10_interrupts_43 fl_X10_7 ob_model rfl ?_
  refine r_bipush 8 dX10_interrupts_46 (by decide) ?_
  refine r_dup2 dX10_interrupts_48 rfl rfl ?_
  refine m_iald 8 dX10_interrupts_49 ai_a rfl (by omega) (by first | decide | assumption) ?_
  refine r_iconst_1 dX10_interrupts_50 ?_
  refine r_iadd dX10_interrupts_51 ?_
  refine m_iast 8 dX10_interrupts_52 ai_a rfl (by omega) (by first | decide | assumption) ?_
  refine r_aload_n dX10_interrupts_53 rfl ?_
  refine m_get 10 0 dX10_interrupts_54 fl_X10_7 ob_model rfl ?_
  refine r_bipush 9 dX10_interrupts_57 (by decide) ?_
  refine r_dup2 dX10_interrupts_59 rfl rfl ?_
  refine m_iald 9 dX10_interrupts_60 ai_a rfl (by omega) (by first | decide | assumption) ?_
  refine r_iload_n dX10_interrupts_61 rfl ?_
  refine r_iadd dX10_interrupts_62 ?_
  refine m_iast 9 dX10_interrupts_63 ai_a rfl (by omega) (by first | decide | assumption) ?_
  refine r_vret dX10_interrupts_64 rfl (hq _ _ ⟨z1, ?_⟩)
  have e3 : M3 = mU M 318 (layJ (layJ (layJ a j 2 (jb a j 2 - jb a j 2 % a 3)) j 3 0) j 4 (-1)) := by rw [z2, y2, x2, mU_mU, mU_mU]
  rw [e3, mU_mU, mU_mU, mU_s, mU_s]
  unfold intS
  rw [upd_ne (show 9 ≠ 8 by omega), lay_o (i := 8) hj (by omega) (by omega), lay_o (i := 8) hj (by omega) (by omega), lay_o (i := 8) hj (by omega) (by omega), lay_o (i := 9) hj (by omega) (by omega), lay_o (i := 9) hj (by omega) (by omega), lay_o (i := 9) hj (by omega) (by omega)]
def wtN (a : Nat → Int32) : Nat := sumN (fun j => if jb a j 3 = 0 then 1 else 0) (nj a)
theorem wt_0 (h : wtN a = 0) {j : Nat} (hj : j < nj a) : ¬ jb a j 3 = 0 := fun z => by
  have := sumN_le (f := fun j => if jb a j 3 = 0 then 1 else 0) hj
  simp only [z, if_true] at this
  unfold wtN at h
  omega
theorem wt_run {j : Nat} {m : Int32} (hj : j < nj a) (h3 : jb a j 3 = 0) : wtN a = wtN (runS a j m) + 1 := by
  unfold wtN
  rw [nj_run]
  refine sumN_ch (f := fun k => if jb (runS a j m) k 3 = 0 then 1 else 0) hj (fun k hk hkj => ?_) ?_
  · have e : jb (runS a j m) k 3 = jb a k 3 := by rw [jb_run (by omega), if_neg (fun z => by omega), if_neg (fun z => hkj z.1)]
    simp only [e]
  · have e : jb (runS a j m) j 3 = 1 := by rw [jb_run (by omega), if_neg (fun z => by omega), if_pos ⟨rfl, rfl⟩]
    simp [e, h3]
theorem wt_le (h30 : nj a ≤ 30) : wtN a ≤ 30 := by
  have := sumN_mul (f := fun j => if jb a j 3 = 0 then 1 else 0) (n := nj a) (b := 1) (fun k hk => by by_cases h : jb a k 3 = 0 <;> simp [h])
  unfold wtN
  omega
theorem mk_je {b : Nat → Int32} {M' : Nat → Nat → Int32} (hK : MK M a) (h : JE a b) (wU : WU a) (he : M' 323 = M 323) : MK M' b := by
  intro u hu
  rw [te_nu (je_te h)] at hu
  rw [he, hK u hu, tk_je h wU hu]
theorem c_X10_fills (hA : M 318 = a) (hW : WF T a) : PO yX10_fills I_X10_fills [.ref 317] M L dd none (fun M' L' => L' = L ∧ Fm M M' ∧ M' 318 = fiS a ∧ MK M' (fiS a)) := by
  have h30 := hW.2.2.2.1.2.1
  refine po_mk (fun Q hq => ?_)
  refine a_met (by decide +kernel) rfl rfl (Nat.le_of_ble_eq_true rfl) (by simp [Value.category]) (by decide) rfl ?_
  show AW I_X10_fills 0 [.ref 317, .null, .null] [] (hS M L dd) 0 0 Q
  refine r_aload_n dX10_fills_0 rfl ?_
  refine m_pv0 dX10_fills_1 cv_X10_227 (c_X10_worksTickets hA hW.1 hW.2.2.2.2.1) ob_model ⟨_, rfl, rfl⟩ ⟨rfl, rfl⟩ (by decide) (by decide) (Nat.le_of_ble_eq_true rfl) (fun M1 L1 ⟨x1, x2, x3⟩ => ?_)
  subst x1
  have e1 : M1 318 = a := (x2 318 (by omega)).trans hA
  refine r_aload_n dX10_fills_4 rfl ?_
  refine m_cv0 dX10_fills_5 cv_X10_237 (c_X10_bestWaiting e1 x3 hW.1 hW.2.2.2.1 hW.2.1.1) rfl ob_model ⟨_, rfl, rfl⟩ ⟨rfl, rfl⟩ (by decide) (by decide) (Nat.le_of_ble_eq_true rfl) ?_
  refine s_istore_n 1 dX10_fills_8 (by decide) rfl rfl ?_
  refine r_aload_n dX10_fills_9 rfl ?_
  refine m_cv0 dX10_fills_10 cv_X10_240 (c_X10_freeMachine e1 hW.2.2.1 hW.2.2.2.1.1 h30) rfl ob_model ⟨_, rfl, rfl⟩ ⟨rfl, rfl⟩ (by decide) (by decide) (Nat.le_of_ble_eq_true rfl) ?_
  refine s_istore_n 2 dX10_fills_13 (by decide) rfl rfl ?_
  have lp : ∀ n, ∀ (b : Nat → Int32) (M' : Nat → Nat → Int32), wtN b ≤ n → fiF n b = fiS a → WF T b → Fm M M' → M' 318 = b → MK M' b → AW I_X10_fills 14 [.ref 317, .int (bwS b), .int (fmS b)] [] (hS M' L1 dd) 0 0 Q := by
    intro n
    induction n with
    | zero =>
      intro b M' h1 h2 h3 h4 h5 h6
      have hb : bwS b = -1 := by
        rcases bwS_ok h3.2.2.2.1 with ⟨z, -⟩ | ⟨k, hk, -, hk3⟩
        · exact z
        · exact absurd hk3 (wt_0 (by omega) hk)
      have h7 : b = fiS a := h2
      subst h7
      refine r_iload_n dX10_fills_14 rfl ?_
      refine r_iconst_m1 dX10_fills_15 ?_
      refine r_icmp_eq 43 dX10_fills_16 (by decide) (fun _ => ?_) (fun z => absurd hb z)
      exact r_vret dX10_fills_43 rfl (hq _ _ ⟨rfl, h4, h5, h6⟩)
    | succ n ih =>
      intro b M' h1 h2 h3 h4 h5 h6
      rw [fiF] at h2
      have h30b := h3.2.2.2.1.2.1
      have h6b := h3.2.2.1.2.1
      refine r_iload_n dX10_fills_14 rfl ?_
      refine r_iconst_m1 dX10_fills_15 ?_
      refine r_icmp_eq 43 dX10_fills_16 (by decide) (fun h16 => ?_) (fun h16 => ?_)
      · have h7 : b = fiS a := by
          by_cases z : fmS b = -1
          · rw [if_pos z] at h2; exact h2
          · rw [if_neg z, if_pos h16] at h2; exact h2
        exact r_vret dX10_fills_43 rfl (hq _ _ ⟨rfl, h4, by rw [← h7]; exact h5, by rw [← h7]; exact h6⟩)
      · refine r_iload_n dX10_fills_19 rfl ?_
        refine r_iconst_m1 dX10_fills_20 ?_
        refine r_icmp_eq 43 dX10_fills_21 (by decide) (fun h21 => ?_) (fun h21 => ?_)
        · rw [if_pos h21] at h2
          subst h2
          exact r_vret dX10_fills_43 rfl (hq _ _ ⟨rfl, h4, h5, h6⟩)
        · rw [if_neg h21, if_neg h16] at h2
          obtain ⟨m, hm, em, hup, -⟩ := (fmS_ok h3.2.2.1).resolve_left (fun z => h21 z.1)
          obtain ⟨j, hj, ej, hj3⟩ := (bwS_ok h3.2.2.2.1).resolve_left (fun z => h16 z.1)
          rw [ej, em, zN, nI_clamp (by omega)] at h2
          have hw := wt_run (m := nI m) hj hj3
          have h3' := wf_run h3 hj hm
          refine r_aload_n dX10_fills_24 rfl ?_
          refine r_iload_n dX10_fills_25 rfl ?_
          refine r_iload_n dX10_fills_26 rfl ?_
          rw [ej, em]
          refine m_pv2 dX10_fills_27 cv_X10_243 (c_X10_runs h5 (by omega)) ob_model ⟨_, rfl, rfl⟩ ⟨rfl, rfl⟩ (by decide) (by decide) (Nat.le_of_ble_eq_true rfl) (fun M2 L2 ⟨y1, y2⟩ => ?_)
          subst y1
          have e2 : M2 318 = runS b j (nI m) := by rw [y2, mU_s]
          have k2 : MK M2 (runS b j (nI m)) := mk_je h6 (je_run (by omega)) h3.1 (by rw [y2, mU_n (by omega)])
          refine r_aload_n dX10_fills_30 rfl ?_
          refine m_cv0 dX10_fills_31 cv_X10_237 (c_X10_bestWaiting e2 k2 h3'.1 h3'.2.2.2.1 h3'.2.1.1) rfl ob_model ⟨_, rfl, rfl⟩ ⟨rfl, rfl⟩ (by decide) (by decide) (Nat.le_of_ble_eq_true rfl) ?_
          refine s_istore_n 1 dX10_fills_34 (by decide) rfl rfl ?_
          refine r_aload_n dX10_fills_35 rfl ?_
          refine m_cv0 dX10_fills_36 cv_X10_240 (c_X10_freeMachine e2 h3'.2.2.1 h3'.2.2.2.1.1 h3'.2.2.2.1.2.1) rfl ob_model ⟨_, rfl, rfl⟩ ⟨rfl, rfl⟩ (by decide) (by decide) (Nat.le_of_ble_eq_true rfl) ?_
          refine s_istore_n 2 dX10_fills_39 (by decide) rfl rfl ?_
          refine r_goto 14 dX10_fills_40 (by decide) ?_
          exact m_sub (ih _ M2 (by omega) h2 h3' (fm_t h4 (by rw [y2]; exact fm_a fm_r)) e2 k2) (by simp [a_sub])
  exact m_sub (lp 30 a M1 (wt_le h30) rfl hW (fun c h1 h2 => x2 c (by omega)) e1 x3) (by simp [a_sub])
end MODEL3
