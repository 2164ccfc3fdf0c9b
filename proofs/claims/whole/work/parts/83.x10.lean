/-! THE REFERENCE'S OBJECT -/
def kt_F : Nat → Int32 := upd (upd (upd (upd (upd kz_0 (Int32.toNatClampNeg 1) 10) (Int32.toNatClampNeg 2) 50) (Int32.toNatClampNeg 3) 5) (Int32.toNatClampNeg 4) 1) (Int32.toNatClampNeg 10) (-1)
theorem kt_Fe : kt_F = iniS := by
  funext j
  show (if j = 10 then (-1 : Int32) else if j = 4 then 1 else if j = 3 then 5 else if j = 2 then 50 else if j = 1 then 10 else 0) = (if j = 1 then 10 else if j = 2 then 50 else if j = 3 then 5 else if j = 4 then 1 else if j = 10 then -1 else 0)
  by_cases h1 : j = 1
  · subst h1; rfl
  · by_cases h2 : j = 2
    · subst h2; rfl
    · by_cases h3 : j = 3
      · subst h3; rfl
      · by_cases h4 : j = 4
        · subst h4; rfl
        · by_cases h10 : j = 10
          · subst h10; rfl
          · rw [if_neg h10, if_neg h4, if_neg h3, if_neg h2, if_neg h1, if_neg h1, if_neg h2, if_neg h3, if_neg h4, if_neg h10]
theorem kz_u5 (n : Nat) : upd kz_0 n 0 = kz_0 := by
  funext j
  show (if j = n then (0 : Int32) else kz_0 j) = kz_0 j
  unfold kz_0
  split <;> rfl
def kt_A (F : Nat → Int32) (k : Nat) : Nat → Int32 := fun j => if j < k then F j else 0
theorem kt_A0 (F : Nat → Int32) : kt_A F 0 = kz_0 := by
  funext j
  exact if_neg (Nat.not_lt_zero j)
theorem kt_Au {F : Nat → Int32} {k : Nat} : upd (kt_A F k) k (F k) = kt_A F (k + 1) := by
  funext j
  show (if j = k then F k else if j < k then F j else 0) = (if j < k + 1 then F j else 0)
  by_cases h1 : j = k
  · subst h1; rw [if_pos rfl, if_pos (Nat.lt_succ_self j)]
  · rw [if_neg h1]
    by_cases h2 : j < k
    · rw [if_pos h2, if_pos (by omega)]
    · rw [if_neg h2, if_neg (by omega)]
def kb_Z (A F : Nat → Int32) (n : Nat) : List a_E := [.inr (10, [.ref (n + 1), .ref (n + 2), .ref (n + 3), .ref (n + 4), .int 0, .int 0, .ref (n + 5), .int 0, .int 0, .int 0, .int 0, .int 0, .int 0, .int 0, .int 0, .int (-1), .ref (n + 6), .int 0, .ref (n + 7), .int 0]), .inl (0, 308, .inl A), .inl (0, 308, .inl F), .inl (0, 308, .inl kz_0), .inl (0, 2464, .inl kz_0), .inl (0, 600, .inl kz_0), .inl (0, 12, .inl kz_0), .inl (0, 120, .inl kz_0)]
def kb_W (n : Nat) : List a_E := kb_Z (kt_A iniS 308) iniS n
section CVA
variable {I : a_I} {pc uc us : Nat} {ls st : List Value} {pre l l' : List a_E} {Q : a_Q}
theorem x_cvA {ix i ci n : Nat} {vs As : List Value} {y : MethodName} {I' : a_I} (hd : decode (i_cc I) pc = .ok (.invokevirtual ix, 3)) (hc : a_CV (i_own I) ix y I' n) (hM : ∀ Q' : a_Q, Q' (.inl none) (true, pre ++ l') → AM y I' (.ref (pre.length + i) :: As) (true, pre ++ l) Q') (hn : As.length = n) (hcell : l[i]? = some (.inr (ci, vs))) (hci : ∃ r, a_cls[ci]? = some r ∧ r.1 = y.cls) (hz : i_mc I' = 0 ∧ i_ms I' = 0) (hlen : l'.length = l.length) (hp : pre.length ≤ 400) (hl4 : l'.length ≤ 400)
    (hd1 : i_d I' + 1 ≤ i_d I) (hnl : i_nL I' ≤ 40) (hst : (st.map fun v => v.category).sum ≤ 8) (hu : uc ≤ i_mc I) (hv : us ≤ i_ms I) (kk : AW I (pc + 3) ls st (true, pre ++ l') uc us Q) : AW I pc ls (As.reverse ++ .ref (pre.length + i) :: st) (true, pre ++ l) uc us Q := by
  refine r_callV hd hc (hM (fun o h => o = .inl none ∧ h = (true, pre ++ l')) ⟨rfl, rfl⟩) hn (p_at.trans hcell) hci ⟨hd1, hnl, hst, by omega, by omega⟩ ⟨?_, ?_⟩
  · rintro v h2 ⟨e, rfl⟩
    cases e
    rw [hz.1, hz.2]
    exact ⟨fun _ => ⟨rfl, by show (pre ++ l').length = (pre ++ l).length + _; rw [List.length_append, List.length_append]; omega, by show (pre ++ l').length ≤ 5000; rw [List.length_append]; omega⟩, kk⟩
  · rintro E h2 ⟨e, rfl⟩
    cases e
end CVA
theorem i_begins {pre : List a_E} {n : Nat} {Q : a_Q} (hn : pre.length = n) (hq : Q (.inl none) (true, pre ++ kb_Z kz_0 iniS n)) : AM yX10_begins I_X10_begins [.ref n] (true, pre ++ kb_Z kz_0 kz_0 n) Q := by
  subst hn
  have hq2 : Q (.inl none) (true, pre ++ kb_Z kz_0 kt_F pre.length) := by rw [kt_Fe]; exact hq
  refine a_met (by decide +kernel) rfl rfl (Nat.le_of_ble_eq_true rfl) (by simp [Value.category]) (by decide) rfl ?_
  show AW I_X10_begins 0 [.ref (pre.length + 0), .null] [] (true, pre ++ kb_Z kz_0 kz_0 pre.length) 0 0 Q
  refine r_iconst_0 dX10_begins_0 ?_
  refine s_istore_n 1 dX10_begins_1 (by decide) rfl rfl ?_
  have lp : ∀ d k, k + d = 308 → AW I_X10_begins 2 [.ref (pre.length + 0), .int (nI k)] [] (true, pre ++ kb_Z kz_0 kz_0 pre.length) 0 0 Q := by
    intro d
    induction d with
    | zero =>
      intro k hk
      obtain rfl : k = 308 := by omega
      refine r_iload_n dX10_begins_2 rfl ?_
      refine r_sipush 308 dX10_begins_3 (by decide) ?_
      refine r_icmp_ge 22 dX10_begins_6 (by decide) (fun _ => ?_) (fun z => absurd (by decide) z)
      refine r_aload_n dX10_begins_22 rfl ?_
      refine x_get 10 1 dX10_begins_23 fl_X10_13 (i := 0) rfl rfl ?_
      refine r_iconst_1 dX10_begins_26 ?_
      refine r_bipush 10 dX10_begins_27 (by decide) ?_
      refine x_iast dX10_begins_29 (i := 2) rfl (vp_in_nI (n := 1) (N := 308) (by decide) (by decide)) ?_
      refine r_aload_n dX10_begins_30 rfl ?_
      refine x_get 10 1 dX10_begins_31 fl_X10_13 (i := 0) rfl rfl ?_
      refine r_iconst_2 dX10_begins_34 ?_
      refine r_bipush 50 dX10_begins_35 (by decide) ?_
      refine x_iast dX10_begins_37 (i := 2) rfl (vp_in_nI (n := 2) (N := 308) (by decide) (by decide)) ?_
      refine r_aload_n dX10_begins_38 rfl ?_
      refine x_get 10 1 dX10_begins_39 fl_X10_13 (i := 0) rfl rfl ?_
      refine r_iconst_3 dX10_begins_42 ?_
      refine r_iconst_5 dX10_begins_43 ?_
      refine x_iast dX10_begins_44 (i := 2) rfl (vp_in_nI (n := 3) (N := 308) (by decide) (by decide)) ?_
      refine r_aload_n dX10_begins_45 rfl ?_
      refine x_get 10 1 dX10_begins_46 fl_X10_13 (i := 0) rfl rfl ?_
      refine r_iconst_4 dX10_begins_49 ?_
      refine r_iconst_1 dX10_begins_50 ?_
      refine x_iast dX10_begins_51 (i := 2) rfl (vp_in_nI (n := 4) (N := 308) (by decide) (by decide)) ?_
      refine r_aload_n dX10_begins_52 rfl ?_
      refine x_get 10 1 dX10_begins_53 fl_X10_13 (i := 0) rfl rfl ?_
      refine r_bipush 10 dX10_begins_56 (by decide) ?_
      refine r_iconst_m1 dX10_begins_58 ?_
      refine x_iast dX10_begins_59 (i := 2) rfl (vp_in_nI (n := 10) (N := 308) (by decide) (by decide)) ?_
      exact r_vret dX10_begins_60 rfl hq2
    | succ d ih =>
      intro k hk
      have hk8 : k < 308 := by omega
      refine r_iload_n dX10_begins_2 rfl ?_
      refine r_sipush 308 dX10_begins_3 (by decide) ?_
      refine r_icmp_ge 22 dX10_begins_6 (by decide) (fun z => absurd z (nI_ge hk8 (by decide))) (fun _ => ?_)
      refine r_aload_n dX10_begins_9 rfl ?_
      refine x_get 10 1 dX10_begins_10 fl_X10_13 (i := 0) rfl rfl ?_
      refine r_iload_n dX10_begins_13 rfl ?_
      refine r_iconst_0 dX10_begins_14 ?_
      refine x_iast dX10_begins_15 (i := 2) rfl (vp_in_nI hk8 (by decide)) ?_
      show AW I_X10_begins 16 _ _ (true, pre ++ kb_Z kz_0 (upd kz_0 (nI k).toNatClampNeg 0) pre.length) _ _ Q
      rw [kz_u5]
      refine s_iinc dX10_begins_16 rfl (by decide) rfl ?_
      refine r_goto 2 dX10_begins_19 (by decide) ?_
      have g := ih (k + 1) (by omega)
      rw [← nI_1] at g
      exact g
  exact lp 308 0 rfl
theorem i_becomes {pre : List a_E} {F : Nat → Int32} {n : Nat} {Q : a_Q} (hn : pre.length = n) (hq : Q (.inl none) (true, pre ++ kb_Z (kt_A F 308) F n)) : AM yX10_becomes I_X10_becomes [.ref n, .ref (n + 2), .int 0] (true, pre ++ kb_Z kz_0 F n) Q := by
  subst hn
  refine a_met (by decide +kernel) rfl rfl (Nat.le_of_ble_eq_true rfl) (by simp [Value.category]) (by decide) rfl ?_
  show AW I_X10_becomes 0 [.ref (pre.length + 0), .ref (pre.length + 2), .int 0, .null] [] (true, pre ++ kb_Z kz_0 F pre.length) 0 0 Q
  refine r_iconst_0 dX10_becomes_0 ?_
  refine s_istore_n 3 dX10_becomes_1 (by decide) rfl rfl ?_
  have lp : ∀ d k, k + d = 308 → AW I_X10_becomes 2 [.ref (pre.length + 0), .ref (pre.length + 2), .int 0, .int (nI k)] [] (true, pre ++ kb_Z (kt_A F k) F pre.length) 0 0 Q := by
    intro d
    induction d with
    | zero =>
      intro k hk
      obtain rfl : k = 308 := by omega
      refine r_iload_n dX10_becomes_2 rfl ?_
      refine r_sipush 308 dX10_becomes_3 (by decide) ?_
      refine r_icmp_ge 26 dX10_becomes_6 (by decide) (fun _ => ?_) (fun z => absurd (by decide) z)
      exact r_vret dX10_becomes_26 rfl hq
    | succ d ih =>
      intro k hk
      have hk8 : k < 308 := by omega
      refine r_iload_n dX10_becomes_2 rfl ?_
      refine r_sipush 308 dX10_becomes_3 (by decide) ?_
      refine r_icmp_ge 26 dX10_becomes_6 (by decide) (fun z => absurd z (nI_ge hk8 (by decide))) (fun _ => ?_)
      refine r_aload_n dX10_becomes_9 rfl ?_
      refine x_get 10 0 dX10_becomes_10 fl_X10_7 (i := 0) rfl rfl ?_
      refine r_iload_n dX10_becomes_13 rfl ?_
      refine r_aload_n dX10_becomes_14 rfl ?_
      refine r_iload_n dX10_becomes_15 rfl ?_
      refine r_iload_n dX10_becomes_16 rfl ?_
      refine r_iadd dX10_becomes_17 ?_
      rw [show (0 : Int32) + nI k = nI k from Int32.zero_add _]
      refine x_iald dX10_becomes_18 (i := 2) rfl (vp_in_nI hk8 (by decide)) ?_
      refine x_iast dX10_becomes_19 (i := 1) rfl (vp_in_nI hk8 (by decide)) ?_
      show AW I_X10_becomes 20 _ _ (true, pre ++ kb_Z (upd (kt_A F k) (nI k).toNatClampNeg (F (nI k).toNatClampNeg)) F pre.length) _ _ Q
      rw [nI_clamp (show k < 2 ^ 31 by omega), kt_Au]
      refine s_iinc dX10_becomes_20 rfl (by decide) rfl ?_
      refine r_goto 2 dX10_becomes_23 (by decide) ?_
      have g := ih (k + 1) (by omega)
      rw [← nI_1] at g
      exact g
  have g := lp 308 0 rfl
  rw [kt_A0] at g
  exact g
theorem ib_10 : IB yX10_init I_X10_init 10 [.null, .null, .null, .null, .int 0, .int 0, .null, .int 0, .int 0, .int 0, .int 0, .int 0, .int 0, .int 0, .int 0, .int 0, .null, .int 0, .null, .int 0] kb_W := by
  intro pre n Q hn hp2 hq
  subst hn
  have hp3 : pre.length + 1 + 7 ≤ 400 := hp2
  have hp : pre.length ≤ 400 := by omega
  refine a_met (by decide +kernel) rfl rfl (Nat.le_of_ble_eq_true rfl) (by simp [Value.category]) (fun _ => rfl) rfl ?_
  show AW I_X10_init 0 [.ref (pre.length + 0)] [] (true, pre ++ [.inr (10, [.null, .null, .null, .null, .int 0, .int 0, .null, .int 0, .int 0, .int 0, .int 0, .int 0, .int 0, .int 0, .int 0, .int 0, .null, .int 0, .null, .int 0])]) 0 0 Q
  refine r_aload_n dX10_init_0 rfl ?_
  refine r_objI dX10_init_1 k_1182 k_31 k_32 (Nat.le_of_ble_eq_true rfl) (Nat.le_of_ble_eq_true rfl) ?_
  refine r_aload_n dX10_init_4 rfl ?_
  refine r_sipush 308 dX10_init_5 (by decide) ?_
  refine x_newi 308 1 dX10_init_8 k_76 (by decide) (by decide) (by decide) rfl hp (by decide) (Nat.le_of_ble_eq_true rfl) (Nat.le_of_ble_eq_true rfl) ?_
  refine x_putF 10 0 dX10_init_10 fl_X10_7 rfl (fun r hr => by cases hr; exact ⟨rfl, rfl⟩) (fun a => ⟨rfl, rfl⟩) (i := 0) rfl (Nat.le_of_ble_eq_true rfl) ?_
  refine r_aload_n dX10_init_13 rfl ?_
  refine r_sipush 308 dX10_init_14 (by decide) ?_
  refine x_newi 308 2 dX10_init_17 k_76 (by decide) (by decide) (by decide) rfl hp (by decide) (Nat.le_of_ble_eq_true rfl) (Nat.le_of_ble_eq_true rfl) ?_
  refine x_putF 10 1 dX10_init_19 fl_X10_13 rfl (fun r hr => by cases hr; exact ⟨rfl, rfl⟩) (fun a => ⟨rfl, rfl⟩) (i := 0) rfl (Nat.le_of_ble_eq_true rfl) ?_
  refine r_aload_n dX10_init_22 rfl ?_
  refine r_sipush 308 dX10_init_23 (by decide) ?_
  refine x_newi 308 3 dX10_init_26 k_76 (by decide) (by decide) (by decide) rfl hp (by decide) (Nat.le_of_ble_eq_true rfl) (Nat.le_of_ble_eq_true rfl) ?_
  refine x_putF 10 2 dX10_init_28 fl_X10_16 rfl (fun r hr => by cases hr; exact ⟨rfl, rfl⟩) (fun a => ⟨rfl, rfl⟩) (i := 0) rfl (Nat.le_of_ble_eq_true rfl) ?_
  refine r_aload_n dX10_init_31 rfl ?_
  refine r_sipush 2464 dX10_init_32 (by decide) ?_
  refine x_newi 2464 4 dX10_init_35 k_76 (by decide) (by decide) (by decide) rfl hp (by decide) (Nat.le_of_ble_eq_true rfl) (Nat.le_of_ble_eq_true rfl) ?_
  refine x_putF 10 3 dX10_init_37 fl_X10_19 rfl (fun r hr => by cases hr; exact ⟨rfl, rfl⟩) (fun a => ⟨rfl, rfl⟩) (i := 0) rfl (Nat.le_of_ble_eq_true rfl) ?_
  refine r_aload_n dX10_init_40 rfl ?_
  refine r_sipush 600 dX10_init_41 (by decide) ?_
  refine x_newi 600 5 dX10_init_44 k_76 (by decide) (by decide) (by decide) rfl hp (by decide) (Nat.le_of_ble_eq_true rfl) (Nat.le_of_ble_eq_true rfl) ?_
  refine x_putF 10 6 dX10_init_46 fl_X10_22 rfl (fun r hr => by cases hr; exact ⟨rfl, rfl⟩) (fun a => ⟨rfl, rfl⟩) (i := 0) rfl (Nat.le_of_ble_eq_true rfl) ?_
  refine r_aload_n dX10_init_49 rfl ?_
  refine r_iconst_m1 dX10_init_50 ?_
  refine x_put 10 15 dX10_init_51 fl_X10_25 (fun r hr => by cases hr; rfl) (i := 0) rfl (Nat.le_of_ble_eq_true rfl) ?_
  refine r_aload_n dX10_init_54 rfl ?_
  refine r_bipush 12 dX10_init_55 (by decide) ?_
  refine x_newi 12 6 dX10_init_57 k_76 (by decide) (by decide) (by decide) rfl hp (by decide) (Nat.le_of_ble_eq_true rfl) (Nat.le_of_ble_eq_true rfl) ?_
  refine x_putF 10 16 dX10_init_59 fl_X10_29 rfl (fun r hr => by cases hr; exact ⟨rfl, rfl⟩) (fun a => ⟨rfl, rfl⟩) (i := 0) rfl (Nat.le_of_ble_eq_true rfl) ?_
  refine r_aload_n dX10_init_62 rfl ?_
  refine r_bipush 120 dX10_init_63 (by decide) ?_
  refine x_newi 120 7 dX10_init_65 k_76 (by decide) (by decide) (by decide) rfl hp (by decide) (Nat.le_of_ble_eq_true rfl) (Nat.le_of_ble_eq_true rfl) ?_
  refine x_putF 10 18 dX10_init_67 fl_X10_32 rfl (fun r hr => by cases hr; exact ⟨rfl, rfl⟩) (fun a => ⟨rfl, rfl⟩) (i := 0) rfl (Nat.le_of_ble_eq_true rfl) ?_
  show AW I_X10_init 70 [.ref (pre.length + 0)] [] (true, pre ++ kb_Z kz_0 kz_0 pre.length) 7 4120 Q
  refine r_aload_n dX10_init_70 rfl ?_
  refine x_cv (i := 0) (l' := kb_Z kz_0 iniS pre.length) dX10_init_71 cv_X10_35 (fun Q2 hq2 => i_begins rfl hq2) rfl ⟨_, rfl, rfl⟩ ⟨rfl, rfl⟩ rfl hp (Nat.le_of_ble_eq_true rfl) (Nat.le_of_ble_eq_true rfl) (Nat.le_of_ble_eq_true rfl) (Nat.le_of_ble_eq_true rfl) (Nat.le_of_ble_eq_true rfl) (Nat.le_of_ble_eq_true rfl) ?_
  refine r_aload_n dX10_init_74 rfl ?_
  refine r_aload_n dX10_init_75 rfl ?_
  refine x_get 10 1 dX10_init_76 fl_X10_13 (i := 0) rfl rfl ?_
  refine r_iconst_0 dX10_init_79 ?_
  refine x_cvA (i := 0) (As := [.ref (pre.length + 2), .int 0]) (st := []) (l' := kb_W pre.length) dX10_init_80 cv_X10_38 (fun Q2 hq2 => i_becomes rfl hq2) rfl rfl ⟨_, rfl, rfl⟩ ⟨rfl, rfl⟩ rfl hp (Nat.le_of_ble_eq_true rfl) (Nat.le_of_ble_eq_true rfl) (Nat.le_of_ble_eq_true rfl) (Nat.le_of_ble_eq_true rfl) (Nat.le_of_ble_eq_true rfl) (Nat.le_of_ble_eq_true rfl) ?_
  exact r_vret dX10_init_83 rfl hq
