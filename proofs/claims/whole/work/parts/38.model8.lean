section MODEL8
variable {M : Nat → Nat → Int32} {L : Nat → Nat → Int64} {dd : UInt64} {a a' : Row} {R R' : List Row} {T B : Nat} {thr c : Int32} {V : Value → Prop} {x : Value} {Q : a_Q}
theorem mq_w {rt : Option FieldType} (hq : ∀ x M', TR rt x → M' 317 5 = thr → (thr = 0 → V x) → Fx M M' → (thr = 0 → MS M' a R) → (thr ≠ 0 → MS M' a R) → Q (.inl (some x)) (hS M' L dd)) {M1 : Nat → Nat → Int32} (hA : M1 318 = a) (hF : Fx M M1) (hR : MH M1 R) (ht : M1 317 5 = thr) (hv : thr = 0 → V x) (ti : TR rt x := by trivial) : Q (.inl (some x)) (hS M1 L dd) := by
  have h : MS M1 a R := ⟨by rw [hA]; exact re_r, hR⟩
  exact hq _ _ ti ht hv hF (fun _ => h) (fun _ => h)
theorem ix_n {u x : Int32} {n : Nat} (hx : x = nI n) (hn : n < 1000) (h : 0 ≤ u ∧ u < x) : ∃ k, k < n ∧ u = nI k := by
  obtain ⟨j, hj, rfl⟩ := nI_of (x := u) (by rw [Int32.not_lt]; exact h.1)
  have h1 := h.2
  rw [hx, nI_ltI hj (by omega)] at h1
  exact ⟨j, h1, rfl⟩
theorem ix_c {u : Int32} (n : Nat) (hn : n < 1000) (h : 0 ≤ u ∧ u ≤ nI n) : ∃ k, k ≤ n ∧ u = nI k := by
  obtain ⟨j, hj, rfl⟩ := nI_of (x := u) (by rw [Int32.not_lt]; exact h.1)
  have h1 := h.2
  rw [nI_leI hj (by omega)] at h1
  exact ⟨j, h1, rfl⟩
def thL (a : Row) (l w : Int32) : Int32 := if ¬ (0 ≤ l ∧ l < a 7) then 1 else if 0 ≤ w ∧ w ≤ 4 then 0 else 2
def vlL (a : Row) (l : Nat) (w : Int32) : Int32 := if w < 3 then ln a l (zN w) else if w = 4 then gnS a l else if a 0 < duS a l then 0 else 1
theorem c_X10_loan {l w : Int32} (hA : M 318 = a) (hR : MH M R) (hW : WF T a) : MQa yX10_loan I_X10_loan [.ref 317, .int l, .int w] M L dd (thL a l w) (fun x => ∀ k, k < nl a → l = nI k → x = .int (vlL a k w)) a a R R := by
  have wL := hW.2.2.2.2.1
  have h8 := wL.2.1
  refine mq_mk (fun Q hq => ?_)
  refine a_met (by decide +kernel) rfl rfl (Nat.le_of_ble_eq_true rfl) (by simp [Value.category]) (by decide) rfl ?_
  show AW I_X10_loan 0 [.ref 317, .int l, .int w] [] (hS M L dd) 0 0 Q
  refine r_aload_n dX10_loan_0 rfl ?_
  refine r_iload_n dX10_loan_1 rfl ?_
  refine r_iconst_0 dX10_loan_2 ?_
  refine r_aload_n dX10_loan_3 rfl ?_
  refine m_get 10 0 dX10_loan_4 fl_X10_7 ob_model rfl ?_
  refine r_bipush 7 dX10_loan_7 (by decide) ?_
  refine m_iald 7 dX10_loan_9 ai_a rfl (by omega) (by first | decide | assumption) ?_
  refine r_iconst_1 dX10_loan_10 ?_
  refine r_isub dX10_loan_11 ?_
  refine m_cs3 dX10_loan_12 cs_X10_54 (c_X10_isIn) rfl ⟨rfl, rfl⟩ (by decide) (by decide) (Nat.le_of_ble_eq_true rfl) ?_
  have e15 : bI (0 ≤ l ∧ l ≤ M 318 7 - 1) = bI (0 ≤ l ∧ l < a 7) := by
    rw [hA]; unfold bI; by_cases z : 0 ≤ l <;> simp [z, le_pred wL.1 (by omega)]
  simp only [Option.toList_some, List.singleton_append]
  rw [e15]
  refine r_if_ne 22 dX10_loan_15 (by decide) (fun h15 => ?_) (fun h15 => ?_)
  · rw [bI_0, Decidable.not_not] at h15
    obtain ⟨k, hk, rfl⟩ := ix_n wL.1 (by omega) h15
    have e : (mU M 317 (upd (M 317) 5 0)) 318 = a := by rw [mU_n (by omega)]; exact hA
    refine r_iload_n dX10_loan_22 rfl ?_
    refine r_iconst_0 dX10_loan_23 ?_
    refine r_iconst_4 dX10_loan_24 ?_
    refine m_cs3 dX10_loan_25 cs_X10_54 (c_X10_isIn) rfl ⟨rfl, rfl⟩ (by decide) (by decide) (Nat.le_of_ble_eq_true rfl) ?_
    refine r_if_eq 35 dX10_loan_28 (by decide) (fun h28 => ?_) (fun h28 => ?_)
    · rw [bI_0] at h28
      refine r_iconst_2 dX10_loan_35 ?_
      refine m_put 10 5 dX10_loan_36 fl_X10_42 (fun r hr => by cases hr; rfl) ob_model (Nat.le_of_ble_eq_true rfl) rfl ?_
      refine r_aload_n dX10_loan_39 rfl ?_
      refine m_get 10 5 dX10_loan_40 fl_X10_42 ob_model rfl ?_
      refine r_if_le 48 dX10_loan_43 (by decide) (fun z => absurd z (by rw [mU_s, upd_eq]; decide)) (fun _ => ?_)
      refine r_iconst_0 dX10_loan_46 ?_
      exact r_iret dX10_loan_47 rfl (mq_t hq hA hR (by decide) (by rw [thL, if_neg (not_not_intro h15), if_neg h28]))
    · rw [bI_0, Decidable.not_not] at h28
      obtain ⟨f, hf, rfl⟩ := ix_c 4 (by omega) h28
      refine r_iconst_0 dX10_loan_31 ?_
      refine r_goto 36 dX10_loan_32 (by decide) ?_
      refine m_put 10 5 dX10_loan_36 fl_X10_42 (fun r hr => by cases hr; rfl) ob_model (Nat.le_of_ble_eq_true rfl) rfl ?_
      refine r_aload_n dX10_loan_39 rfl ?_
      refine m_get 10 5 dX10_loan_40 fl_X10_42 ob_model rfl ?_
      refine r_if_le 48 dX10_loan_43 (by decide) (fun _ => ?_) (fun z => absurd (by rw [mU_s, upd_eq]; decide) z)
      refine r_iload_n dX10_loan_48 rfl ?_
      refine r_iconst_3 dX10_loan_49 ?_
      refine r_icmp_ge 62 dX10_loan_50 (by decide) (fun h50 => ?_) (fun h50 => ?_)
      · refine r_iload_n dX10_loan_62 rfl ?_
        refine r_iconst_4 dX10_loan_63 ?_
        refine r_icmp_ne 75 dX10_loan_64 (by decide) (fun h64 => ?_) (fun h64 => ?_)
        · refine r_aload_n dX10_loan_75 rfl ?_
          refine r_iload_n dX10_loan_76 rfl ?_
          refine m_cv1 dX10_loan_77 cv_X10_185 (c_X10_isLent e (by omega)) rfl ob_model ⟨_, rfl, rfl⟩ ⟨rfl, rfl⟩ (by decide) (by decide) (Nat.le_of_ble_eq_true rfl) ?_
          refine r_if_eq 87 dX10_loan_80 (by decide) (fun h80 => ?_) (fun h80 => ?_)
          · refine r_iconst_1 dX10_loan_87 ?_
            exact r_iret dX10_loan_88 rfl (mq_v hq hA hR (by rw [thL, if_neg (not_not_intro h15), if_pos h28]) (fun k2 hk2 e2 => by rw [nI_eq (by omega) (by omega)] at e2; subst e2; have h3 : ¬ nI f < 3 := Int32.not_lt.mpr h50; rw [vlL, if_neg h3]; simp_all [bI_0]))
          · refine r_iconst_0 dX10_loan_83 ?_
            refine r_goto 88 dX10_loan_84 (by decide) ?_
            exact r_iret dX10_loan_88 rfl (mq_v hq hA hR (by rw [thL, if_neg (not_not_intro h15), if_pos h28]) (fun k2 hk2 e2 => by rw [nI_eq (by omega) (by omega)] at e2; subst e2; have h3 : ¬ nI f < 3 := Int32.not_lt.mpr h50; rw [vlL, if_neg h3]; simp_all [bI_0]))
        · refine r_aload_n dX10_loan_67 rfl ?_
          refine r_iload_n dX10_loan_68 rfl ?_
          refine m_cv1 dX10_loan_69 cv_X10_211 (c_X10_goneAt e (by omega)) rfl ob_model ⟨_, rfl, rfl⟩ ⟨rfl, rfl⟩ (by decide) (by decide) (Nat.le_of_ble_eq_true rfl) ?_
          refine r_goto 88 dX10_loan_72 (by decide) ?_
          exact r_iret dX10_loan_88 rfl (mq_v hq hA hR (by rw [thL, if_neg (not_not_intro h15), if_pos h28]) (fun k2 hk2 e2 => by rw [nI_eq (by omega) (by omega)] at e2; subst e2; have h3 : ¬ nI f < 3 := Int32.not_lt.mpr h50; rw [vlL, if_neg h3]; simp_all [bI_0]))
      · have h3 : nI f < 3 := by rw [← Int32.not_le]; exact h50
        have hf3 : f < 3 := by rw [show (3 : Int32) = nI 3 from rfl, nI_ltI (by omega) (by omega)] at h3; exact h3
        refine r_aload_n dX10_loan_53 rfl ?_
        refine r_iload_n dX10_loan_54 rfl ?_
        refine r_iload_n dX10_loan_55 rfl ?_
        refine m_cv2 dX10_loan_56 cv_X10_178 (c_X10_lent e (by omega) (by omega)) rfl ob_model ⟨_, rfl, rfl⟩ ⟨rfl, rfl⟩ (by decide) (by decide) (Nat.le_of_ble_eq_true rfl) ?_
        refine r_goto 88 dX10_loan_59 (by decide) ?_
        exact r_iret dX10_loan_88 rfl (mq_v hq hA hR (by rw [thL, if_neg (not_not_intro h15), if_pos h28]) (fun k2 hk2 e2 => by rw [nI_eq (by omega) (by omega)] at e2; subst e2; rw [vlL, if_pos h3, zN, nI_clamp (by omega)]))
  · refine r_iconst_1 dX10_loan_18 ?_
    refine r_goto 36 dX10_loan_19 (by decide) ?_
    refine m_put 10 5 dX10_loan_36 fl_X10_42 (fun r hr => by cases hr; rfl) ob_model (Nat.le_of_ble_eq_true rfl) rfl ?_
    refine r_aload_n dX10_loan_39 rfl ?_
    refine m_get 10 5 dX10_loan_40 fl_X10_42 ob_model rfl ?_
    refine r_if_le 48 dX10_loan_43 (by decide) (fun z => absurd z (by rw [mU_s, upd_eq]; decide)) (fun _ => ?_)
    refine r_iconst_0 dX10_loan_46 ?_
    exact r_iret dX10_loan_47 rfl (mq_t hq hA hR (by decide) (by rw [bI_0] at h15; rw [thL, if_pos h15]))
def thB (a : Row) (u : Int32) : Int32 := if 0 ≤ u ∧ u < a 4 then 0 else 1
theorem c_X10_balance {u : Int32} (hA : M 318 = a) (hR : MH M R) (hW : WF T a) : MQa yX10_balance I_X10_balance [.ref 317, .int u] M L dd (thB a u) (fun x => x = .int (blS a u)) a a R R := by
  have wU := hW.1
  have wL := hW.2.2.2.2.1
  have h8 := wL.2.1
  have h12 := wU.2.2.1
  refine mq_mk (fun Q hq => ?_)
  refine a_met (by decide +kernel) rfl rfl (Nat.le_of_ble_eq_true rfl) (by simp [Value.category]) (by decide) rfl ?_
  show AW I_X10_balance 0 [.ref 317, .int u, .null, .null, .null, .null, .null, .null] [] (hS M L dd) 0 0 Q
  refine r_aload_n dX10_balance_0 rfl ?_
  refine r_aload_n dX10_balance_1 rfl ?_
  refine r_iload_n dX10_balance_2 rfl ?_
  refine m_cv1 dX10_balance_3 cv_X10_192 (c_X10_isUser hA wU.1 h12) rfl ob_model ⟨_, rfl, rfl⟩ ⟨rfl, rfl⟩ (by decide) (by decide) (Nat.le_of_ble_eq_true rfl) ?_
  refine r_if_eq 13 dX10_balance_6 (by decide) (fun h6 => ?_) (fun h6 => ?_)
  · rw [bI_0] at h6
    have e7 : (mU M 317 (upd (M 317) 5 1)) 318 7 = nI (nl a) := by rw [mU_n (by omega), hA]; exact wL.1
    refine r_iconst_1 dX10_balance_13 ?_
    refine m_put 10 5 dX10_balance_14 fl_X10_42 (fun r hr => by cases hr; rfl) ob_model (Nat.le_of_ble_eq_true rfl) rfl ?_
    refine r_iconst_0 dX10_balance_17 ?_
    refine s_istore_n 2 dX10_balance_18 (by decide) rfl rfl ?_
    refine r_iconst_0 dX10_balance_19 ?_
    refine s_istore_n 3 dX10_balance_20 (by decide) rfl rfl ?_
    refine r_iload_n dX10_balance_21 rfl ?_
    refine r_aload_n dX10_balance_22 rfl ?_
    refine m_get 10 0 dX10_balance_23 fl_X10_7 ob_model rfl ?_
    refine r_bipush 7 dX10_balance_26 (by decide) ?_
    refine m_iald 7 dX10_balance_28 ai_a rfl (by omega) (by first | decide | assumption) ?_
    rw [e7]
    refine r_icmp_ge 169 dX10_balance_29 (by decide) (fun h29 => ?_) (fun h29 => ?_)
    · refine r_iload_n dX10_balance_169 rfl ?_
      exact r_iret dX10_balance_170 rfl (mq_t hq hA hR (by decide) (by rw [thB, if_neg h6]))
    · refine r_aload_n dX10_balance_32 rfl ?_
      refine m_get 10 5 dX10_balance_33 fl_X10_42 ob_model rfl ?_
      refine r_if_ne 169 dX10_balance_36 (by decide) (fun _ => ?_) (fun z => absurd z (by rw [mU_s, upd_eq]; decide))
      refine r_iload_n dX10_balance_169 rfl ?_
      exact r_iret dX10_balance_170 rfl (mq_t hq hA hR (by decide) (by rw [thB, if_neg h6]))
  · rw [bI_0, Decidable.not_not] at h6
    have e : (mU M 317 (upd (M 317) 5 0)) 318 = a := by rw [mU_n (by omega)]; exact hA
    have e5 : (mU M 317 (upd (M 317) 5 0)) 317 5 = 0 := by rw [mU_s, upd_eq]
    have fin : ∀ x : Int32, x = blS a u → Q (.inl (some (.int x))) (hS (mU M 317 (upd (M 317) 5 0)) L dd) := fun x hx => mq_v hq hA hR (by rw [thB, if_pos h6]) (by rw [hx])
    refine r_iconst_0 dX10_balance_9 ?_
    refine r_goto 14 dX10_balance_10 (by decide) ?_
    refine m_put 10 5 dX10_balance_14 fl_X10_42 (fun r hr => by cases hr; rfl) ob_model (Nat.le_of_ble_eq_true rfl) rfl ?_
    refine r_iconst_0 dX10_balance_17 ?_
    refine s_istore_n 2 dX10_balance_18 (by decide) rfl rfl ?_
    refine r_iconst_0 dX10_balance_19 ?_
    refine s_istore_n 3 dX10_balance_20 (by decide) rfl rfl ?_
    generalize mU M 317 (upd (M 317) 5 0) = M1 at *
    have lp : ∀ k, k ≤ nl a → AW I_X10_balance 21 [.ref 317, .int u, .int (sumI (fun l => if ln a l 1 = u then blI a l else if ln a l 0 = u then - blI a l else 0) k), .int (nI k), .null, .null, .null, .null] [] (hS M1 L dd) 0 0 Q := by
      refine lp_up _ ?_ ?_
      · refine r_iload_n dX10_balance_21 rfl ?_
        refine r_aload_n dX10_balance_22 rfl ?_
        refine m_get 10 0 dX10_balance_23 fl_X10_7 ob_model rfl ?_
        refine r_bipush 7 dX10_balance_26 (by decide) ?_
        refine m_iald 7 dX10_balance_28 ai_a rfl (by omega) (by first | decide | assumption) ?_
        refine r_icmp_ge 169 dX10_balance_29 (by decide) (fun _ => ?_) (fun z => absurd (by rw [e, wL.1]; exact nI_le (Nat.le_refl _) (by omega)) z)
        refine r_iload_n dX10_balance_169 rfl ?_
        exact r_iret dX10_balance_170 rfl (fin _ rfl)
      · intro k hk ih 
        refine r_iload_n dX10_balance_21 rfl ?_
        refine r_aload_n dX10_balance_22 rfl ?_
        refine m_get 10 0 dX10_balance_23 fl_X10_7 ob_model rfl ?_
        refine r_bipush 7 dX10_balance_26 (by decide) ?_
        refine m_iald 7 dX10_balance_28 ai_a rfl (by omega) (by first | decide | assumption) ?_
        refine r_icmp_ge 169 dX10_balance_29 (by decide) (fun z => absurd z (by rw [e, wL.1]; exact nI_ge hk (by omega))) (fun _ => ?_)
        refine r_aload_n dX10_balance_32 rfl ?_
        refine m_get 10 5 dX10_balance_33 fl_X10_42 ob_model rfl ?_
        refine r_if_ne 169 dX10_balance_36 (by decide) (fun z => absurd e5 z) (fun _ => ?_)
        refine r_aload_n dX10_balance_39 rfl ?_
        refine r_iload_n dX10_balance_40 rfl ?_
        refine r_iconst_3 dX10_balance_41 ?_
        refine m_cv2 dX10_balance_42 cv_X10_178 (c_X10_lent (f := 3) e (by omega) (by omega)) rfl ob_model ⟨_, rfl, rfl⟩ ⟨rfl, rfl⟩ (by decide) (by decide) (Nat.le_of_ble_eq_true rfl) ?_
        refine r_aload_n dX10_balance_45 rfl ?_
        refine r_iload_n dX10_balance_46 rfl ?_
        refine r_iconst_4 dX10_balance_47 ?_
        refine m_cv2 dX10_balance_48 cv_X10_178 (c_X10_lent (f := 4) e (by omega) (by omega)) rfl ob_model ⟨_, rfl, rfl⟩ ⟨rfl, rfl⟩ (by decide) (by decide) (Nat.le_of_ble_eq_true rfl) ?_
        refine r_iadd dX10_balance_51 ?_
        refine s_istore dX10_balance_52 (by decide) rfl ?_
        refine r_aload_n dX10_balance_54 rfl ?_
        refine m_get 10 0 dX10_balance_55 fl_X10_7 ob_model rfl ?_
        refine r_iconst_0 dX10_balance_58 ?_
        refine m_iald 0 dX10_balance_59 ai_a rfl (by omega) (by first | decide | assumption) ?_
        refine r_iload dX10_balance_60 rfl ?_
        rw [e]
        have ht : a 0 < duS a k → blI a k = (duS a k - a 0 - ln a k 4) * ln a k 2 := fun z => by rw [blI, if_pos z, if_pos z]
        have hf : ¬ a 0 < duS a k → blI a k = (0 - (gnS a k - a 0)) * ln a k 2 := fun z => by rw [blI, if_neg z, if_neg z]
        have key : ∀ y : Int32, y = blI a k → AW I_X10_balance 128 [.ref 317, .int u, .int (sumI (fun l => if ln a l 1 = u then blI a l else if ln a l 0 = u then - blI a l else 0) k), .int (nI k), .null, .null, .null, .int y] [] (hS M1 L dd) 0 0 Q := by
          intro y hy
          subst hy
          refine r_iload_n dX10_balance_128 rfl ?_
          refine r_aload_n dX10_balance_129 rfl ?_
          refine r_iload_n dX10_balance_130 rfl ?_
          refine r_iconst_1 dX10_balance_131 ?_
          refine m_cv2 dX10_balance_132 cv_X10_178 (c_X10_lent (f := 1) e (by omega) (by omega)) rfl ob_model ⟨_, rfl, rfl⟩ ⟨rfl, rfl⟩ (by decide) (by decide) (Nat.le_of_ble_eq_true rfl) ?_
          refine r_iload_n dX10_balance_135 rfl ?_
          refine r_icmp_ne 144 dX10_balance_136 (by decide) (fun h136 => ?_) (fun h136 => ?_)
          · refine r_aload_n dX10_balance_144 rfl ?_
            refine r_iload_n dX10_balance_145 rfl ?_
            refine r_iconst_0 dX10_balance_146 ?_
            refine m_cv2 dX10_balance_147 cv_X10_178 (c_X10_lent (f := 0) e (by omega) (by omega)) rfl ob_model ⟨_, rfl, rfl⟩ ⟨rfl, rfl⟩ (by decide) (by decide) (Nat.le_of_ble_eq_true rfl) ?_
            refine r_iload_n dX10_balance_150 rfl ?_
            refine r_icmp_ne 160 dX10_balance_151 (by decide) (fun h151 => ?_) (fun h151 => ?_)
            · refine r_iconst_0 dX10_balance_160 ?_
              refine r_iadd dX10_balance_161 ?_
              refine s_istore_n 2 dX10_balance_162 (by decide) rfl rfl ?_
              refine s_iinc dX10_balance_163 rfl (by decide) rfl ?_
              refine r_goto 21 dX10_balance_166 (by decide) ?_
              (refine m_sub ih ?_; simp only [a_sub, sumI, nI_succ, List.set_cons_zero, List.set_cons_succ]; simp_all)
            · refine r_iload dX10_balance_154 rfl ?_
              refine r_ineg dX10_balance_156 ?_
              refine r_goto 161 dX10_balance_157 (by decide) ?_
              refine r_iadd dX10_balance_161 ?_
              refine s_istore_n 2 dX10_balance_162 (by decide) rfl rfl ?_
              refine s_iinc dX10_balance_163 rfl (by decide) rfl ?_
              refine r_goto 21 dX10_balance_166 (by decide) ?_
              (refine m_sub ih ?_; simp only [a_sub, sumI, nI_succ, List.set_cons_zero, List.set_cons_succ]; simp_all)
          · refine r_iload dX10_balance_139 rfl ?_
            refine r_goto 161 dX10_balance_141 (by decide) ?_
            refine r_iadd dX10_balance_161 ?_
            refine s_istore_n 2 dX10_balance_162 (by decide) rfl rfl ?_
            refine s_iinc dX10_balance_163 rfl (by decide) rfl ?_
            refine r_goto 21 dX10_balance_166 (by decide) ?_
            (refine m_sub ih ?_; simp only [a_sub, sumI, nI_succ, List.set_cons_zero, List.set_cons_succ]; simp_all)
        refine r_icmp_ge 77 dX10_balance_62 (by decide) (fun h62 => ?_) (fun h62 => ?_)
        · have hz : ¬ a 0 < duS a k := by rw [Int32.not_lt]; exact h62
          refine r_iconst_0 dX10_balance_77 ?_
          refine s_istore dX10_balance_78 (by decide) rfl ?_
          refine r_aload_n dX10_balance_80 rfl ?_
          refine m_get 10 0 dX10_balance_81 fl_X10_7 ob_model rfl ?_
          refine r_iconst_0 dX10_balance_84 ?_
          refine m_iald 0 dX10_balance_85 ai_a rfl (by omega) (by first | decide | assumption) ?_
          rw [e]
          refine r_iload dX10_balance_86 rfl ?_
          refine r_icmp_ge 100 dX10_balance_88 (by decide) (fun _ => ?_) (fun z => absurd h62 z)
          refine r_aload_n dX10_balance_100 rfl ?_
          refine r_iload_n dX10_balance_101 rfl ?_
          refine m_cv1 dX10_balance_102 cv_X10_211 (c_X10_goneAt e (by omega)) rfl ob_model ⟨_, rfl, rfl⟩ ⟨rfl, rfl⟩ (by decide) (by decide) (Nat.le_of_ble_eq_true rfl) ?_
          refine r_aload_n dX10_balance_105 rfl ?_
          refine m_get 10 0 dX10_balance_106 fl_X10_7 ob_model rfl ?_
          refine r_iconst_0 dX10_balance_109 ?_
          refine m_iald 0 dX10_balance_110 ai_a rfl (by omega) (by first | decide | assumption) ?_
          rw [e]
          refine r_isub dX10_balance_111 ?_
          refine s_istore dX10_balance_112 (by decide) rfl ?_
          refine r_iload dX10_balance_114 rfl ?_
          refine r_iload dX10_balance_116 rfl ?_
          refine r_isub dX10_balance_118 ?_
          refine r_aload_n dX10_balance_119 rfl ?_
          refine r_iload_n dX10_balance_120 rfl ?_
          refine r_iconst_2 dX10_balance_121 ?_
          refine m_cv2 dX10_balance_122 cv_X10_178 (c_X10_lent (f := 2) e (by omega) (by omega)) rfl ob_model ⟨_, rfl, rfl⟩ ⟨rfl, rfl⟩ (by decide) (by decide) (Nat.le_of_ble_eq_true rfl) ?_
          refine r_imul dX10_balance_125 ?_
          refine s_istore dX10_balance_126 (by decide) rfl ?_
          exact m_sub (key _ (hf hz).symm) (by simp [a_sub])
        · have hz : a 0 < duS a k := by rw [← Int32.not_le]; exact h62
          refine r_iload dX10_balance_65 rfl ?_
          refine r_aload_n dX10_balance_67 rfl ?_
          refine m_get 10 0 dX10_balance_68 fl_X10_7 ob_model rfl ?_
          refine r_iconst_0 dX10_balance_71 ?_
          refine m_iald 0 dX10_balance_72 ai_a rfl (by omega) (by first | decide | assumption) ?_
          rw [e]
          refine r_isub dX10_balance_73 ?_
          refine r_goto 78 dX10_balance_74 (by decide) ?_
          refine s_istore dX10_balance_78 (by decide) rfl ?_
          refine r_aload_n dX10_balance_80 rfl ?_
          refine m_get 10 0 dX10_balance_81 fl_X10_7 ob_model rfl ?_
          refine r_iconst_0 dX10_balance_84 ?_
          refine m_iald 0 dX10_balance_85 ai_a rfl (by omega) (by first | decide | assumption) ?_
          rw [e]
          refine r_iload dX10_balance_86 rfl ?_
          refine r_icmp_ge 100 dX10_balance_88 (by decide) (fun z => absurd z h62) (fun _ => ?_)
          refine r_aload_n dX10_balance_91 rfl ?_
          refine r_iload_n dX10_balance_92 rfl ?_
          refine r_iconst_4 dX10_balance_93 ?_
          refine m_cv2 dX10_balance_94 cv_X10_178 (c_X10_lent (f := 4) e (by omega) (by omega)) rfl ob_model ⟨_, rfl, rfl⟩ ⟨rfl, rfl⟩ (by decide) (by decide) (Nat.le_of_ble_eq_true rfl) ?_
          refine r_goto 112 dX10_balance_97 (by decide) ?_
          refine s_istore dX10_balance_112 (by decide) rfl ?_
          refine r_iload dX10_balance_114 rfl ?_
          refine r_iload dX10_balance_116 rfl ?_
          refine r_isub dX10_balance_118 ?_
          refine r_aload_n dX10_balance_119 rfl ?_
          refine r_iload_n dX10_balance_120 rfl ?_
          refine r_iconst_2 dX10_balance_121 ?_
          refine m_cv2 dX10_balance_122 cv_X10_178 (c_X10_lent (f := 2) e (by omega) (by omega)) rfl ob_model ⟨_, rfl, rfl⟩ ⟨rfl, rfl⟩ (by decide) (by decide) (Nat.le_of_ble_eq_true rfl) ?_
          refine r_imul dX10_balance_125 ?_
          refine s_istore dX10_balance_126 (by decide) rfl ?_
          exact m_sub (key _ (ht hz).symm) (by simp [a_sub])
    exact m_sub (lp 0 (Nat.zero_le _)) (by simp [a_sub, sumI, nI_0])
def thW (a : Row) (u k : Int32) : Int32 := if ¬ (0 ≤ u ∧ u < a 4) then 1 else if ¬ (1 ≤ k ∧ k ≤ 30) then 2 else if lfS a (zN u) then 0 else 3
theorem c_X10_worth {u k : Int32} (hA : M 318 = a) (hR : MH M R) (hW : WF T a) : MQa yX10_worth I_X10_worth [.ref 317, .int u, .int k] M L dd (thW a u k) (fun x => ∀ v, v < nu a → u = nI v → x = .long (woS (tkS a v) (a (34 + v)) k)) a a R R := by
  have wU := hW.1
  have wL := hW.2.2.2.2.1
  have h12 := wU.2.2.1
  refine mq_mk (fun Q hq => ?_)
  refine a_met (by decide +kernel) rfl rfl (Nat.le_of_ble_eq_true rfl) (by simp [Value.category]) (by decide) rfl ?_
  show AW I_X10_worth 0 [.ref 317, .int u, .int k] [] (hS M L dd) 0 0 Q
  refine r_aload_n dX10_worth_0 rfl ?_
  refine r_aload_n dX10_worth_1 rfl ?_
  refine r_iload_n dX10_worth_2 rfl ?_
  refine m_cv1 dX10_worth_3 cv_X10_192 (c_X10_isUser hA wU.1 h12) rfl ob_model ⟨_, rfl, rfl⟩ ⟨rfl, rfl⟩ (by decide) (by decide) (Nat.le_of_ble_eq_true rfl) ?_
  refine r_if_ne 13 dX10_worth_6 (by decide) (fun h6 => ?_) (fun h6 => ?_)
  · rw [bI_0, Decidable.not_not] at h6
    obtain ⟨v, hv, rfl⟩ := us_n wU h6
    have zv : zN (nI v) = v := nI_clamp (by omega)
    have e : (mU M 317 (upd (M 317) 5 0)) 318 = a := by rw [mU_n (by omega)]; exact hA
    refine r_iload_n dX10_worth_13 rfl ?_
    refine r_iconst_1 dX10_worth_14 ?_
    refine r_bipush 30 dX10_worth_15 (by decide) ?_
    refine m_cs3 dX10_worth_17 cs_X10_54 (c_X10_isIn) rfl ⟨rfl, rfl⟩ (by decide) (by decide) (Nat.le_of_ble_eq_true rfl) ?_
    refine r_if_ne 27 dX10_worth_20 (by decide) (fun h20 => ?_) (fun h20 => ?_)
    · rw [bI_0, Decidable.not_not] at h20
      refine r_aload_n dX10_worth_27 rfl ?_
      refine r_iload_n dX10_worth_28 rfl ?_
      refine m_cv1 dX10_worth_29 cv_X10_119 (c_X10_isLeaf hA wU.1 h12) rfl ob_model ⟨_, rfl, rfl⟩ ⟨rfl, rfl⟩ (by decide) (by decide) (Nat.le_of_ble_eq_true rfl) ?_
      refine r_if_eq 39 dX10_worth_32 (by decide) (fun h32 => ?_) (fun h32 => ?_)
      · rw [bI_0] at h32
        refine r_iconst_3 dX10_worth_39 ?_
        refine m_put 10 5 dX10_worth_40 fl_X10_42 (fun r hr => by cases hr; rfl) ob_model (Nat.le_of_ble_eq_true rfl) rfl ?_
        refine r_aload_n dX10_worth_43 rfl ?_
        refine m_get 10 5 dX10_worth_44 fl_X10_42 ob_model rfl ?_
        refine r_if_le 52 dX10_worth_47 (by decide) (fun z => absurd z (by rw [mU_s, upd_eq]; decide)) (fun _ => ?_)
        refine r_lconst_0 dX10_worth_50 ?_
        exact r_lret dX10_worth_51 rfl (mq_t hq hA hR (by decide) (by rw [thW, if_neg (not_not_intro h6), if_neg (not_not_intro h20), zv, if_neg h32]))
      · rw [bI_0, Decidable.not_not] at h32
        obtain ⟨q, hq2, rfl⟩ := nI_of (x := k) (fun z => by have := h20.1; grind)
        have hq3 : 1 ≤ q ∧ q ≤ 30 := by
          have z1 := h20.1
          have z2 := h20.2
          rw [show (1 : Int32) = nI 1 from rfl, nI_leI (by omega) hq2] at z1
          rw [show (30 : Int32) = nI 30 from rfl, nI_leI hq2 (by omega)] at z2
          exact ⟨z1, z2⟩
        refine r_iconst_0 dX10_worth_35 ?_
        refine r_goto 40 dX10_worth_36 (by decide) ?_
        refine m_put 10 5 dX10_worth_40 fl_X10_42 (fun r hr => by cases hr; rfl) ob_model (Nat.le_of_ble_eq_true rfl) rfl ?_
        refine r_aload_n dX10_worth_43 rfl ?_
        refine m_get 10 5 dX10_worth_44 fl_X10_42 ob_model rfl ?_
        refine r_if_le 52 dX10_worth_47 (by decide) (fun _ => ?_) (fun z => absurd (by rw [mU_s, upd_eq]; decide) z)
        refine r_aload_n dX10_worth_52 rfl ?_
        refine m_pv0 dX10_worth_53 cv_X10_227 (c_X10_worksTickets e wU wL) ob_model ⟨_, rfl, rfl⟩ ⟨rfl, rfl⟩ (by decide) (by decide) (Nat.le_of_ble_eq_true rfl) (fun M1 L1 ⟨x1, x2, x3⟩ => ?_)
        subst x1
        have e1 : M1 318 = a := (x2 318 (by omega)).trans e
        have hF : Fm (mU M 317 (upd (M 317) 5 0)) M1 := fun c h1 h2 => x2 c (by omega)
        refine r_aload_n dX10_worth_56 rfl ?_
        refine r_iload_n dX10_worth_57 rfl ?_
        refine r_iload_n dX10_worth_58 rfl ?_
        refine m_cv2 dX10_worth_59 cv_X10_219 (c_X10_worthOf (q := q) e1 x3 h12 hv (hW.2.1.1 v hv) rfl hq3.1 (by omega)) rfl ob_model ⟨_, rfl, rfl⟩ ⟨rfl, rfl⟩ (by decide) (by decide) (Nat.le_of_ble_eq_true rfl) ?_
        exact r_lret dX10_worth_62 rfl (mq_w hq e1 (fx_t fx_th (fx_fm hF)) (mh_fm (mh_th hR) hF) (by rw [x2 317 (by omega), mU_s, upd_eq, thW, if_neg (not_not_intro h6), if_neg (not_not_intro h20), zv, if_pos h32]) (fun _ v2 hv2 e2 => by rw [nI_eq (by omega) (by omega)] at e2; subst e2; rfl))
    · rw [bI_0] at h20
      refine r_iconst_2 dX10_worth_23 ?_
      refine r_goto 40 dX10_worth_24 (by decide) ?_
      refine m_put 10 5 dX10_worth_40 fl_X10_42 (fun r hr => by cases hr; rfl) ob_model (Nat.le_of_ble_eq_true rfl) rfl ?_
      refine r_aload_n dX10_worth_43 rfl ?_
      refine m_get 10 5 dX10_worth_44 fl_X10_42 ob_model rfl ?_
      refine r_if_le 52 dX10_worth_47 (by decide) (fun z => absurd z (by rw [mU_s, upd_eq]; decide)) (fun _ => ?_)
      refine r_lconst_0 dX10_worth_50 ?_
      exact r_lret dX10_worth_51 rfl (mq_t hq hA hR (by decide) (by rw [thW, if_neg (not_not_intro h6), if_pos h20]))
  · rw [bI_0] at h6
    refine r_iconst_1 dX10_worth_9 ?_
    refine r_goto 40 dX10_worth_10 (by decide) ?_
    refine m_put 10 5 dX10_worth_40 fl_X10_42 (fun r hr => by cases hr; rfl) ob_model (Nat.le_of_ble_eq_true rfl) rfl ?_
    refine r_aload_n dX10_worth_43 rfl ?_
    refine m_get 10 5 dX10_worth_44 fl_X10_42 ob_model rfl ?_
    refine r_if_le 52 dX10_worth_47 (by decide) (fun z => absurd z (by rw [mU_s, upd_eq]; decide)) (fun _ => ?_)
    refine r_lconst_0 dX10_worth_50 ?_
    exact r_lret dX10_worth_51 rfl (mq_t hq hA hR (by decide) (by rw [thW, if_pos h6]))
def thM (a : Row) (m w : Int32) : Int32 := if ¬ (0 ≤ m ∧ m < a 5) then 1 else if 0 ≤ w ∧ w ≤ 3 then 0 else 2
def vlM (a : Row) (m : Nat) (w : Int32) : Int32 := if w = 0 then a (46 + m) else if w = 1 then a (52 + m) else if w = 2 then buS a m else lrS a m
theorem c_X10_machine {m w : Int32} (hA : M 318 = a) (hR : MH M R) (hW : WF T a) : MQa yX10_machine I_X10_machine [.ref 317, .int m, .int w] M L dd (thM a m w) (fun x => ∀ k, k < nm a → m = nI k → x = .int (vlM a k w)) a a R R := by
  have wU := hW.1
  have wM := hW.2.2.1
  have wJ := hW.2.2.2.1
  have h6' := wM.2.1
  refine mq_mk (fun Q hq => ?_)
  refine a_met (by decide +kernel) rfl rfl (Nat.le_of_ble_eq_true rfl) (by simp [Value.category]) (by decide) rfl ?_
  show AW I_X10_machine 0 [.ref 317, .int m, .int w] [] (hS M L dd) 0 0 Q
  refine r_aload_n dX10_machine_0 rfl ?_
  refine r_aload_n dX10_machine_1 rfl ?_
  refine r_iload_n dX10_machine_2 rfl ?_
  refine m_cv1 dX10_machine_3 cv_X10_254 (c_X10_isMachine hA wM.1 h6') rfl ob_model ⟨_, rfl, rfl⟩ ⟨rfl, rfl⟩ (by decide) (by decide) (Nat.le_of_ble_eq_true rfl) ?_
  refine r_if_ne 13 dX10_machine_6 (by decide) (fun h6 => ?_) (fun h6 => ?_)
  · rw [bI_0, Decidable.not_not] at h6
    obtain ⟨k, hk, rfl⟩ := ix_n wM.1 (by omega) h6
    have e : (mU M 317 (upd (M 317) 5 0)) 318 = a := by rw [mU_n (by omega)]; exact hA
    refine r_iload_n dX10_machine_13 rfl ?_
    refine r_iconst_0 dX10_machine_14 ?_
    refine r_iconst_3 dX10_machine_15 ?_
    refine m_cs3 dX10_machine_16 cs_X10_54 (c_X10_isIn) rfl ⟨rfl, rfl⟩ (by decide) (by decide) (Nat.le_of_ble_eq_true rfl) ?_
    refine r_if_eq 26 dX10_machine_19 (by decide) (fun h19 => ?_) (fun h19 => ?_)
    · rw [bI_0] at h19
      refine r_iconst_2 dX10_machine_26 ?_
      refine m_put 10 5 dX10_machine_27 fl_X10_42 (fun r hr => by cases hr; rfl) ob_model (Nat.le_of_ble_eq_true rfl) rfl ?_
      refine r_aload_n dX10_machine_30 rfl ?_
      refine m_get 10 5 dX10_machine_31 fl_X10_42 ob_model rfl ?_
      refine r_if_le 39 dX10_machine_34 (by decide) (fun z => absurd z (by rw [mU_s, upd_eq]; decide)) (fun _ => ?_)
      refine r_iconst_0 dX10_machine_37 ?_
      exact r_iret dX10_machine_38 rfl (mq_t hq hA hR (by decide) (by rw [thM, if_neg (not_not_intro h6), if_neg h19]))
    · rw [bI_0, Decidable.not_not] at h19
      obtain ⟨f, hf, rfl⟩ := ix_c 3 (by omega) h19
      have ht : thM a (nI k) (nI f) = 0 := by rw [thM, if_neg (not_not_intro h6), if_pos h19]
      refine r_iconst_0 dX10_machine_22 ?_
      refine r_goto 27 dX10_machine_23 (by decide) ?_
      refine m_put 10 5 dX10_machine_27 fl_X10_42 (fun r hr => by cases hr; rfl) ob_model (Nat.le_of_ble_eq_true rfl) rfl ?_
      refine r_aload_n dX10_machine_30 rfl ?_
      refine m_get 10 5 dX10_machine_31 fl_X10_42 ob_model rfl ?_
      refine r_if_le 39 dX10_machine_34 (by decide) (fun _ => ?_) (fun z => absurd (by rw [mU_s, upd_eq]; decide) z)
      refine r_iload_n dX10_machine_39 rfl ?_
      refine r_iconst_2 dX10_machine_40 ?_
      refine r_icmp_ge 63 dX10_machine_41 (by decide) (fun h41 => ?_) (fun h41 => ?_)
      · rw [show (2 : Int32) = nI 2 from rfl, nI_leI (by omega) (by omega)] at h41
        refine r_aload_n dX10_machine_63 rfl ?_
        refine m_pv0 dX10_machine_64 cv_X10_227 (c_X10_worksTickets e wU hW.2.2.2.2.1) ob_model ⟨_, rfl, rfl⟩ ⟨rfl, rfl⟩ (by decide) (by decide) (Nat.le_of_ble_eq_true rfl) (fun M1 L1 ⟨x1, x2, x3⟩ => ?_)
        subst x1
        have e1 : M1 318 = a := (x2 318 (by omega)).trans e
        have hF : Fm (mU M 317 (upd (M 317) 5 0)) M1 := fun c h1 h2 => x2 c (by omega)
        have n0 : ¬ nI f = 0 := nI_ne0 (by omega) (by omega)
        have n1 : ¬ nI f = 1 := fun z => by rw [show (1 : Int32) = nI 1 from rfl, nI_eq (by omega) (by omega)] at z; omega
        refine r_iload_n dX10_machine_67 rfl ?_
        refine r_iconst_2 dX10_machine_68 ?_
        refine r_icmp_ne 80 dX10_machine_69 (by decide) (fun h69 => ?_) (fun h69 => ?_)
        · refine r_aload_n dX10_machine_80 rfl ?_
          refine r_iload_n dX10_machine_81 rfl ?_
          refine m_cv1 dX10_machine_82 cv_X10_246 (c_X10_leastRunning e1 x3 wU wJ hW.2.1.1) rfl ob_model ⟨_, rfl, rfl⟩ ⟨rfl, rfl⟩ (by decide) (by decide) (Nat.le_of_ble_eq_true rfl) ?_
          exact r_iret dX10_machine_85 rfl (mq_w hq e1 (fx_t fx_th (fx_fm hF)) (mh_fm (mh_th hR) hF) (by rw [x2 317 (by omega), mU_s, upd_eq, ht]) (fun _ v2 hv2 e2 => by rw [nI_eq (by omega) (by omega)] at e2; subst e2; simp_all [vlM]))
        · refine r_aload_n dX10_machine_72 rfl ?_
          refine r_iload_n dX10_machine_73 rfl ?_
          refine m_cv1 dX10_machine_74 cv_X10_230 (c_X10_runningOn e1 wJ.1 wJ.2.1) rfl ob_model ⟨_, rfl, rfl⟩ ⟨rfl, rfl⟩ (by decide) (by decide) (Nat.le_of_ble_eq_true rfl) ?_
          refine r_goto 85 dX10_machine_77 (by decide) ?_
          exact r_iret dX10_machine_85 rfl (mq_w hq e1 (fx_t fx_th (fx_fm hF)) (mh_fm (mh_th hR) hF) (by rw [x2 317 (by omega), mU_s, upd_eq, ht]) (fun _ v2 hv2 e2 => by rw [nI_eq (by omega) (by omega)] at e2; subst e2; simp_all [vlM]))
      · rw [show (2 : Int32) = nI 2 from rfl, nI_leI (by omega) (by omega)] at h41
        have n1 : ¬ nI f = 0 → nI f = 1 := fun z => by
          have : f ≠ 0 := fun y => z (by rw [y]; rfl)
          rw [show f = 1 by omega]; rfl
        refine r_aload_n dX10_machine_44 rfl ?_
        refine m_get 10 0 dX10_machine_45 fl_X10_7 ob_model rfl ?_
        refine r_iload_n dX10_machine_48 rfl ?_
        refine r_if_ne 57 dX10_machine_49 (by decide) (fun h49 => ?_) (fun h49 => ?_)
        · refine r_bipush 52 dX10_machine_57 (by decide) ?_
          refine r_iload_n dX10_machine_59 rfl ?_
          refine r_iadd dX10_machine_60 ?_
          refine m_iald (52 + k) dX10_machine_61 ai_a (nI_add 52 k) (by omega) (by first | decide | assumption) ?_
          exact r_iret dX10_machine_62 rfl (mq_v hq hA hR ht (fun v2 hv2 e2 => by rw [nI_eq (by omega) (by omega)] at e2; subst e2; rw [e, vlM, if_neg h49, if_pos (n1 h49)]))
        · refine r_bipush 46 dX10_machine_52 (by decide) ?_
          refine r_goto 59 dX10_machine_54 (by decide) ?_
          refine r_iload_n dX10_machine_59 rfl ?_
          refine r_iadd dX10_machine_60 ?_
          refine m_iald (46 + k) dX10_machine_61 ai_a (nI_add 46 k) (by omega) (by first | decide | assumption) ?_
          exact r_iret dX10_machine_62 rfl (mq_v hq hA hR ht (fun v2 hv2 e2 => by rw [nI_eq (by omega) (by omega)] at e2; subst e2; rw [e, vlM, if_pos h49]))
  · rw [bI_0] at h6
    refine r_iconst_1 dX10_machine_9 ?_
    refine r_goto 27 dX10_machine_10 (by decide) ?_
    refine m_put 10 5 dX10_machine_27 fl_X10_42 (fun r hr => by cases hr; rfl) ob_model (Nat.le_of_ble_eq_true rfl) rfl ?_
    refine r_aload_n dX10_machine_30 rfl ?_
    refine m_get 10 5 dX10_machine_31 fl_X10_42 ob_model rfl ?_
    refine r_if_le 39 dX10_machine_34 (by decide) (fun z => absurd z (by rw [mU_s, upd_eq]; decide)) (fun _ => ?_)
    refine r_iconst_0 dX10_machine_37 ?_
    exact r_iret dX10_machine_38 rfl (mq_t hq hA hR (by decide) (by rw [thM, if_pos h6]))
end MODEL8
