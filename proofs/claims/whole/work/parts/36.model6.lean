/-- rows that are the same as far as the check's rows go -/
def RE (a b : Nat → Int32) : Prop := ∀ i, i < 308 → b i = a i
theorem re_r {a : Nat → Int32} : RE a a := fun _ _ => rfl
theorem re_t {a b c : Nat → Int32} (h : RE a b) (h2 : RE b c) : RE a c := fun i hi => (h2 i hi).trans (h i hi)
theorem re_s {a b : Nat → Int32} (h : RE a b) : RE b a := fun i hi => (h i hi).symm
theorem wf_re {T : Nat} {a b : Nat → Int32} (h : RE a b) (hW : WF T a) : WF T b := by
  obtain ⟨wU, wUse, wM, wJ, wL, wS⟩ := hW
  have hte : TE a b := fun i hi => h i (by omega)
  have h12 := wU.2.2.1
  have h8 := wL.2.1
  refine ⟨te_WU hte wU, ?_, wm_c (fun i hi => h i (by omega)) wM, wj_c wU hte (h 5 (by omega)) (fun i hi => h i (by omega)) wJ, ?_, ws_c (fun i hi => h i (by omega)) wS⟩
  · unfold WUse
    rw [te_nu hte, h 0 (by omega), sumN_cong (g := fun u => zN (a (34 + u))) (fun k hk => by rw [h (34 + k) (by omega)])]
    exact ⟨fun u hu => by rw [h (34 + u) (by omega)]; exact wUse.1 u hu, wUse.2⟩
  · have hl : nl b = nl a := congrArg zN (h 7 (by omega))
    have el : ∀ l f, l < nl a → f < 5 → ln b l f = ln a l f := fun l f h1 h2 => h _ (by omega)
    unfold WL
    rw [hl, h 7 (by omega), te_nu hte, h 0 (by omega)]
    refine ⟨wL.1, h8, fun l hl => ?_, fun l hl => ?_⟩
    · rw [el l 0 hl (by omega), el l 1 hl (by omega), el l 3 hl (by omega), el l 4 hl (by omega)]
      simp only [te_lfS hte h12]
      exact wL.2.2.1 l hl
    · rw [el l 2 hl (by omega)]; exact wL.2.2.2 l hl
theorem wv_re {a b : Nat → Int32} (h : RE a b) (h6 : nm a ≤ 6) (h30 : nj a ≤ 30) (hV : WV a) : WV b := by
  intro j m hj h3 hm h4
  have ej : nj b = nj a := congrArg zN (h 6 (by omega))
  have em : nm b = nm a := congrArg zN (h 5 (by omega))
  rw [ej] at hj
  rw [em] at hm
  have g : ∀ f, f < 7 → jb b j f = jb a j f := fun f hf => h _ (by omega)
  rw [g 3 (by omega)] at h3
  rw [g 4 (by omega)] at h4
  rw [h (52 + m) (by omega)]
  exact hV j m hj h3 hm h4
theorem qp_re {M : Nat → Nat → Int32} {p T : Nat} {a b : Nat → Int32} (h : RE a b) (hW : WF T a) (hQ : QP M p a) : QP M p b := by
  obtain ⟨qT, qB, qL, qM, qJ, qS⟩ := hQ
  have hte : TE a b := fun i hi => h i (by omega)
  exact ⟨qt_c (fun i hi => h i (by omega)) hW.1.2.2.1 qT, qb_c hte hW.1 qB, ql_c (fun i hi => h i (by omega)) hW.2.2.2.2.1.2.1 qL, qm_c (fun i hi => h i (by omega)) hW.2.2.1.2.1 qM, qj_c (fun i hi => h i (by omega)) hW.2.2.2.1.2.1 qJ, qs_c (fun i hi => h i (by omega)) qS⟩
section MODEL6
variable {M : Nat → Nat → Int32} {L : Nat → Nat → Int64} {dd : UInt64} {a : Nat → Int32} {T B : Nat}
theorem c_X10_becomes {c n f : Nat} (hc : AI c n) (hn : n < 2 ^ 31) (hf : f + 308 ≤ n) (hne : c ≠ 318) : PO yX10_becomes I_X10_becomes [.ref 317, .ref c, .int (nI f)] M L dd none (fun M' L' => L' = L ∧ M' = mU M 318 (fun k => if k < 308 then M c (f + k) else M 318 k)) := by
  refine po_mk (fun Q hq => ?_)
  refine a_met (by decide +kernel) rfl rfl (Nat.le_of_ble_eq_true rfl) (by simp [Value.category]) (by decide) rfl ?_
  show AW I_X10_becomes 0 [.ref 317, .ref c, .int (nI f), .null] [] (hS M L dd) 0 0 Q
  refine r_iconst_0 dX10_becomes_0 ?_
  refine s_istore_n 3 dX10_becomes_1 (by decide) rfl rfl ?_
  have lp : ∀ k, k ≤ 308 → AW I_X10_becomes 2 [.ref 317, .ref c, .int (nI f), .int (nI k)] [] (hS (mU M 318 (fun i => if i < k then M c (f + i) else M 318 i)) L dd) 0 0 Q := by
    refine lp_up _ ?_ ?_
    · refine r_iload_n dX10_becomes_2 rfl ?_
      refine r_sipush 308 dX10_becomes_3 (by decide) ?_
      refine r_icmp_ge 26 dX10_becomes_6 (by decide) (fun _ => ?_) (fun z => absurd (by decide) z)
      exact r_vret dX10_becomes_26 rfl (hq _ _ ⟨rfl, rfl⟩)
    · intro k hk ih 
      refine r_iload_n dX10_becomes_2 rfl ?_
      refine r_sipush 308 dX10_becomes_3 (by decide) ?_
      refine r_icmp_ge 26 dX10_becomes_6 (by decide) (fun z => absurd z (nI_ge hk (by decide))) (fun _ => ?_)
      refine r_aload_n dX10_becomes_9 rfl ?_
      refine m_get 10 0 dX10_becomes_10 fl_X10_7 ob_model rfl ?_
      refine r_iload_n dX10_becomes_13 rfl ?_
      refine r_aload_n dX10_becomes_14 rfl ?_
      refine r_iload_n dX10_becomes_15 rfl ?_
      refine r_iload_n dX10_becomes_16 rfl ?_
      refine r_iadd dX10_becomes_17 ?_
      refine m_iald (f + k) dX10_becomes_18 hc (nI_add f k) (by omega) (by first | decide | assumption) ?_
      refine m_iast k dX10_becomes_19 ai_a rfl (by omega) (by first | decide | assumption) ?_
      refine s_iinc dX10_becomes_20 rfl (by decide) rfl ?_
      refine r_goto 2 dX10_becomes_23 (by decide) ?_
      refine m_eq ih (by simp [nI_succ]) ?_ rfl
      rw [mU_mU, mU_s, mU_n hne]
      congr 1
      funext i
      unfold upd
      by_cases z : i = k
      · subst z; rw [if_pos rfl, if_pos (by omega)]
      · rw [if_neg z]
        dsimp only
        by_cases y : i < k
        · rw [if_pos y, if_pos (by omega)]
        · rw [if_neg y, if_neg (by omega)]
  refine m_eq (lp 0 (Nat.zero_le _)) (by simp [nI_0]) ?_ rfl
  funext d
  unfold mU
  by_cases z : d = 318
  · rw [if_pos z, z]; funext i; exact if_neg (by omega)
  · rw [if_neg z]
theorem c_X10_sets {c d n m : Nat} (hc : AI c n) (hd : AI d m) (hn : 308 ≤ n) (hm : 308 ≤ m) (hn2 : n < 2 ^ 31) (hm2 : m < 2 ^ 31) (hne : d ≠ c) : PO yX10_sets I_X10_sets [.ref c, .ref d] M L dd none (fun M' L' => L' = L ∧ M' = mU M c (fun k => if k < 308 then M d k else M c k)) := by
  refine po_mk (fun Q hq => ?_)
  refine a_met (by decide +kernel) rfl rfl (Nat.le_of_ble_eq_true rfl) (by simp [Value.category]) (by decide) rfl ?_
  show AW I_X10_sets 0 [.ref c, .ref d, .null] [] (hS M L dd) 0 0 Q
  refine r_iconst_0 dX10_sets_0 ?_
  refine s_istore_n 2 dX10_sets_1 (by decide) rfl rfl ?_
  have lp : ∀ k, k ≤ 308 → AW I_X10_sets 2 [.ref c, .ref d, .int (nI k)] [] (hS (mU M c (fun i => if i < k then M d i else M c i)) L dd) 0 0 Q := by
    refine lp_up _ ?_ ?_
    · refine r_iload_n dX10_sets_2 rfl ?_
      refine r_sipush 308 dX10_sets_3 (by decide) ?_
      refine r_icmp_ge 21 dX10_sets_6 (by decide) (fun _ => ?_) (fun z => absurd (by decide) z)
      exact r_vret dX10_sets_21 rfl (hq _ _ ⟨rfl, rfl⟩)
    · intro k hk ih 
      refine r_iload_n dX10_sets_2 rfl ?_
      refine r_sipush 308 dX10_sets_3 (by decide) ?_
      refine r_icmp_ge 21 dX10_sets_6 (by decide) (fun z => absurd z (nI_ge hk (by decide))) (fun _ => ?_)
      refine r_aload_n dX10_sets_9 rfl ?_
      refine r_iload_n dX10_sets_10 rfl ?_
      refine r_aload_n dX10_sets_11 rfl ?_
      refine r_iload_n dX10_sets_12 rfl ?_
      refine m_iald k dX10_sets_13 hd rfl (by omega) (by first | decide | assumption) ?_
      refine m_iast k dX10_sets_14 hc rfl (by omega) (by first | decide | assumption) ?_
      refine s_iinc dX10_sets_15 rfl (by decide) rfl ?_
      refine r_goto 2 dX10_sets_18 (by decide) ?_
      refine m_eq ih (by simp [nI_succ]) ?_ rfl
      rw [mU_mU, mU_s, mU_n hne]
      congr 1
      funext i
      unfold upd
      by_cases z : i = k
      · subst z; rw [if_pos rfl, if_pos (by omega)]
      · rw [if_neg z]
        dsimp only
        by_cases y : i < k
        · rw [if_pos y, if_pos (by omega)]
        · rw [if_neg y, if_neg (by omega)]
  refine m_eq (lp 0 (Nat.zero_le _)) (by simp [nI_0]) ?_ rfl
  funext e
  unfold mU
  by_cases z : e = c
  · rw [if_pos z, z]; funext i; exact if_neg (by omega)
  · rw [if_neg z]
theorem c_X10_begins : PO yX10_begins I_X10_begins [.ref 317] M L dd none (fun M' L' => L' = L ∧ (∀ c, c ≠ 319 → M' c = M c) ∧ RE iniS (M' 319)) := by
  refine po_mk (fun Q hq => ?_)
  refine a_met (by decide +kernel) rfl rfl (Nat.le_of_ble_eq_true rfl) (by simp [Value.category]) (by decide) rfl ?_
  show AW I_X10_begins 0 [.ref 317, .null] [] (hS M L dd) 0 0 Q
  refine r_iconst_0 dX10_begins_0 ?_
  refine s_istore_n 1 dX10_begins_1 (by decide) rfl rfl ?_
  have lp : ∀ k, k ≤ 308 → ∀ M' : Nat → Nat → Int32, (∀ c, c ≠ 319 → M' c = M c) → (∀ i, i < k → M' 319 i = 0) → AW I_X10_begins 2 [.ref 317, .int (nI k)] [] (hS M' L dd) 0 0 Q := by
    refine lp_up _ ?_ ?_
    · intro M' f1 f2 
      refine r_iload_n dX10_begins_2 rfl ?_
      refine r_sipush 308 dX10_begins_3 (by decide) ?_
      refine r_icmp_ge 22 dX10_begins_6 (by decide) (fun _ => ?_) (fun z => absurd (by decide) z)
      refine r_aload_n dX10_begins_22 rfl ?_
      refine m_get 10 1 dX10_begins_23 fl_X10_13 ob_model rfl ?_
      refine r_iconst_1 dX10_begins_26 ?_
      refine r_bipush 10 dX10_begins_27 (by decide) ?_
      refine m_iast 1 dX10_begins_29 ai_fresh rfl (by omega) (by first | decide | assumption) ?_
      refine r_aload_n dX10_begins_30 rfl ?_
      refine m_get 10 1 dX10_begins_31 fl_X10_13 ob_model rfl ?_
      refine r_iconst_2 dX10_begins_34 ?_
      refine r_bipush 50 dX10_begins_35 (by decide) ?_
      refine m_iast 2 dX10_begins_37 ai_fresh rfl (by omega) (by first | decide | assumption) ?_
      refine r_aload_n dX10_begins_38 rfl ?_
      refine m_get 10 1 dX10_begins_39 fl_X10_13 ob_model rfl ?_
      refine r_iconst_3 dX10_begins_42 ?_
      refine r_iconst_5 dX10_begins_43 ?_
      refine m_iast 3 dX10_begins_44 ai_fresh rfl (by omega) (by first | decide | assumption) ?_
      refine r_aload_n dX10_begins_45 rfl ?_
      refine m_get 10 1 dX10_begins_46 fl_X10_13 ob_model rfl ?_
      refine r_iconst_4 dX10_begins_49 ?_
      refine r_iconst_1 dX10_begins_50 ?_
      refine m_iast 4 dX10_begins_51 ai_fresh rfl (by omega) (by first | decide | assumption) ?_
      refine r_aload_n dX10_begins_52 rfl ?_
      refine m_get 10 1 dX10_begins_53 fl_X10_13 ob_model rfl ?_
      refine r_bipush 10 dX10_begins_56 (by decide) ?_
      refine r_iconst_m1 dX10_begins_58 ?_
      refine m_iast 10 dX10_begins_59 ai_fresh rfl (by omega) (by first | decide | assumption) ?_
      refine r_vret dX10_begins_60 rfl (hq _ _ ⟨rfl, fun c hc => ?_, fun i hi => ?_⟩)
      · rw [mU_n hc, mU_n hc, mU_n hc, mU_n hc, mU_n hc, f1 c hc]
      · simp only [mU_mU, mU_s, upd, iniS, f2 i hi]
        by_cases h1 : i = 1
        · subst h1; rfl
        · by_cases h2 : i = 2
          · subst h2; rfl
          · by_cases h3 : i = 3
            · subst h3; rfl
            · by_cases h4 : i = 4
              · subst h4; rfl
              · by_cases h10 : i = 10
                · subst h10; rfl
                · simp [h1, h2, h3, h4, h10]
    · intro k hk ih M' f1 f2 
      refine r_iload_n dX10_begins_2 rfl ?_
      refine r_sipush 308 dX10_begins_3 (by decide) ?_
      refine r_icmp_ge 22 dX10_begins_6 (by decide) (fun z => absurd z (nI_ge hk (by decide))) (fun _ => ?_)
      refine r_aload_n dX10_begins_9 rfl ?_
      refine m_get 10 1 dX10_begins_10 fl_X10_13 ob_model rfl ?_
      refine r_iload_n dX10_begins_13 rfl ?_
      refine r_iconst_0 dX10_begins_14 ?_
      refine m_iast k dX10_begins_15 ai_fresh rfl (by omega) (by first | decide | assumption) ?_
      refine s_iinc dX10_begins_16 rfl (by decide) rfl ?_
      refine r_goto 2 dX10_begins_19 (by decide) ?_
      refine m_sub (ih _ (fun c hc => by rw [mU_n hc]; exact f1 c hc) (fun i hi => ?_)) (by simp [a_sub, nI_succ])
      rw [mU_s]
      by_cases z : i = k
      · rw [z, upd_eq]
      · rw [upd_ne z]; exact f2 i (by omega)
  exact m_sub (lp 0 (Nat.zero_le _) M (fun _ _ => rfl) (fun i hi => by omega)) (by simp [a_sub, nI_0])
theorem c_X10_addsUser {q s : Int32} (hA : M 318 = a) (h0 : a 4 = nI (nu a)) (h12 : nu a < 12) : PO yX10_addsUser I_X10_addsUser [.ref 317, .int q, .int s] M L dd none (fun M' L' => L' = L ∧ M' = mU M 318 (adU a q s)) := by
  refine po_mk (fun Q hq => ?_)
  refine a_met (by decide +kernel) rfl rfl (Nat.le_of_ble_eq_true rfl) (by simp [Value.category]) (by decide) rfl ?_
  show AW I_X10_addsUser 0 [.ref 317, .int q, .int s, .null] [] (hS M L dd) 0 0 Q
  refine r_aload_n dX10_addsUser_0 rfl ?_
  refine m_get 10 0 dX10_addsUser_1 fl_X10_7 ob_model rfl ?_
  refine r_iconst_4 dX10_addsUser_4 ?_
  refine m_iald 4 dX10_addsUser_5 ai_a rfl (by omega) (by first | decide | assumption) ?_
  rw [hA, h0]
  refine s_istore_n 3 dX10_addsUser_6 (by decide) rfl rfl ?_
  refine r_aload_n dX10_addsUser_7 rfl ?_
  refine m_get 10 0 dX10_addsUser_8 fl_X10_7 ob_model rfl ?_
  refine r_bipush 10 dX10_addsUser_11 (by decide) ?_
  refine r_iload_n dX10_addsUser_13 rfl ?_
  refine r_iadd dX10_addsUser_14 ?_
  refine r_iload_n dX10_addsUser_15 rfl ?_
  refine m_iast (10 + nu a) dX10_addsUser_16 ai_a (nI_add 10 _) (by omega) (by first | decide | assumption) ?_
  refine r_aload_n dX10_addsUser_17 rfl ?_
  refine m_get 10 0 dX10_addsUser_18 fl_X10_7 ob_model rfl ?_
  refine r_bipush 22 dX10_addsUser_21 (by decide) ?_
  refine r_iload_n dX10_addsUser_23 rfl ?_
  refine r_iadd dX10_addsUser_24 ?_
  refine r_iload_n dX10_addsUser_25 rfl ?_
  refine m_iast (22 + nu a) dX10_addsUser_26 ai_a (nI_add 22 _) (by omega) (by first | decide | assumption) ?_
  refine r_aload_n dX10_addsUser_27 rfl ?_
  refine m_get 10 0 dX10_addsUser_28 fl_X10_7 ob_model rfl ?_
  refine r_bipush 34 dX10_addsUser_31 (by decide) ?_
  refine r_iload_n dX10_addsUser_33 rfl ?_
  refine r_iadd dX10_addsUser_34 ?_
  refine r_iconst_0 dX10_addsUser_35 ?_
  refine m_iast (34 + nu a) dX10_addsUser_36 ai_a (nI_add 34 _) (by omega) (by first | decide | assumption) ?_
  refine r_aload_n dX10_addsUser_37 rfl ?_
  refine m_get 10 0 dX10_addsUser_38 fl_X10_7 ob_model rfl ?_
  refine r_iconst_4 dX10_addsUser_41 ?_
  refine r_dup2 dX10_addsUser_42 rfl rfl ?_
  refine m_iald 4 dX10_addsUser_43 ai_a rfl (by omega) (by first | decide | assumption) ?_
  refine r_iconst_1 dX10_addsUser_44 ?_
  refine r_iadd dX10_addsUser_45 ?_
  refine m_iast 4 dX10_addsUser_46 ai_a rfl (by omega) (by first | decide | assumption) ?_
  refine r_vret dX10_addsUser_47 rfl (hq _ _ ⟨rfl, ?_⟩)
  simp only [mU_mU, mU_s]
  rw [hA]
  unfold adU
  rw [upd_ne (show 4 ≠ 34 + nu a by omega), upd_ne (show 4 ≠ 22 + nu a by omega), upd_ne (show 4 ≠ 10 + nu a by omega)]
theorem c_X10_addsJob {u s : Int32} (hA : M 318 = a) (h0 : a 6 = nI (nj a)) (h30 : nj a < 30) : PO yX10_addsJob I_X10_addsJob [.ref 317, .int u, .int s] M L dd none (fun M' L' => L' = L ∧ M' = mU M 318 (adJ a u s)) := by
  refine po_mk (fun Q hq => ?_)
  refine a_met (by decide +kernel) rfl rfl (Nat.le_of_ble_eq_true rfl) (by simp [Value.category]) (by decide) rfl ?_
  show AW I_X10_addsJob 0 [.ref 317, .int u, .int s, .null] [] (hS M L dd) 0 0 Q
  refine r_aload_n dX10_addsJob_0 rfl ?_
  refine m_get 10 0 dX10_addsJob_1 fl_X10_7 ob_model rfl ?_
  refine r_bipush 6 dX10_addsJob_4 (by decide) ?_
  refine m_iald 6 dX10_addsJob_6 ai_a rfl (by omega) (by first | decide | assumption) ?_
  rw [hA, h0]
  refine s_istore_n 3 dX10_addsJob_7 (by decide) rfl rfl ?_
  refine r_aload_n dX10_addsJob_8 rfl ?_
  refine r_iload_n dX10_addsJob_9 rfl ?_
  refine r_iconst_0 dX10_addsJob_10 ?_
  refine r_iload_n dX10_addsJob_11 rfl ?_
  refine m_pv3 dX10_addsJob_12 cv_X10_233 (c_X10_lays (f := 0) hA h30 (by omega)) ob_model ⟨_, rfl, rfl⟩ ⟨rfl, rfl⟩ (by decide) (by decide) (Nat.le_of_ble_eq_true rfl) (fun M1 L1 ⟨x1, x2⟩ => ?_)
  subst x1
  refine r_aload_n dX10_addsJob_15 rfl ?_
  refine r_iload_n dX10_addsJob_16 rfl ?_
  refine r_iconst_1 dX10_addsJob_17 ?_
  refine r_iload_n dX10_addsJob_18 rfl ?_
  refine m_pv3 dX10_addsJob_19 cv_X10_233 (c_X10_lays (f := 1) (at318 x2) h30 (by omega)) ob_model ⟨_, rfl, rfl⟩ ⟨rfl, rfl⟩ (by decide) (by decide) (Nat.le_of_ble_eq_true rfl) (fun M2 L2 ⟨y1, y2⟩ => ?_)
  subst y1
  refine r_aload_n dX10_addsJob_22 rfl ?_
  refine r_iload_n dX10_addsJob_23 rfl ?_
  refine r_iconst_2 dX10_addsJob_24 ?_
  refine r_iconst_0 dX10_addsJob_25 ?_
  refine m_pv3 dX10_addsJob_26 cv_X10_233 (c_X10_lays (f := 2) (at318 y2) h30 (by omega)) ob_model ⟨_, rfl, rfl⟩ ⟨rfl, rfl⟩ (by decide) (by decide) (Nat.le_of_ble_eq_true rfl) (fun M3 L3 ⟨z1, z2⟩ => ?_)
  subst z1
  refine r_aload_n dX10_addsJob_29 rfl ?_
  refine r_iload_n dX10_addsJob_30 rfl ?_
  refine r_iconst_3 dX10_addsJob_31 ?_
  refine r_iconst_0 dX10_addsJob_32 ?_
  refine m_pv3 dX10_addsJob_33 cv_X10_233 (c_X10_lays (f := 3) (at318 z2) h30 (by omega)) ob_model ⟨_, rfl, rfl⟩ ⟨rfl, rfl⟩ (by decide) (by decide) (Nat.le_of_ble_eq_true rfl) (fun M4 L4 ⟨u1, u2⟩ => ?_)
  subst u1
  refine r_aload_n dX10_addsJob_36 rfl ?_
  refine r_iload_n dX10_addsJob_37 rfl ?_
  refine r_iconst_4 dX10_addsJob_38 ?_
  refine r_iconst_m1 dX10_addsJob_39 ?_
  refine m_pv3 dX10_addsJob_40 cv_X10_233 (c_X10_lays (f := 4) (at318 u2) h30 (by omega)) ob_model ⟨_, rfl, rfl⟩ ⟨rfl, rfl⟩ (by decide) (by decide) (Nat.le_of_ble_eq_true rfl) (fun M5 L5 ⟨v1, v2⟩ => ?_)
  subst v1
  refine r_aload_n dX10_addsJob_43 rfl ?_
  refine r_iload_n dX10_addsJob_44 rfl ?_
  refine r_iconst_5 dX10_addsJob_45 ?_
  refine r_iconst_m1 dX10_addsJob_46 ?_
  refine m_pv3 dX10_addsJob_47 cv_X10_233 (c_X10_lays (f := 5) (at318 v2) h30 (by omega)) ob_model ⟨_, rfl, rfl⟩ ⟨rfl, rfl⟩ (by decide) (by decide) (Nat.le_of_ble_eq_true rfl) (fun M6 L6 ⟨w1, w2⟩ => ?_)
  subst w1
  refine r_aload_n dX10_addsJob_50 rfl ?_
  refine r_iload_n dX10_addsJob_51 rfl ?_
  refine r_bipush 6 dX10_addsJob_52 (by decide) ?_
  refine r_iconst_0 dX10_addsJob_54 ?_
  refine m_pv3 dX10_addsJob_55 cv_X10_233 (c_X10_lays (f := 6) (at318 w2) h30 (by omega)) ob_model ⟨_, rfl, rfl⟩ ⟨rfl, rfl⟩ (by decide) (by decide) (Nat.le_of_ble_eq_true rfl) (fun M7 L7 ⟨r1, r2⟩ => ?_)
  refine r_aload_n dX10_addsJob_58 rfl ?_
  refine m_get 10 0 dX10_addsJob_59 fl_X10_7 ob_model rfl ?_
  refine r_bipush 6 dX10_addsJob_62 (by decide) ?_
  refine r_dup2 dX10_addsJob_64 rfl rfl ?_
  refine m_iald 6 dX10_addsJob_65 ai_a rfl (by omega) (by first | decide | assumption) ?_
  refine r_iconst_1 dX10_addsJob_66 ?_
  refine r_iadd dX10_addsJob_67 ?_
  refine m_iast 6 dX10_addsJob_68 ai_a rfl (by omega) (by first | decide | assumption) ?_
  refine r_vret dX10_addsJob_69 rfl (hq _ _ ⟨r1, ?_⟩)
  have e : M7 = mU M 318 (layJ (layJ (layJ (layJ (layJ (layJ (layJ a (nj a) 0 u) (nj a) 1 s) (nj a) 2 0) (nj a) 3 0) (nj a) 4 (-1)) (nj a) 5 (-1)) (nj a) 6 0) := by rw [r2, w2, v2, u2, z2, y2, x2]; simp only [mU_mU]
  rw [e, mU_mU, mU_s]
  unfold adJ
  rw [lay_o (i := 6) h30 (by omega) (by omega), lay_o (i := 6) h30 (by omega) (by omega), lay_o (i := 6) h30 (by omega) (by omega), lay_o (i := 6) h30 (by omega) (by omega), lay_o (i := 6) h30 (by omega) (by omega), lay_o (i := 6) h30 (by omega) (by omega), lay_o (i := 6) h30 (by omega) (by omega)]
/-! what is kept for undoing -/
abbrev Row : Type := Nat → Int32
def MH (M : Nat → Nat → Int32) (R : List Row) : Prop := R.length ≤ 8 ∧ M 317 4 = nI R.length ∧ ∀ r (b : Row), R[r]? = some b → ∀ t, t < 308 → M 321 (308 * r + t) = b t
def pushR (R : List Row) (a : Row) : List Row := (if R.length = 8 then R.drop 1 else R) ++ [a]
theorem ix_k (K t : Nat) : (308 : Int32) * nI K + nI t = nI (308 * K + t) := by
  rw [show (308 : Int32) = nI 308 from rfl, pk_mul, nI_add]
theorem c_X10_keeps {R : List Row} (hA : M 318 = a) (hR : MH M R) : PO yX10_keeps I_X10_keeps [.ref 317] M L dd none (fun M' L' => L' = L ∧ (∀ c, c ≠ 317 → c ≠ 321 → M' c = M c) ∧ (∀ i, i ≠ 4 → M' 317 i = M 317 i) ∧ MH M' (pushR R a)) := by
  obtain ⟨r1, r2, r3⟩ := hR
  refine po_mk (fun Q hq => ?_)
  refine a_met (by decide +kernel) rfl rfl (Nat.le_of_ble_eq_true rfl) (by simp [Value.category]) (by decide) rfl ?_
  show AW I_X10_keeps 0 [.ref 317, .null] [] (hS M L dd) 0 0 Q
  -- the second half: the row goes to its place
  have fin : ∀ (S : List Row) (M1 : Nat → Nat → Int32), S.length < 8 → (∀ c, c ≠ 317 → c ≠ 321 → M1 c = M c) → (∀ i, i ≠ 4 → M1 317 i = M 317 i) → M1 317 4 = nI S.length → (∀ r (b : Row), S[r]? = some b → ∀ t, t < 308 → M1 321 (308 * r + t) = b t) → S ++ [a] = pushR R a → AW I_X10_keeps 50 [.ref 317, .null] [] (hS M1 L dd) 0 0 Q := by
    intro S M1 s1 s2 s3 s4 s5 s6
    refine r_iconst_0 dX10_keeps_50 ?_
    refine s_istore_n 1 dX10_keeps_51 (by decide) rfl rfl ?_
    have lp : ∀ k, k ≤ 308 → ∀ M2 : Nat → Nat → Int32, (∀ c, c ≠ 321 → M2 c = M1 c) → (∀ r (b : Row), S[r]? = some b → ∀ t, t < 308 → M2 321 (308 * r + t) = b t) → (∀ t, t < k → M2 321 (308 * S.length + t) = a t) → AW I_X10_keeps 52 [.ref 317, .int (nI k)] [] (hS M2 L dd) 0 0 Q := by
      refine lp_up _ ?_ ?_
      · intro M2 f1 f2 f3 
        refine r_iload_n dX10_keeps_52 rfl ?_
        refine r_sipush 308 dX10_keeps_53 (by decide) ?_
        refine r_icmp_ge 86 dX10_keeps_56 (by decide) (fun _ => ?_) (fun z => absurd (by decide) z)
        refine r_aload_n dX10_keeps_86 rfl ?_
        refine r_dup dX10_keeps_87 rfl ?_
        refine m_get 10 4 dX10_keeps_88 fl_X10_45 ob_model rfl ?_
        refine r_iconst_1 dX10_keeps_91 ?_
        refine r_iadd dX10_keeps_92 ?_
        refine m_put 10 4 dX10_keeps_93 fl_X10_45 (fun r hr => by cases hr; rfl) ob_model (Nat.le_of_ble_eq_true rfl) rfl ?_
        refine r_vret dX10_keeps_96 rfl (hq _ _ ⟨rfl, fun c h1 h2 => ?_, fun i hi => ?_, ?_, ?_, ?_⟩)
        · rw [mU_n h1, f1 c h2, s2 c h1 h2]
        · rw [mU_s, upd_ne hi, f1 317 (by omega), s3 i hi]
        · rw [← s6]; simp; omega
        · rw [mU_s, upd_eq, f1 317 (by omega), s4, nI_1, ← s6]; simp
        · intro r b hr t ht
          rw [mU_n (by omega)]
          rw [← s6] at hr
          by_cases z : r < S.length
          · rw [List.getElem?_append_left z] at hr; exact f2 r b hr t ht
          · rw [List.getElem?_append_right (by omega)] at hr
            have z2 : r = S.length := by
              have := (List.getElem?_eq_some_iff.mp hr).1
              simp at this
              omega
            subst z2
            simp at hr
            subst hr
            exact f3 t ht
      · intro k hk ih M2 f1 f2 f3 
        refine r_iload_n dX10_keeps_52 rfl ?_
        refine r_sipush 308 dX10_keeps_53 (by decide) ?_
        refine r_icmp_ge 86 dX10_keeps_56 (by decide) (fun z => absurd z (nI_ge hk (by decide))) (fun _ => ?_)
        refine r_aload_n dX10_keeps_59 rfl ?_
        refine m_get 10 3 dX10_keeps_60 fl_X10_19 ob_model rfl ?_
        refine r_sipush 308 dX10_keeps_63 (by decide) ?_
        refine r_aload_n dX10_keeps_66 rfl ?_
        refine m_get 10 4 dX10_keeps_67 fl_X10_45 ob_model rfl ?_
        rw [f1 317 (by omega), s4]
        refine r_imul dX10_keeps_70 ?_
        refine r_iload_n dX10_keeps_71 rfl ?_
        refine r_iadd dX10_keeps_72 ?_
        refine r_aload_n dX10_keeps_73 rfl ?_
        refine m_get 10 0 dX10_keeps_74 fl_X10_7 ob_model rfl ?_
        refine r_iload_n dX10_keeps_77 rfl ?_
        refine m_iald k dX10_keeps_78 ai_a rfl (by omega) (by first | decide | assumption) ?_
        refine m_iast (308 * S.length + k) dX10_keeps_79 ai_kept (ix_k _ k) (by omega) (by first | decide | assumption) ?_
        refine s_iinc dX10_keeps_80 rfl (by decide) rfl ?_
        refine r_goto 52 dX10_keeps_83 (by decide) ?_
        refine m_sub (ih _ (fun c hc => by rw [mU_n hc]; exact f1 c hc) (fun r b hr t ht => ?_) (fun t ht => ?_)) (by simp [a_sub, nI_succ])
        · have hl := (List.getElem?_eq_some_iff.mp hr).1
          rw [mU_s, upd_ne (by omega)]
          exact f2 r b hr t ht
        · rw [mU_s]
          by_cases z : t = k
          · rw [z, upd_eq, f1 318 (by omega), s2 318 (by omega) (by omega), hA]
          · rw [upd_ne (by omega)]; exact f3 t (by omega)
    exact m_sub (lp 0 (Nat.zero_le _) M1 (fun _ _ => rfl) s5 (fun t ht => by omega)) (by simp [a_sub, nI_0])
  refine r_aload_n dX10_keeps_0 rfl ?_
  refine m_get 10 4 dX10_keeps_1 fl_X10_45 ob_model rfl ?_
  rw [r2]
  by_cases h8 : R.length = 8
  · refine r_bipush 8 dX10_keeps_4 (by decide) ?_
    refine r_icmp_ne 50 dX10_keeps_6 (by decide) (fun z => absurd (by rw [h8]; rfl) z) (fun _ => ?_)
    refine r_iconst_0 dX10_keeps_9 ?_
    refine s_istore_n 1 dX10_keeps_10 (by decide) rfl rfl ?_
    have lp : ∀ k, k ≤ 2156 → ∀ M2 : Nat → Nat → Int32, (∀ c, c ≠ 321 → M2 c = M c) → (∀ i, M2 321 i = if i < k then M 321 (i + 308) else M 321 i) → AW I_X10_keeps 11 [.ref 317, .int (nI k)] [] (hS M2 L dd) 0 0 Q := by
      refine lp_up _ ?_ ?_
      · intro M2 f1 f2 
        refine r_iload_n dX10_keeps_11 rfl ?_
        refine r_sipush 2156 dX10_keeps_12 (by decide) ?_
        refine r_icmp_ge 40 dX10_keeps_15 (by decide) (fun _ => ?_) (fun z => absurd (by decide) z)
        refine r_aload_n dX10_keeps_40 rfl ?_
        refine r_dup dX10_keeps_41 rfl ?_
        refine m_get 10 4 dX10_keeps_42 fl_X10_45 ob_model rfl ?_
        refine r_iconst_1 dX10_keeps_45 ?_
        refine r_isub dX10_keeps_46 ?_
        refine m_put 10 4 dX10_keeps_47 fl_X10_45 (fun r hr => by cases hr; rfl) ob_model (Nat.le_of_ble_eq_true rfl) rfl ?_
        refine m_sub (fin (R.drop 1) _ (by simp; omega) (fun c h1 h2 => by rw [mU_n h1]; exact f1 c h2) (fun i hi => by rw [mU_s, upd_ne hi, f1 317 (by omega)]) ?_ ?_ ?_) (by simp [a_sub])
        · rw [mU_s, upd_eq, f1 317 (by omega), r2, h8, List.length_drop, h8]; rfl
        · intro r b hr t ht
          rw [List.getElem?_drop] at hr
          have hl := (List.getElem?_eq_some_iff.mp hr).1
          rw [mU_n (by omega), f2, if_pos (by omega), ← r3 (1 + r) b hr t ht]
          exact congrArg (M 321) (by omega)
        · rw [pushR, if_pos h8]
      · intro k hk ih M2 f1 f2 
        refine r_iload_n dX10_keeps_11 rfl ?_
        refine r_sipush 2156 dX10_keeps_12 (by decide) ?_
        refine r_icmp_ge 40 dX10_keeps_15 (by decide) (fun z => absurd z (nI_ge hk (by decide))) (fun _ => ?_)
        refine r_aload_n dX10_keeps_18 rfl ?_
        refine m_get 10 3 dX10_keeps_19 fl_X10_19 ob_model rfl ?_
        refine r_iload_n dX10_keeps_22 rfl ?_
        refine r_aload_n dX10_keeps_23 rfl ?_
        refine m_get 10 3 dX10_keeps_24 fl_X10_19 ob_model rfl ?_
        refine r_iload_n dX10_keeps_27 rfl ?_
        refine r_sipush 308 dX10_keeps_28 (by decide) ?_
        refine r_iadd dX10_keeps_31 ?_
        refine m_iald (k + 308) dX10_keeps_32 ai_kept (nI_add k 308) (by omega) (by first | decide | assumption) ?_
        refine m_iast k dX10_keeps_33 ai_kept rfl (by omega) (by first | decide | assumption) ?_
        refine s_iinc dX10_keeps_34 rfl (by decide) rfl ?_
        refine r_goto 11 dX10_keeps_37 (by decide) ?_
        refine m_sub (ih _ (fun c hc => by rw [mU_n hc]; exact f1 c hc) (fun i => ?_)) (by simp [a_sub, nI_succ])
        rw [mU_s]
        by_cases z : i = k
        · subst z; rw [upd_eq, f2, if_neg (by omega), if_pos (by omega)]
        · rw [upd_ne z, f2]
          by_cases y : i < k
          · rw [if_pos y, if_pos (by omega)]
          · rw [if_neg y, if_neg (by omega)]
    exact m_sub (lp 0 (Nat.zero_le _) M (fun _ _ => rfl) (fun i => (if_neg (by omega)).symm)) (by simp [a_sub, nI_0])
  · refine r_bipush 8 dX10_keeps_4 (by decide) ?_
    refine r_icmp_ne 50 dX10_keeps_6 (by decide) (fun _ => ?_) (fun z => absurd z (fun z => h8 ((nI_eq (by omega) (by decide)).mp z)))
    exact m_sub (fin R M (by omega) (fun _ _ _ => rfl) (fun _ _ => rfl) r2 r3 (by rw [pushR, if_neg h8])) (by simp [a_sub])
end MODEL6
