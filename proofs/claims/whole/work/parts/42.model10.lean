section MODEL10
variable {M : Nat → Nat → Int32} {L : Nat → Nat → Int64} {dd : UInt64} {a a' : Row} {R R' : List Row} {T B : Nat} {thr c : Int32} {V : Value → Prop} {x : Value} {Q : a_Q}
theorem mq_ok {rt : Option FieldType} (hq : ∀ x M', TR rt x → M' 317 5 = thr → (thr = 0 → V x) → Fx M M' → (thr = 0 → MS M' a' R') → (thr ≠ 0 → MS M' a R) → Q (.inl (some x)) (hS M' L dd)) {M1 : Nat → Nat → Int32} (ht : thr = 0) (h5 : M1 317 5 = 0) (hv : V x) (hF : Fx M M1) (hA : RE a' (M1 318)) (hR : MH M1 R') (ti : TR rt x := by trivial) : Q (.inl (some x)) (hS M1 L dd) :=
  hq _ _ ti (h5.trans ht.symm) (fun _ => hv) hF (fun _ => ⟨hA, hR⟩) (fun z => absurd ht z)
theorem fx_c {M1 : Nat → Nat → Int32} {c : Nat} {r : Row} (h : Fx M M1) (hc : c = 318 ∨ c = 319 ∨ c = 320 ∨ c = 321 ∨ c = 323) : Fx M (mU M1 c r) :=
  fx_t h ⟨fun d g1 g2 g3 g4 g5 g6 => mU_n (by omega), by rw [mU_n (by omega)], by rw [mU_n (by omega)], by rw [mU_n (by omega)]⟩
theorem fx_kp {M1 : Nat → Nat → Int32} (h1 : ∀ c, c ≠ 317 → c ≠ 321 → M1 c = M c) (h2 : ∀ i, i ≠ 4 → M1 317 i = M 317 i) : Fx M M1 :=
  ⟨fun d g1 g2 g3 g4 g5 g6 => h1 d g1 g5, h2 7 (by omega), h2 15 (by omega), h2 19 (by omega)⟩
theorem mh_c {c : Nat} {r : Row} (h : MH M R) (h1 : c ≠ 317) (h2 : c ≠ 321) : MH (mU M c r) R := ⟨h.1, by rw [mU_n (Ne.symm h1)]; exact h.2.1, fun q b hr t ht => by rw [mU_n (Ne.symm h2)]; exact h.2.2 q b hr t ht⟩
def thAU (a : Row) (p s : Int32) : Int32 := if ¬ (0 ≤ p ∧ p < a 4) then 1 else if ¬ (1 ≤ s ∧ s ≤ 99) then 2 else if a 4 = 12 ∨ anJ a p = true ∨ anL a p = true then 3 else 0
theorem c_X10_addUser {p s : Int32} (hA : M 318 = a) (hR : MH M R) (hW : WF T a) : MQa yX10_addUser I_X10_addUser [.ref 317, .int p, .int s] M L dd (thAU a p s) (fun x => x = .int (a 4)) a (adU a p s) R (pushR R a) := by
  have wU := hW.1
  have wJ := hW.2.2.2.1
  have wL := hW.2.2.2.2.1
  have h12 := wU.2.2.1
  refine mq_mk (fun Q hq => ?_)
  have cont : thAU a p s = 0 → ¬ a 4 = 12 → ∀ M1 : Nat → Nat → Int32, M1 318 = a → MH M1 R → Fx M M1 → M1 317 5 = 0 → AW I_X10_addUser 71 [.ref 317, .int p, .int s] [] (hS M1 L dd) 0 0 Q := by
    intro ht h4 M1 e1 hR1 hF1 e5
    have hlt : nu a < 12 := by
      have z : nu a ≠ 12 := fun z => h4 (by rw [wU.1, z]; rfl)
      omega
    refine r_aload_n dX10_addUser_71 rfl ?_
    refine m_pv0 dX10_addUser_72 cv_X10_169 (c_X10_keeps e1 hR1) ob_model ⟨_, rfl, rfl⟩ ⟨rfl, rfl⟩ (by decide) (by decide) (Nat.le_of_ble_eq_true rfl) (fun M2 L2 ⟨x1, x2, x3, x4⟩ => ?_)
    refine r_aload_n dX10_addUser_75 rfl ?_
    refine r_iload_n dX10_addUser_76 rfl ?_
    refine r_iload_n dX10_addUser_77 rfl ?_
    refine m_pv2 dX10_addUser_78 cv_X10_115 (c_X10_addsUser ((x2 318 (by omega) (by omega)).trans e1) wU.1 hlt) ob_model ⟨_, rfl, rfl⟩ ⟨rfl, rfl⟩ (by decide) (by decide) (Nat.le_of_ble_eq_true rfl) (fun M3 L3 ⟨y1, y2⟩ => ?_)
    subst x1 y1 y2
    refine r_aload_n dX10_addUser_81 rfl ?_
    refine m_get 10 0 dX10_addUser_82 fl_X10_7 ob_model rfl ?_
    refine r_iconst_4 dX10_addUser_85 ?_
    refine m_iald 4 dX10_addUser_86 ai_a rfl (by omega) (by first | decide | assumption) ?_
    refine r_iconst_1 dX10_addUser_87 ?_
    refine r_isub dX10_addUser_88 ?_
    refine r_iret dX10_addUser_89 rfl (mq_ok hq ht (by rw [mU_n (by omega), x3 5 (by omega)]; exact e5) (congrArg Value.int ?_) (fx_c (fx_t hF1 (fx_kp x2 x3)) (by omega)) (by rw [mU_s]; exact re_r) (mh_c x4 (by omega) (by omega)))
    rw [mU_s, show adU a p s 4 = a 4 + 1 from upd_eq]
    grind
  refine a_met (by decide +kernel) rfl rfl (Nat.le_of_ble_eq_true rfl) (by simp [Value.category]) (by decide) rfl ?_
  show AW I_X10_addUser 0 [.ref 317, .int p, .int s] [] (hS M L dd) 0 0 Q
  refine r_aload_n dX10_addUser_0 rfl ?_
  refine r_aload_n dX10_addUser_1 rfl ?_
  refine r_iload_n dX10_addUser_2 rfl ?_
  refine m_cv1 dX10_addUser_3 cv_X10_192 (c_X10_isUser hA wU.1 h12) rfl ob_model ⟨_, rfl, rfl⟩ ⟨rfl, rfl⟩ (by decide) (by decide) (Nat.le_of_ble_eq_true rfl) ?_
  refine r_if_ne 13 dX10_addUser_6 (by decide) (fun h6 => ?_) (fun h6 => ?_)
  · refine r_iload_n dX10_addUser_13 rfl ?_
    refine r_iconst_1 dX10_addUser_14 ?_
    refine r_bipush 99 dX10_addUser_15 (by decide) ?_
    refine m_cs3 dX10_addUser_17 cs_X10_54 (c_X10_isIn) rfl ⟨rfl, rfl⟩ (by decide) (by decide) (Nat.le_of_ble_eq_true rfl) ?_
    refine r_if_ne 27 dX10_addUser_20 (by decide) (fun h20 => ?_) (fun h20 => ?_)
    · refine r_aload_n dX10_addUser_27 rfl ?_
      refine m_get 10 0 dX10_addUser_28 fl_X10_7 ob_model rfl ?_
      refine r_iconst_4 dX10_addUser_31 ?_
      refine m_iald 4 dX10_addUser_32 ai_a rfl (by omega) (by first | decide | assumption) ?_
      refine r_bipush 12 dX10_addUser_33 (by decide) ?_
      refine r_icmp_eq 54 dX10_addUser_35 (by decide) (fun h35 => ?_) (fun h35 => ?_)
      · refine r_iconst_3 dX10_addUser_54 ?_
        refine r_goto 59 dX10_addUser_55 (by decide) ?_
        refine m_put 10 5 dX10_addUser_59 fl_X10_42 (fun r hr => by cases hr; rfl) ob_model (Nat.le_of_ble_eq_true rfl) rfl ?_
        refine r_aload_n dX10_addUser_62 rfl ?_
        refine m_get 10 5 dX10_addUser_63 fl_X10_42 ob_model rfl ?_
        refine r_if_le 71 dX10_addUser_66 (by decide) (fun z => absurd z (by rw [mU_s, upd_eq]; decide)) (fun _ => ?_)
        refine r_iconst_0 dX10_addUser_69 ?_
        exact r_iret dX10_addUser_70 rfl (mq_t hq hA hR (by decide) (by clear hq cont; simp_all [thAU, bI_0]))
      · refine r_aload_n dX10_addUser_38 rfl ?_
        refine r_iload_n dX10_addUser_39 rfl ?_
        refine m_cv1 dX10_addUser_40 cv_X10_108 (c_X10_hasJobs hA wJ.1 wJ.2.1) rfl ob_model ⟨_, rfl, rfl⟩ ⟨rfl, rfl⟩ (by decide) (by decide) (Nat.le_of_ble_eq_true rfl) ?_
        refine r_if_ne 54 dX10_addUser_43 (by decide) (fun h43 => ?_) (fun h43 => ?_)
        · refine r_iconst_3 dX10_addUser_54 ?_
          refine r_goto 59 dX10_addUser_55 (by decide) ?_
          refine m_put 10 5 dX10_addUser_59 fl_X10_42 (fun r hr => by cases hr; rfl) ob_model (Nat.le_of_ble_eq_true rfl) rfl ?_
          refine r_aload_n dX10_addUser_62 rfl ?_
          refine m_get 10 5 dX10_addUser_63 fl_X10_42 ob_model rfl ?_
          refine r_if_le 71 dX10_addUser_66 (by decide) (fun z => absurd z (by rw [mU_s, upd_eq]; decide)) (fun _ => ?_)
          refine r_iconst_0 dX10_addUser_69 ?_
          exact r_iret dX10_addUser_70 rfl (mq_t hq hA hR (by decide) (by clear hq cont; simp_all [thAU, bI_0]))
        · refine r_aload_n dX10_addUser_46 rfl ?_
          refine r_iload_n dX10_addUser_47 rfl ?_
          refine m_cv1 dX10_addUser_48 cv_X10_204 (c_X10_hasLoan hA wL.1 wL.2.1) rfl ob_model ⟨_, rfl, rfl⟩ ⟨rfl, rfl⟩ (by decide) (by decide) (Nat.le_of_ble_eq_true rfl) ?_
          refine r_if_eq 58 dX10_addUser_51 (by decide) (fun h51 => ?_) (fun h51 => ?_)
          · refine r_iconst_0 dX10_addUser_58 ?_
            refine m_put 10 5 dX10_addUser_59 fl_X10_42 (fun r hr => by cases hr; rfl) ob_model (Nat.le_of_ble_eq_true rfl) rfl ?_
            refine r_aload_n dX10_addUser_62 rfl ?_
            refine m_get 10 5 dX10_addUser_63 fl_X10_42 ob_model rfl ?_
            refine r_if_le 71 dX10_addUser_66 (by decide) (fun _ => ?_) (fun z => absurd (by rw [mU_s, upd_eq]; decide) z)
            exact cont (by clear hq cont; simp_all [thAU, bI_0]) (by clear hq cont; simp_all) _ (by rw [mU_n (by omega)]; exact hA) (mh_th hR) fx_th (by rw [mU_s, upd_eq])
          · refine r_iconst_3 dX10_addUser_54 ?_
            refine r_goto 59 dX10_addUser_55 (by decide) ?_
            refine m_put 10 5 dX10_addUser_59 fl_X10_42 (fun r hr => by cases hr; rfl) ob_model (Nat.le_of_ble_eq_true rfl) rfl ?_
            refine r_aload_n dX10_addUser_62 rfl ?_
            refine m_get 10 5 dX10_addUser_63 fl_X10_42 ob_model rfl ?_
            refine r_if_le 71 dX10_addUser_66 (by decide) (fun z => absurd z (by rw [mU_s, upd_eq]; decide)) (fun _ => ?_)
            refine r_iconst_0 dX10_addUser_69 ?_
            exact r_iret dX10_addUser_70 rfl (mq_t hq hA hR (by decide) (by clear hq cont; simp_all [thAU, bI_0]))
    · refine r_iconst_2 dX10_addUser_23 ?_
      refine r_goto 59 dX10_addUser_24 (by decide) ?_
      refine m_put 10 5 dX10_addUser_59 fl_X10_42 (fun r hr => by cases hr; rfl) ob_model (Nat.le_of_ble_eq_true rfl) rfl ?_
      refine r_aload_n dX10_addUser_62 rfl ?_
      refine m_get 10 5 dX10_addUser_63 fl_X10_42 ob_model rfl ?_
      refine r_if_le 71 dX10_addUser_66 (by decide) (fun z => absurd z (by rw [mU_s, upd_eq]; decide)) (fun _ => ?_)
      refine r_iconst_0 dX10_addUser_69 ?_
      exact r_iret dX10_addUser_70 rfl (mq_t hq hA hR (by decide) (by clear hq cont; simp_all [thAU, bI_0]))
  · refine r_iconst_1 dX10_addUser_9 ?_
    refine r_goto 59 dX10_addUser_10 (by decide) ?_
    refine m_put 10 5 dX10_addUser_59 fl_X10_42 (fun r hr => by cases hr; rfl) ob_model (Nat.le_of_ble_eq_true rfl) rfl ?_
    refine r_aload_n dX10_addUser_62 rfl ?_
    refine m_get 10 5 dX10_addUser_63 fl_X10_42 ob_model rfl ?_
    refine r_if_le 71 dX10_addUser_66 (by decide) (fun z => absurd z (by rw [mU_s, upd_eq]; decide)) (fun _ => ?_)
    refine r_iconst_0 dX10_addUser_69 ?_
    exact r_iret dX10_addUser_70 rfl (mq_t hq hA hR (by decide) (by clear hq cont; simp_all [thAU, bI_0]))
def thSS (a : Row) (u s : Int32) : Int32 := if ¬ (0 ≤ u ∧ u < a 4) then 1 else if (1 ≤ s ∧ s ≤ 99) ∧ 0 < u then 0 else 2
theorem c_X10_setShares {u s : Int32} (hA : M 318 = a) (hR : MH M R) (hW : WF T a) : MQa yX10_setShares I_X10_setShares [.ref 317, .int u, .int s] M L dd (thSS a u s) (fun x => ∀ k, k < nu a → u = nI k → x = .int (a (22 + k))) a (upd a (22 + zN u) s) R (pushR R a) := by
  have wU := hW.1
  have h12 := wU.2.2.1
  refine mq_mk (fun Q hq => ?_)
  have cont : thSS a u s = 0 → ∀ k, k < nu a → u = nI k → ∀ M1 : Nat → Nat → Int32, M1 318 = a → MH M1 R → Fx M M1 → M1 317 5 = 0 → AW I_X10_setShares 44 [.ref 317, .int u, .int s, .null] [] (hS M1 L dd) 0 0 Q := by
    intro ht k hk ek M1 e1 hR1 hF1 e5
    subst ek
    have zk : zN (nI k) = k := nI_clamp (by omega)
    refine r_aload_n dX10_setShares_44 rfl ?_
    refine m_pv0 dX10_setShares_45 cv_X10_169 (c_X10_keeps e1 hR1) ob_model ⟨_, rfl, rfl⟩ ⟨rfl, rfl⟩ (by decide) (by decide) (Nat.le_of_ble_eq_true rfl) (fun M2 L2 ⟨x1, x2, x3, x4⟩ => ?_)
    subst x1
    have e2 := (x2 318 (by omega) (by omega)).trans e1
    refine r_aload_n dX10_setShares_48 rfl ?_
    refine m_get 10 0 dX10_setShares_49 fl_X10_7 ob_model rfl ?_
    refine r_bipush 22 dX10_setShares_52 (by decide) ?_
    refine r_iload_n dX10_setShares_54 rfl ?_
    refine r_iadd dX10_setShares_55 ?_
    refine m_iald (22 + k) dX10_setShares_56 ai_a (nI_add 22 k) (by omega) (by first | decide | assumption) ?_
    refine s_istore_n 3 dX10_setShares_57 (by decide) rfl rfl ?_
    refine r_aload_n dX10_setShares_58 rfl ?_
    refine m_get 10 0 dX10_setShares_59 fl_X10_7 ob_model rfl ?_
    refine r_bipush 22 dX10_setShares_62 (by decide) ?_
    refine r_iload_n dX10_setShares_64 rfl ?_
    refine r_iadd dX10_setShares_65 ?_
    refine r_iload_n dX10_setShares_66 rfl ?_
    refine m_iast (22 + k) dX10_setShares_67 ai_a (nI_add 22 k) (by omega) (by first | decide | assumption) ?_
    refine r_iload_n dX10_setShares_68 rfl ?_
    refine r_iret dX10_setShares_69 rfl (mq_ok hq ht (by rw [mU_n (by omega), x3 5 (by omega)]; exact e5) (fun k2 hk2 ek2 => ?_) (fx_c (fx_t hF1 (fx_kp x2 x3)) (by omega)) (by rw [mU_s, e2, zk]; exact re_r) (mh_c x4 (by omega) (by omega)))
    rw [nI_eq (by omega) (by omega)] at ek2
    subst ek2
    rw [e2]
  refine a_met (by decide +kernel) rfl rfl (Nat.le_of_ble_eq_true rfl) (by simp [Value.category]) (by decide) rfl ?_
  show AW I_X10_setShares 0 [.ref 317, .int u, .int s, .null] [] (hS M L dd) 0 0 Q
  refine r_aload_n dX10_setShares_0 rfl ?_
  refine r_aload_n dX10_setShares_1 rfl ?_
  refine r_iload_n dX10_setShares_2 rfl ?_
  refine m_cv1 dX10_setShares_3 cv_X10_192 (c_X10_isUser hA wU.1 h12) rfl ob_model ⟨_, rfl, rfl⟩ ⟨rfl, rfl⟩ (by decide) (by decide) (Nat.le_of_ble_eq_true rfl) ?_
  refine r_if_ne 13 dX10_setShares_6 (by decide) (fun h6 => ?_) (fun h6 => ?_)
  · refine r_iload_n dX10_setShares_13 rfl ?_
    refine r_iconst_1 dX10_setShares_14 ?_
    refine r_bipush 99 dX10_setShares_15 (by decide) ?_
    refine m_cs3 dX10_setShares_17 cs_X10_54 (c_X10_isIn) rfl ⟨rfl, rfl⟩ (by decide) (by decide) (Nat.le_of_ble_eq_true rfl) ?_
    refine r_if_eq 31 dX10_setShares_20 (by decide) (fun h20 => ?_) (fun h20 => ?_)
    · refine r_iconst_2 dX10_setShares_31 ?_
      refine m_put 10 5 dX10_setShares_32 fl_X10_42 (fun r hr => by cases hr; rfl) ob_model (Nat.le_of_ble_eq_true rfl) rfl ?_
      refine r_aload_n dX10_setShares_35 rfl ?_
      refine m_get 10 5 dX10_setShares_36 fl_X10_42 ob_model rfl ?_
      refine r_if_le 44 dX10_setShares_39 (by decide) (fun z => absurd z (by rw [mU_s, upd_eq]; decide)) (fun _ => ?_)
      refine r_iconst_0 dX10_setShares_42 ?_
      exact r_iret dX10_setShares_43 rfl (mq_t hq hA hR (by decide) (by clear hq cont; simp_all [thSS, bI_0, ← Int32.not_lt]))
    · refine r_iload_n dX10_setShares_23 rfl ?_
      refine r_if_le 31 dX10_setShares_24 (by decide) (fun h24 => ?_) (fun h24 => ?_)
      · refine r_iconst_2 dX10_setShares_31 ?_
        refine m_put 10 5 dX10_setShares_32 fl_X10_42 (fun r hr => by cases hr; rfl) ob_model (Nat.le_of_ble_eq_true rfl) rfl ?_
        refine r_aload_n dX10_setShares_35 rfl ?_
        refine m_get 10 5 dX10_setShares_36 fl_X10_42 ob_model rfl ?_
        refine r_if_le 44 dX10_setShares_39 (by decide) (fun z => absurd z (by rw [mU_s, upd_eq]; decide)) (fun _ => ?_)
        refine r_iconst_0 dX10_setShares_42 ?_
        exact r_iret dX10_setShares_43 rfl (mq_t hq hA hR (by decide) (by clear hq cont; simp_all [thSS, bI_0, ← Int32.not_lt]))
      · refine r_iconst_0 dX10_setShares_27 ?_
        refine r_goto 32 dX10_setShares_28 (by decide) ?_
        refine m_put 10 5 dX10_setShares_32 fl_X10_42 (fun r hr => by cases hr; rfl) ob_model (Nat.le_of_ble_eq_true rfl) rfl ?_
        refine r_aload_n dX10_setShares_35 rfl ?_
        refine m_get 10 5 dX10_setShares_36 fl_X10_42 ob_model rfl ?_
        refine r_if_le 44 dX10_setShares_39 (by decide) (fun _ => ?_) (fun z => absurd (by rw [mU_s, upd_eq]; decide) z)
        (obtain ⟨k, hk, ek⟩ := ix_n wU.1 (by omega) (Decidable.not_not.mp (fun z => h6 (bI_0.mpr z))); exact cont (by clear hq cont; simp_all [thSS, bI_0, ← Int32.not_lt]) k hk ek _ (by rw [mU_n (by omega)]; exact hA) (mh_th hR) fx_th (by rw [mU_s, upd_eq]))
  · refine r_iconst_1 dX10_setShares_9 ?_
    refine r_goto 32 dX10_setShares_10 (by decide) ?_
    refine m_put 10 5 dX10_setShares_32 fl_X10_42 (fun r hr => by cases hr; rfl) ob_model (Nat.le_of_ble_eq_true rfl) rfl ?_
    refine r_aload_n dX10_setShares_35 rfl ?_
    refine m_get 10 5 dX10_setShares_36 fl_X10_42 ob_model rfl ?_
    refine r_if_le 44 dX10_setShares_39 (by decide) (fun z => absurd z (by rw [mU_s, upd_eq]; decide)) (fun _ => ?_)
    refine r_iconst_0 dX10_setShares_42 ?_
    exact r_iret dX10_setShares_43 rfl (mq_t hq hA hR (by decide) (by clear hq cont; simp_all [thSS, bI_0, ← Int32.not_lt]))
theorem c_X10_cannotLend {f t : Nat} {s : Int32} (hA : M 318 = a) (hW : WF T a) (hf : f < nu a) (ht : t < nu a) : AD yX10_cannotLend I_X10_cannotLend [.ref 317, .int (nI f), .int (nI t), .int s] (hS M L dd) (.inl (some (.int (bI (¬ lfS a f ∨ ¬ lfS a t ∨ a 7 = 8 ∨ tkS a f < s))))) (hS M L dd) := by
  have wU := hW.1
  have h12 := wU.2.2.1
  have wL := hW.2.2.2.2.1
  intro Q hq
  refine a_met (by decide +kernel) rfl rfl (Nat.le_of_ble_eq_true rfl) (by simp [Value.category]) (by decide) rfl ?_
  show AW I_X10_cannotLend 0 [.ref 317, .int (nI f), .int (nI t), .int s] [] (hS M L dd) 0 0 Q
  refine r_aload_n dX10_cannotLend_0 rfl ?_
  refine r_iload_n dX10_cannotLend_1 rfl ?_
  refine m_cv1 dX10_cannotLend_2 cv_X10_119 (c_X10_isLeaf hA wU.1 h12) rfl ob_model ⟨_, rfl, rfl⟩ ⟨rfl, rfl⟩ (by decide) (by decide) (Nat.le_of_ble_eq_true rfl) ?_
  refine r_if_eq 37 dX10_cannotLend_5 (by decide) (fun h5 => ?_) (fun h5 => ?_)
  · refine r_iconst_1 dX10_cannotLend_37 ?_
    refine r_goto 42 dX10_cannotLend_38 (by decide) ?_
    exact e_zret dX10_cannotLend_42 rfl hq (by simp_all [bI, bI_0])
  · refine r_aload_n dX10_cannotLend_8 rfl ?_
    refine r_iload_n dX10_cannotLend_9 rfl ?_
    refine m_cv1 dX10_cannotLend_10 cv_X10_119 (c_X10_isLeaf hA wU.1 h12) rfl ob_model ⟨_, rfl, rfl⟩ ⟨rfl, rfl⟩ (by decide) (by decide) (Nat.le_of_ble_eq_true rfl) ?_
    refine r_if_eq 37 dX10_cannotLend_13 (by decide) (fun h13 => ?_) (fun h13 => ?_)
    · refine r_iconst_1 dX10_cannotLend_37 ?_
      refine r_goto 42 dX10_cannotLend_38 (by decide) ?_
      exact e_zret dX10_cannotLend_42 rfl hq (by simp_all [bI, bI_0])
    · refine r_aload_n dX10_cannotLend_16 rfl ?_
      refine m_get 10 0 dX10_cannotLend_17 fl_X10_7 ob_model rfl ?_
      refine r_bipush 7 dX10_cannotLend_20 (by decide) ?_
      refine m_iald 7 dX10_cannotLend_22 ai_a rfl (by omega) (by first | decide | assumption) ?_
      refine r_bipush 8 dX10_cannotLend_23 (by decide) ?_
      refine r_icmp_eq 37 dX10_cannotLend_25 (by decide) (fun h25 => ?_) (fun h25 => ?_)
      · refine r_iconst_1 dX10_cannotLend_37 ?_
        refine r_goto 42 dX10_cannotLend_38 (by decide) ?_
        exact e_zret dX10_cannotLend_42 rfl hq (by simp_all [bI, bI_0])
      · refine r_iload_n dX10_cannotLend_28 rfl ?_
        refine r_aload_n dX10_cannotLend_29 rfl ?_
        refine r_iload_n dX10_cannotLend_30 rfl ?_
        refine m_cv1 dX10_cannotLend_31 cv_X10_195 (c_X10_ticketsOf hA wU wL hf) rfl ob_model ⟨_, rfl, rfl⟩ ⟨rfl, rfl⟩ (by decide) (by decide) (Nat.le_of_ble_eq_true rfl) ?_
        refine r_icmp_le 41 dX10_cannotLend_34 (by decide) (fun h34 => ?_) (fun h34 => ?_)
        · refine r_iconst_0 dX10_cannotLend_41 ?_
          exact e_zret dX10_cannotLend_42 rfl hq (by simp_all [bI, bI_0])
        · refine r_iconst_1 dX10_cannotLend_37 ?_
          refine r_goto 42 dX10_cannotLend_38 (by decide) ?_
          exact e_zret dX10_cannotLend_42 rfl hq (by simp_all [bI, bI_0])
def thLe (a : Row) (f t s q : Int32) : Int32 := if ¬ (0 ≤ f ∧ f < a 4) ∨ ¬ (0 ≤ t ∧ t < a 4) then 1 else if f = t ∨ ¬ (1 ≤ s ∧ s ≤ 500000) ∨ ¬ (1 ≤ q ∧ q ≤ 50) then 2 else if ¬ lfS a (zN f) ∨ ¬ lfS a (zN t) ∨ a 7 = 8 ∨ tkS a (zN f) < s then 3 else 0
theorem c_X10_lend {f t s q : Int32} (hA : M 318 = a) (hR : MH M R) (hW : WF T a) : MQa yX10_lend I_X10_lend [.ref 317, .int f, .int t, .int s, .int q] M L dd (thLe a f t s q) (fun x => x = .int (a 7)) a (adL a f t s q) R (pushR R a) := by
  have wU := hW.1
  have h12 := wU.2.2.1
  have wL := hW.2.2.2.2.1
  have h8 := wL.2.1
  refine mq_mk (fun Q hq => ?_)
  have cont : thLe a f t s q = 0 → ¬ a 7 = 8 → ∀ r, ∀ M1 : Nat → Nat → Int32, M1 318 = a → MH M1 R → Fx M M1 → M1 317 5 = 0 → AW I_X10_lend 90 [.ref 317, .int f, .int t, .int s, .int q, .int r, .null] [] (hS M1 L dd) 0 0 Q := by
    intro ht h7 r M1 e1 hR1 hF1 e5
    refine r_aload_n dX10_lend_90 rfl ?_
    refine m_pv0 dX10_lend_91 cv_X10_169 (c_X10_keeps e1 hR1) ob_model ⟨_, rfl, rfl⟩ ⟨rfl, rfl⟩ (by decide) (by decide) (Nat.le_of_ble_eq_true rfl) (fun M2 L2 ⟨x1, x2, x3, x4⟩ => ?_)
    subst x1
    have e2 := (x2 318 (by omega) (by omega)).trans e1
    refine r_sipush 268 dX10_lend_94 (by decide) ?_
    refine r_iconst_5 dX10_lend_97 ?_
    refine r_aload_n dX10_lend_98 rfl ?_
    refine m_get 10 0 dX10_lend_99 fl_X10_7 ob_model rfl ?_
    refine r_bipush 7 dX10_lend_102 (by decide) ?_
    refine m_iald 7 dX10_lend_104 ai_a rfl (by omega) (by first | decide | assumption) ?_
    rw [e2, wL.1]
    have hlt : nl a < 8 := by
      have z : nl a ≠ 8 := fun z => h7 (by rw [wL.1, z]; rfl)
      omega
    refine r_imul dX10_lend_105 ?_
    refine r_iadd dX10_lend_106 ?_
    refine s_istore dX10_lend_107 (by decide) rfl ?_
    refine r_aload_n dX10_lend_109 rfl ?_
    refine m_get 10 0 dX10_lend_110 fl_X10_7 ob_model rfl ?_
    refine r_iload dX10_lend_113 rfl ?_
    refine r_iconst_0 dX10_lend_115 ?_
    refine r_iadd dX10_lend_116 ?_
    refine r_iload_n dX10_lend_117 rfl ?_
    refine m_iast (268 + 5 * nl a + 0) dX10_lend_118 ai_a (ix_l _ 0) (by omega) (by first | decide | assumption) ?_
    refine r_aload_n dX10_lend_119 rfl ?_
    refine m_get 10 0 dX10_lend_120 fl_X10_7 ob_model rfl ?_
    refine r_iload dX10_lend_123 rfl ?_
    refine r_iconst_1 dX10_lend_125 ?_
    refine r_iadd dX10_lend_126 ?_
    refine r_iload_n dX10_lend_127 rfl ?_
    refine m_iast (268 + 5 * nl a + 1) dX10_lend_128 ai_a (ix_l _ 1) (by omega) (by first | decide | assumption) ?_
    refine r_aload_n dX10_lend_129 rfl ?_
    refine m_get 10 0 dX10_lend_130 fl_X10_7 ob_model rfl ?_
    refine r_iload dX10_lend_133 rfl ?_
    refine r_iconst_2 dX10_lend_135 ?_
    refine r_iadd dX10_lend_136 ?_
    refine r_iload_n dX10_lend_137 rfl ?_
    refine m_iast (268 + 5 * nl a + 2) dX10_lend_138 ai_a (ix_l _ 2) (by omega) (by first | decide | assumption) ?_
    refine r_aload_n dX10_lend_139 rfl ?_
    refine m_get 10 0 dX10_lend_140 fl_X10_7 ob_model rfl ?_
    refine r_iload dX10_lend_143 rfl ?_
    refine r_iconst_3 dX10_lend_145 ?_
    refine r_iadd dX10_lend_146 ?_
    refine r_aload_n dX10_lend_147 rfl ?_
    refine m_get 10 0 dX10_lend_148 fl_X10_7 ob_model rfl ?_
    refine r_iconst_0 dX10_lend_151 ?_
    refine m_iald 0 dX10_lend_152 ai_a rfl (by omega) (by first | decide | assumption) ?_
    refine m_iast (268 + 5 * nl a + 3) dX10_lend_153 ai_a (ix_l _ 3) (by omega) (by first | decide | assumption) ?_
    refine r_aload_n dX10_lend_154 rfl ?_
    refine m_get 10 0 dX10_lend_155 fl_X10_7 ob_model rfl ?_
    refine r_iload dX10_lend_158 rfl ?_
    refine r_iconst_4 dX10_lend_160 ?_
    refine r_iadd dX10_lend_161 ?_
    refine r_iload dX10_lend_162 rfl ?_
    refine m_iast (268 + 5 * nl a + 4) dX10_lend_164 ai_a (ix_l _ 4) (by omega) (by first | decide | assumption) ?_
    refine r_aload_n dX10_lend_165 rfl ?_
    refine m_get 10 0 dX10_lend_166 fl_X10_7 ob_model rfl ?_
    refine r_bipush 7 dX10_lend_169 (by decide) ?_
    refine r_dup2 dX10_lend_171 rfl rfl ?_
    refine m_iald 7 dX10_lend_172 ai_a rfl (by omega) (by first | decide | assumption) ?_
    refine r_iconst_1 dX10_lend_173 ?_
    refine r_iadd dX10_lend_174 ?_
    refine m_iast 7 dX10_lend_175 ai_a rfl (by omega) (by first | decide | assumption) ?_
    skip
    refine m_abs (fun M3 => M3 = mU M2 318 (adL a f t s q)) ?_ (fun M3 e3 => ?_)
    · simp only [mU_mU, mU_s]
      rw [e2]
      unfold adL
      simp only [layL]
      congr 1
      rw [upd_ne (show 7 ≠ 268 + 5 * nl a + 4 by omega), upd_ne (show 7 ≠ 268 + 5 * nl a + 3 by omega), upd_ne (show 7 ≠ 268 + 5 * nl a + 2 by omega), upd_ne (show 7 ≠ 268 + 5 * nl a + 1 by omega), upd_ne (show 7 ≠ 268 + 5 * nl a + 0 by omega), upd_ne (show 0 ≠ 268 + 5 * nl a + 2 by omega), upd_ne (show 0 ≠ 268 + 5 * nl a + 1 by omega), upd_ne (show 0 ≠ 268 + 5 * nl a + 0 by omega)]
    subst e3
    refine r_aload_n dX10_lend_176 rfl ?_
    refine m_get 10 0 dX10_lend_177 fl_X10_7 ob_model rfl ?_
    refine r_bipush 7 dX10_lend_180 (by decide) ?_
    refine m_iald 7 dX10_lend_182 ai_a rfl (by omega) (by first | decide | assumption) ?_
    refine r_iconst_1 dX10_lend_183 ?_
    refine r_isub dX10_lend_184 ?_
    refine r_iret dX10_lend_185 rfl (mq_ok hq ht (by rw [mU_n (by omega), x3 5 (by omega)]; exact e5) (congrArg Value.int ?_) (fx_c (fx_t hF1 (fx_kp x2 x3)) (by omega)) (by rw [mU_s]; exact re_r) (mh_c x4 (by omega) (by omega)))
    rw [mU_s, show adL a f t s q 7 = a 7 + 1 from upd_eq]
    grind
  have c33 : AW I_X10_lend 33 [.ref 317, .int f, .int t, .int s, .int q, .int (bI (¬ f = t ∧ (1 ≤ s ∧ s ≤ 500000) ∧ (1 ≤ q ∧ q ≤ 50))), .null] [] (hS M L dd) 0 0 Q := by
    refine r_aload_n dX10_lend_33 rfl ?_
    refine r_aload_n dX10_lend_34 rfl ?_
    refine r_iload_n dX10_lend_35 rfl ?_
    refine m_cv1 dX10_lend_36 cv_X10_192 (c_X10_isUser hA wU.1 h12) rfl ob_model ⟨_, rfl, rfl⟩ ⟨rfl, rfl⟩ (by decide) (by decide) (Nat.le_of_ble_eq_true rfl) ?_
    refine r_if_eq 50 dX10_lend_39 (by decide) (fun h39 => ?_) (fun h39 => ?_)
    · rw [bI_0] at h39
      refine r_iconst_1 dX10_lend_50 ?_
      refine r_goto 78 dX10_lend_51 (by decide) ?_
      refine m_put 10 5 dX10_lend_78 fl_X10_42 (fun r hr => by cases hr; rfl) ob_model (Nat.le_of_ble_eq_true rfl) rfl ?_
      refine r_aload_n dX10_lend_81 rfl ?_
      refine m_get 10 5 dX10_lend_82 fl_X10_42 ob_model rfl ?_
      refine r_if_le 90 dX10_lend_85 (by decide) (fun z => absurd z (by rw [mU_s, upd_eq]; decide)) (fun _ => ?_)
      refine r_iconst_0 dX10_lend_88 ?_
      exact r_iret dX10_lend_89 rfl (mq_t hq hA hR (by decide) (by rw [thLe, if_pos (Or.inl h39)]))
    · rw [bI_0, Decidable.not_not] at h39
      refine r_aload_n dX10_lend_42 rfl ?_
      refine r_iload_n dX10_lend_43 rfl ?_
      refine m_cv1 dX10_lend_44 cv_X10_192 (c_X10_isUser hA wU.1 h12) rfl ob_model ⟨_, rfl, rfl⟩ ⟨rfl, rfl⟩ (by decide) (by decide) (Nat.le_of_ble_eq_true rfl) ?_
      refine r_if_ne 54 dX10_lend_47 (by decide) (fun h47 => ?_) (fun h47 => ?_)
      · rw [bI_0, Decidable.not_not] at h47
        have g1 : ¬ (¬ (0 ≤ f ∧ f < a 4) ∨ ¬ (0 ≤ t ∧ t < a 4)) := fun z => z.elim (fun y => y h39) (fun y => y h47)
        refine r_iload dX10_lend_54 rfl ?_
        refine r_if_ne 63 dX10_lend_56 (by decide) (fun h56 => ?_) (fun h56 => ?_)
        · rw [bI_0, Decidable.not_not] at h56
          have g2 : ¬ (f = t ∨ ¬ (1 ≤ s ∧ s ≤ 500000) ∨ ¬ (1 ≤ q ∧ q ≤ 50)) := fun z => z.elim h56.1 (fun y => y.elim (fun w => w h56.2.1) (fun w => w h56.2.2))
          obtain ⟨k, hk, rfl⟩ := ix_n wU.1 (by omega) h39
          obtain ⟨k2, hk2, rfl⟩ := ix_n wU.1 (by omega) h47
          have zk : zN (nI k) = k := nI_clamp (by omega)
          have zk2 : zN (nI k2) = k2 := nI_clamp (by omega)
          refine r_aload_n dX10_lend_63 rfl ?_
          refine r_iload_n dX10_lend_64 rfl ?_
          refine r_iload_n dX10_lend_65 rfl ?_
          refine r_iload_n dX10_lend_66 rfl ?_
          refine m_cv3 dX10_lend_67 cv_X10_208 (c_X10_cannotLend hA hW hk hk2) rfl ob_model ⟨_, rfl, rfl⟩ ⟨rfl, rfl⟩ (by decide) (by decide) (Nat.le_of_ble_eq_true rfl) ?_
          refine r_if_eq 77 dX10_lend_70 (by decide) (fun h70 => ?_) (fun h70 => ?_)
          · rw [bI_0] at h70
            refine r_iconst_0 dX10_lend_77 ?_
            refine m_put 10 5 dX10_lend_78 fl_X10_42 (fun r hr => by cases hr; rfl) ob_model (Nat.le_of_ble_eq_true rfl) rfl ?_
            refine r_aload_n dX10_lend_81 rfl ?_
            refine m_get 10 5 dX10_lend_82 fl_X10_42 ob_model rfl ?_
            refine r_if_le 90 dX10_lend_85 (by decide) (fun _ => ?_) (fun z => absurd (by rw [mU_s, upd_eq]; decide) z)
            exact cont (by rw [thLe, zk, zk2, if_neg g1, if_neg g2, if_neg h70]) (fun z => h70 (Or.inr (Or.inr (Or.inl z)))) _ _ (by rw [mU_n (by omega)]; exact hA) (mh_th hR) fx_th (by rw [mU_s, upd_eq])
          · rw [bI_0, Decidable.not_not] at h70
            refine r_iconst_3 dX10_lend_73 ?_
            refine r_goto 78 dX10_lend_74 (by decide) ?_
            refine m_put 10 5 dX10_lend_78 fl_X10_42 (fun r hr => by cases hr; rfl) ob_model (Nat.le_of_ble_eq_true rfl) rfl ?_
            refine r_aload_n dX10_lend_81 rfl ?_
            refine m_get 10 5 dX10_lend_82 fl_X10_42 ob_model rfl ?_
            refine r_if_le 90 dX10_lend_85 (by decide) (fun z => absurd z (by rw [mU_s, upd_eq]; decide)) (fun _ => ?_)
            refine r_iconst_0 dX10_lend_88 ?_
            exact r_iret dX10_lend_89 rfl (mq_t hq hA hR (by decide) (by rw [thLe, zk, zk2, if_neg g1, if_neg g2, if_pos h70]))
        · rw [bI_0] at h56
          refine r_iconst_2 dX10_lend_59 ?_
          refine r_goto 78 dX10_lend_60 (by decide) ?_
          refine m_put 10 5 dX10_lend_78 fl_X10_42 (fun r hr => by cases hr; rfl) ob_model (Nat.le_of_ble_eq_true rfl) rfl ?_
          refine r_aload_n dX10_lend_81 rfl ?_
          refine m_get 10 5 dX10_lend_82 fl_X10_42 ob_model rfl ?_
          refine r_if_le 90 dX10_lend_85 (by decide) (fun z => absurd z (by rw [mU_s, upd_eq]; decide)) (fun _ => ?_)
          refine r_iconst_0 dX10_lend_88 ?_
          exact r_iret dX10_lend_89 rfl (mq_t hq hA hR (by decide) (by rw [thLe, if_neg g1, if_pos (by clear hq cont; by_cases z1 : f = t <;> by_cases z2 : 1 ≤ s ∧ s ≤ 500000 <;> by_cases z3 : 1 ≤ q ∧ q ≤ 50 <;> simp_all)]))
      · rw [bI_0] at h47
        refine r_iconst_1 dX10_lend_50 ?_
        refine r_goto 78 dX10_lend_51 (by decide) ?_
        refine m_put 10 5 dX10_lend_78 fl_X10_42 (fun r hr => by cases hr; rfl) ob_model (Nat.le_of_ble_eq_true rfl) rfl ?_
        refine r_aload_n dX10_lend_81 rfl ?_
        refine m_get 10 5 dX10_lend_82 fl_X10_42 ob_model rfl ?_
        refine r_if_le 90 dX10_lend_85 (by decide) (fun z => absurd z (by rw [mU_s, upd_eq]; decide)) (fun _ => ?_)
        refine r_iconst_0 dX10_lend_88 ?_
        exact r_iret dX10_lend_89 rfl (mq_t hq hA hR (by decide) (by rw [thLe, if_pos (Or.inr h47)]))
  refine a_met (by decide +kernel) rfl rfl (Nat.le_of_ble_eq_true rfl) (by simp [Value.category]) (by decide) rfl ?_
  show AW I_X10_lend 0 [.ref 317, .int f, .int t, .int s, .int q, .null, .null] [] (hS M L dd) 0 0 Q
  refine r_iload_n dX10_lend_0 rfl ?_
  refine r_iload_n dX10_lend_1 rfl ?_
  refine r_icmp_eq 30 dX10_lend_2 (by decide) (fun h2 => ?_) (fun h2 => ?_)
  · refine r_iconst_0 dX10_lend_30 ?_
    refine s_istore dX10_lend_31 (by decide) rfl ?_
    exact m_sub c33 (by clear hq cont c33; by_cases z1 : f = t <;> by_cases z2 : 1 ≤ s ∧ s ≤ 500000 <;> by_cases z3 : 1 ≤ q ∧ q ≤ 50 <;> simp_all [a_sub, bI])
  · refine r_iload_n dX10_lend_5 rfl ?_
    refine r_iconst_1 dX10_lend_6 ?_
    refine r_ldc 500000 dX10_lend_7 k_1464 ?_
    refine m_cs3 dX10_lend_9 cs_X10_54 (c_X10_isIn) rfl ⟨rfl, rfl⟩ (by decide) (by decide) (Nat.le_of_ble_eq_true rfl) ?_
    refine r_if_eq 30 dX10_lend_12 (by decide) (fun h12 => ?_) (fun h12 => ?_)
    · refine r_iconst_0 dX10_lend_30 ?_
      refine s_istore dX10_lend_31 (by decide) rfl ?_
      exact m_sub c33 (by clear hq cont c33; by_cases z1 : f = t <;> by_cases z2 : 1 ≤ s ∧ s ≤ 500000 <;> by_cases z3 : 1 ≤ q ∧ q ≤ 50 <;> simp_all [a_sub, bI])
    · refine r_iload dX10_lend_15 rfl ?_
      refine r_iconst_1 dX10_lend_17 ?_
      refine r_bipush 50 dX10_lend_18 (by decide) ?_
      refine m_cs3 dX10_lend_20 cs_X10_54 (c_X10_isIn) rfl ⟨rfl, rfl⟩ (by decide) (by decide) (Nat.le_of_ble_eq_true rfl) ?_
      refine r_if_eq 30 dX10_lend_23 (by decide) (fun h23 => ?_) (fun h23 => ?_)
      · refine r_iconst_0 dX10_lend_30 ?_
        refine s_istore dX10_lend_31 (by decide) rfl ?_
        exact m_sub c33 (by clear hq cont c33; by_cases z1 : f = t <;> by_cases z2 : 1 ≤ s ∧ s ≤ 500000 <;> by_cases z3 : 1 ≤ q ∧ q ≤ 50 <;> simp_all [a_sub, bI])
      · refine r_iconst_1 dX10_lend_26 ?_
        refine r_goto 31 dX10_lend_27 (by decide) ?_
        refine s_istore dX10_lend_31 (by decide) rfl ?_
        exact m_sub c33 (by clear hq cont c33; by_cases z1 : f = t <;> by_cases z2 : 1 ≤ s ∧ s ≤ 500000 <;> by_cases z3 : 1 ≤ q ∧ q ≤ 50 <;> simp_all [a_sub, bI])
def thSb (a : Row) (u s : Int32) : Int32 := if ¬ (0 ≤ u ∧ u < a 4) then 1 else if ¬ (1 ≤ s ∧ s ≤ 60) then 2 else if ¬ lfS a (zN u) ∨ a 6 = 30 then 3 else 0
theorem c_X10_submit {u s : Int32} (hA : M 318 = a) (hR : MH M R) (hW : WF T a) : MQa yX10_submit I_X10_submit [.ref 317, .int u, .int s] M L dd (thSb a u s) (fun x => x = .int (a 6)) a (fiS (adJ a u s)) R (pushR R a) := by
  have wU := hW.1
  have wJ := hW.2.2.2.1
  have h12 := wU.2.2.1
  have h30 := wJ.2.1
  refine mq_mk (fun Q hq => ?_)
  have cont : thSb a u s = 0 → ∀ k, k < nu a → u = nI k → lfS a k → ¬ a 6 = 30 → ∀ M1 : Nat → Nat → Int32, M1 318 = a → MH M1 R → Fx M M1 → M1 317 5 = 0 → AW I_X10_submit 64 [.ref 317, .int u, .int s] [] (hS M1 L dd) 0 0 Q := by
    intro ht k hk ek lf h6 M1 e1 hR1 hF1 e5
    have hlt : nj a < 30 := by
      have z : nj a ≠ 30 := fun z => h6 (by rw [wJ.1, z]; rfl)
      omega
    have h1s : 0 ≤ s := by
      unfold thSb at ht
      by_cases z : ¬ (1 ≤ s ∧ s ≤ 60)
      · by_cases y : ¬ (0 ≤ u ∧ u < a 4)
        · rw [if_pos y] at ht; exact absurd ht (by decide)
        · rw [if_neg y, if_pos z] at ht; exact absurd ht (by decide)
      · exact Int32.le_trans (by decide) (Decidable.not_not.mp z).1
    have es : s = nI (zN s) := nI_z h1s
    have wa : WF T (adJ a u s) := by rw [ek, es]; exact (wf_aj hW hlt hk lf).1
    refine r_aload_n dX10_submit_64 rfl ?_
    refine m_pv0 dX10_submit_65 cv_X10_169 (c_X10_keeps e1 hR1) ob_model ⟨_, rfl, rfl⟩ ⟨rfl, rfl⟩ (by decide) (by decide) (Nat.le_of_ble_eq_true rfl) (fun M2 L2 ⟨x1, x2, x3, x4⟩ => ?_)
    refine r_aload_n dX10_submit_68 rfl ?_
    refine r_iload_n dX10_submit_69 rfl ?_
    refine r_iload_n dX10_submit_70 rfl ?_
    refine m_pv2 dX10_submit_71 cv_X10_122 (c_X10_addsJob ((x2 318 (by omega) (by omega)).trans e1) wJ.1 hlt) ob_model ⟨_, rfl, rfl⟩ ⟨rfl, rfl⟩ (by decide) (by decide) (Nat.le_of_ble_eq_true rfl) (fun M3 L3 ⟨y1, y2⟩ => ?_)
    refine r_aload_n dX10_submit_74 rfl ?_
    refine m_pv0 dX10_submit_75 cv_X10_166 (c_X10_fills (at318 y2) wa) ob_model ⟨_, rfl, rfl⟩ ⟨rfl, rfl⟩ (by decide) (by decide) (Nat.le_of_ble_eq_true rfl) (fun M4 L4 ⟨z1, z2, z3, z4⟩ => ?_)
    subst x1 y1 y2 z1
    refine r_aload_n dX10_submit_78 rfl ?_
    refine m_get 10 0 dX10_submit_79 fl_X10_7 ob_model rfl ?_
    refine r_bipush 6 dX10_submit_82 (by decide) ?_
    refine m_iald 6 dX10_submit_84 ai_a rfl (by omega) (by first | decide | assumption) ?_
    refine r_iconst_1 dX10_submit_85 ?_
    refine r_isub dX10_submit_86 ?_
    refine r_iret dX10_submit_87 rfl (mq_ok hq ht (by rw [z2 317 (by omega) (by omega), mU_n (by omega), x3 5 (by omega)]; exact e5) (congrArg Value.int ?_) (fx_t (fx_c (fx_t hF1 (fx_kp x2 x3)) (by omega)) (fx_fm z2)) (by rw [z3]; exact re_r) (mh_fm (mh_c x4 (by omega) (by omega)) z2))
    rw [z3, show fiS (adJ a u s) 6 = adJ a u s 6 from (fiF_ok 30 _ wa).2.2 6 (by omega), show adJ a u s 6 = a 6 + 1 from upd_eq]
    grind
  refine a_met (by decide +kernel) rfl rfl (Nat.le_of_ble_eq_true rfl) (by simp [Value.category]) (by decide) rfl ?_
  show AW I_X10_submit 0 [.ref 317, .int u, .int s] [] (hS M L dd) 0 0 Q
  refine r_aload_n dX10_submit_0 rfl ?_
  refine r_aload_n dX10_submit_1 rfl ?_
  refine r_iload_n dX10_submit_2 rfl ?_
  refine m_cv1 dX10_submit_3 cv_X10_192 (c_X10_isUser hA wU.1 h12) rfl ob_model ⟨_, rfl, rfl⟩ ⟨rfl, rfl⟩ (by decide) (by decide) (Nat.le_of_ble_eq_true rfl) ?_
  refine r_if_ne 13 dX10_submit_6 (by decide) (fun h6 => ?_) (fun h6 => ?_)
  · rw [bI_0, Decidable.not_not] at h6
    obtain ⟨k, hk, rfl⟩ := ix_n wU.1 (by omega) h6
    have zk : zN (nI k) = k := nI_clamp (by omega)
    refine r_iload_n dX10_submit_13 rfl ?_
    refine r_iconst_1 dX10_submit_14 ?_
    refine r_bipush 60 dX10_submit_15 (by decide) ?_
    refine m_cs3 dX10_submit_17 cs_X10_54 (c_X10_isIn) rfl ⟨rfl, rfl⟩ (by decide) (by decide) (Nat.le_of_ble_eq_true rfl) ?_
    refine r_if_ne 27 dX10_submit_20 (by decide) (fun h20 => ?_) (fun h20 => ?_)
    · refine r_aload_n dX10_submit_27 rfl ?_
      refine r_iload_n dX10_submit_28 rfl ?_
      refine m_cv1 dX10_submit_29 cv_X10_119 (c_X10_isLeaf hA wU.1 h12) rfl ob_model ⟨_, rfl, rfl⟩ ⟨rfl, rfl⟩ (by decide) (by decide) (Nat.le_of_ble_eq_true rfl) ?_
      refine r_if_eq 47 dX10_submit_32 (by decide) (fun h32 => ?_) (fun h32 => ?_)
      · refine r_iconst_3 dX10_submit_47 ?_
        refine r_goto 52 dX10_submit_48 (by decide) ?_
        refine m_put 10 5 dX10_submit_52 fl_X10_42 (fun r hr => by cases hr; rfl) ob_model (Nat.le_of_ble_eq_true rfl) rfl ?_
        refine r_aload_n dX10_submit_55 rfl ?_
        refine m_get 10 5 dX10_submit_56 fl_X10_42 ob_model rfl ?_
        refine r_if_le 64 dX10_submit_59 (by decide) (fun z => absurd z (by rw [mU_s, upd_eq]; decide)) (fun _ => ?_)
        refine r_iconst_0 dX10_submit_62 ?_
        exact r_iret dX10_submit_63 rfl (mq_t hq hA hR (by decide) (by clear hq cont; simp_all [thSb, bI_0]))
      · refine r_aload_n dX10_submit_35 rfl ?_
        refine m_get 10 0 dX10_submit_36 fl_X10_7 ob_model rfl ?_
        refine r_bipush 6 dX10_submit_39 (by decide) ?_
        refine m_iald 6 dX10_submit_41 ai_a rfl (by omega) (by first | decide | assumption) ?_
        refine r_bipush 30 dX10_submit_42 (by decide) ?_
        refine r_icmp_ne 51 dX10_submit_44 (by decide) (fun h44 => ?_) (fun h44 => ?_)
        · refine r_iconst_0 dX10_submit_51 ?_
          refine m_put 10 5 dX10_submit_52 fl_X10_42 (fun r hr => by cases hr; rfl) ob_model (Nat.le_of_ble_eq_true rfl) rfl ?_
          refine r_aload_n dX10_submit_55 rfl ?_
          refine m_get 10 5 dX10_submit_56 fl_X10_42 ob_model rfl ?_
          refine r_if_le 64 dX10_submit_59 (by decide) (fun _ => ?_) (fun z => absurd (by rw [mU_s, upd_eq]; decide) z)
          exact cont (by clear hq cont; simp_all [thSb, bI_0]) k hk rfl (by clear hq cont; simp_all [bI_0, lfS]) (by clear hq cont; simp_all) _ (by rw [mU_n (by omega)]; exact hA) (mh_th hR) fx_th (by rw [mU_s, upd_eq])
        · refine r_iconst_3 dX10_submit_47 ?_
          refine r_goto 52 dX10_submit_48 (by decide) ?_
          refine m_put 10 5 dX10_submit_52 fl_X10_42 (fun r hr => by cases hr; rfl) ob_model (Nat.le_of_ble_eq_true rfl) rfl ?_
          refine r_aload_n dX10_submit_55 rfl ?_
          refine m_get 10 5 dX10_submit_56 fl_X10_42 ob_model rfl ?_
          refine r_if_le 64 dX10_submit_59 (by decide) (fun z => absurd z (by rw [mU_s, upd_eq]; decide)) (fun _ => ?_)
          refine r_iconst_0 dX10_submit_62 ?_
          exact r_iret dX10_submit_63 rfl (mq_t hq hA hR (by decide) (by clear hq cont; simp_all [thSb, bI_0]))
    · refine r_iconst_2 dX10_submit_23 ?_
      refine r_goto 52 dX10_submit_24 (by decide) ?_
      refine m_put 10 5 dX10_submit_52 fl_X10_42 (fun r hr => by cases hr; rfl) ob_model (Nat.le_of_ble_eq_true rfl) rfl ?_
      refine r_aload_n dX10_submit_55 rfl ?_
      refine m_get 10 5 dX10_submit_56 fl_X10_42 ob_model rfl ?_
      refine r_if_le 64 dX10_submit_59 (by decide) (fun z => absurd z (by rw [mU_s, upd_eq]; decide)) (fun _ => ?_)
      refine r_iconst_0 dX10_submit_62 ?_
      exact r_iret dX10_submit_63 rfl (mq_t hq hA hR (by decide) (by clear hq cont; simp_all [thSb, bI_0]))
  · rw [bI_0] at h6
    refine r_iconst_1 dX10_submit_9 ?_
    refine r_goto 52 dX10_submit_10 (by decide) ?_
    refine m_put 10 5 dX10_submit_52 fl_X10_42 (fun r hr => by cases hr; rfl) ob_model (Nat.le_of_ble_eq_true rfl) rfl ?_
    refine r_aload_n dX10_submit_55 rfl ?_
    refine m_get 10 5 dX10_submit_56 fl_X10_42 ob_model rfl ?_
    refine r_if_le 64 dX10_submit_59 (by decide) (fun z => absurd z (by rw [mU_s, upd_eq]; decide)) (fun _ => ?_)
    refine r_iconst_0 dX10_submit_62 ?_
    exact r_iret dX10_submit_63 rfl (mq_t hq hA hR (by decide) (by rw [thSb, if_pos h6]))
def thCa (a : Row) (j : Int32) : Int32 := if ¬ (0 ≤ j ∧ j < a 6) then 1 else if 1 < jb a (zN j) 3 then 2 else 0
theorem c_X10_cancel {j : Int32} (hA : M 318 = a) (hR : MH M R) (hW : WF T a) : MQa yX10_cancel I_X10_cancel [.ref 317, .int j] M L dd (thCa a j) (fun x => x = .int (jb a (zN j) 2)) a (fiS (endS a (zN j) 3)) R (pushR R a) := by
  have wJ := hW.2.2.2.1
  have h30 := wJ.2.1
  refine mq_mk (fun Q hq => ?_)
  have cont : thCa a j = 0 → ∀ k, k < nj a → j = nI k → ∀ M1 : Nat → Nat → Int32, M1 318 = a → MH M1 R → Fx M M1 → M1 317 5 = 0 → AW I_X10_cancel 40 [.ref 317, .int j] [] (hS M1 L dd) 0 0 Q := by
    intro ht k hk ek M1 e1 hR1 hF1 e5
    subst ek
    have zk : zN (nI k) = k := nI_clamp (by omega)
    have wa : WF T (endS a k 3) := wf_end hW (Or.inr rfl) hk
    refine r_aload_n dX10_cancel_40 rfl ?_
    refine m_pv0 dX10_cancel_41 cv_X10_169 (c_X10_keeps e1 hR1) ob_model ⟨_, rfl, rfl⟩ ⟨rfl, rfl⟩ (by decide) (by decide) (Nat.le_of_ble_eq_true rfl) (fun M2 L2 ⟨x1, x2, x3, x4⟩ => ?_)
    refine r_aload_n dX10_cancel_44 rfl ?_
    refine r_iload_n dX10_cancel_45 rfl ?_
    refine r_iconst_3 dX10_cancel_46 ?_
    refine m_pv2 dX10_cancel_47 cv_X10_260 (c_X10_ends ((x2 318 (by omega) (by omega)).trans e1) (by omega)) ob_model ⟨_, rfl, rfl⟩ ⟨rfl, rfl⟩ (by decide) (by decide) (Nat.le_of_ble_eq_true rfl) (fun M3 L3 ⟨y1, y2⟩ => ?_)
    refine r_aload_n dX10_cancel_50 rfl ?_
    refine m_pv0 dX10_cancel_51 cv_X10_166 (c_X10_fills (at318 y2) wa) ob_model ⟨_, rfl, rfl⟩ ⟨rfl, rfl⟩ (by decide) (by decide) (Nat.le_of_ble_eq_true rfl) (fun M4 L4 ⟨z1, z2, z3, z4⟩ => ?_)
    subst x1 y1 y2 z1
    refine r_aload_n dX10_cancel_54 rfl ?_
    refine r_iload_n dX10_cancel_55 rfl ?_
    refine r_iconst_2 dX10_cancel_56 ?_
    refine m_cv2 dX10_cancel_57 cv_X10_175 (c_X10_of (f := 2) z3 (by omega) (by omega)) rfl ob_model ⟨_, rfl, rfl⟩ ⟨rfl, rfl⟩ (by decide) (by decide) (Nat.le_of_ble_eq_true rfl) ?_
    refine r_iret dX10_cancel_60 rfl (mq_ok hq ht (by rw [z2 317 (by omega) (by omega), mU_n (by omega), x3 5 (by omega)]; exact e5) (congrArg Value.int ?_) (fx_t (fx_c (fx_t hF1 (fx_kp x2 x3)) (by omega)) (fx_fm z2)) (by rw [z3, zk]; exact re_r) (mh_fm (mh_c x4 (by omega) (by omega)) z2))
    rw [zk, fi_2 wa, jb_end (by omega), if_neg (by omega), if_neg (by omega), if_neg (by omega)]
  refine a_met (by decide +kernel) rfl rfl (Nat.le_of_ble_eq_true rfl) (by simp [Value.category]) (by decide) rfl ?_
  show AW I_X10_cancel 0 [.ref 317, .int j] [] (hS M L dd) 0 0 Q
  refine r_aload_n dX10_cancel_0 rfl ?_
  refine r_aload_n dX10_cancel_1 rfl ?_
  refine r_iload_n dX10_cancel_2 rfl ?_
  refine m_cv1 dX10_cancel_3 cv_X10_257 (c_X10_isJob hA wJ.1 h30) rfl ob_model ⟨_, rfl, rfl⟩ ⟨rfl, rfl⟩ (by decide) (by decide) (Nat.le_of_ble_eq_true rfl) ?_
  refine r_if_ne 13 dX10_cancel_6 (by decide) (fun h6 => ?_) (fun h6 => ?_)
  · rw [bI_0, Decidable.not_not] at h6
    obtain ⟨k, hk, rfl⟩ := ix_n wJ.1 (by omega) h6
    have zk : zN (nI k) = k := nI_clamp (by omega)
    refine r_aload_n dX10_cancel_13 rfl ?_
    refine r_iload_n dX10_cancel_14 rfl ?_
    refine r_iconst_3 dX10_cancel_15 ?_
    refine m_cv2 dX10_cancel_16 cv_X10_175 (c_X10_of (f := 3) hA (by omega) (by omega)) rfl ob_model ⟨_, rfl, rfl⟩ ⟨rfl, rfl⟩ (by decide) (by decide) (Nat.le_of_ble_eq_true rfl) ?_
    refine r_iconst_1 dX10_cancel_19 ?_
    refine r_icmp_le 27 dX10_cancel_20 (by decide) (fun h20 => ?_) (fun h20 => ?_)
    · refine r_iconst_0 dX10_cancel_27 ?_
      refine m_put 10 5 dX10_cancel_28 fl_X10_42 (fun r hr => by cases hr; rfl) ob_model (Nat.le_of_ble_eq_true rfl) rfl ?_
      refine r_aload_n dX10_cancel_31 rfl ?_
      refine m_get 10 5 dX10_cancel_32 fl_X10_42 ob_model rfl ?_
      refine r_if_le 40 dX10_cancel_35 (by decide) (fun _ => ?_) (fun z => absurd (by rw [mU_s, upd_eq]; decide) z)
      exact cont (by rw [thCa, if_neg (not_not_intro h6), zk, if_neg (Int32.not_lt.mpr h20)]) k hk rfl _ (by rw [mU_n (by omega)]; exact hA) (mh_th hR) fx_th (by rw [mU_s, upd_eq])
    · refine r_iconst_2 dX10_cancel_23 ?_
      refine r_goto 28 dX10_cancel_24 (by decide) ?_
      refine m_put 10 5 dX10_cancel_28 fl_X10_42 (fun r hr => by cases hr; rfl) ob_model (Nat.le_of_ble_eq_true rfl) rfl ?_
      refine r_aload_n dX10_cancel_31 rfl ?_
      refine m_get 10 5 dX10_cancel_32 fl_X10_42 ob_model rfl ?_
      refine r_if_le 40 dX10_cancel_35 (by decide) (fun z => absurd z (by rw [mU_s, upd_eq]; decide)) (fun _ => ?_)
      refine r_iconst_0 dX10_cancel_38 ?_
      exact r_iret dX10_cancel_39 rfl (mq_t hq hA hR (by decide) (by rw [thCa, if_neg (not_not_intro h6), zk, if_pos (Int32.not_le.mp h20)]))
  · rw [bI_0] at h6
    refine r_iconst_1 dX10_cancel_9 ?_
    refine r_goto 28 dX10_cancel_10 (by decide) ?_
    refine m_put 10 5 dX10_cancel_28 fl_X10_42 (fun r hr => by cases hr; rfl) ob_model (Nat.le_of_ble_eq_true rfl) rfl ?_
    refine r_aload_n dX10_cancel_31 rfl ?_
    refine m_get 10 5 dX10_cancel_32 fl_X10_42 ob_model rfl ?_
    refine r_if_le 40 dX10_cancel_35 (by decide) (fun z => absurd z (by rw [mU_s, upd_eq]; decide)) (fun _ => ?_)
    refine r_iconst_0 dX10_cancel_38 ?_
    exact r_iret dX10_cancel_39 rfl (mq_t hq hA hR (by decide) (by rw [thCa, if_pos h6]))
def thSU (a : Row) (m : Int32) : Int32 := if 0 ≤ m ∧ m < a 5 then 0 else 1
theorem c_X10_setUp {m b : Int32} (hA : M 318 = a) (hR : MH M R) (hW : WF T a) : MQa yX10_setUp I_X10_setUp [.ref 317, .int m, .int b] M L dd (thSU a m) (fun x => x = .int (swS a (zN m) b 8 - a 8)) a (swS a (zN m) b) R (pushR R a) := by
  have wM := hW.2.2.1
  have h6 := wM.2.1
  have wJ := hW.2.2.2.1
  have h30 := wJ.2.1
  refine mq_mk (fun Q hq => ?_)
  have cont : thSU a m = 0 → ∀ k, k < nm a → m = nI k → ∀ M1 : Nat → Nat → Int32, M1 318 = a → MH M1 R → Fx M M1 → M1 317 5 = 0 → AW I_X10_setUp 26 [.ref 317, .int m, .int b, .null, .null] [] (hS M1 L dd) 0 0 Q := by
    intro ht k hk ek M1 e1 hR1 hF1 e5
    subst ek
    have zk : zN (nI k) = k := nI_clamp (by omega)
    have wu : WF T (upS a k b) := wf_up hW hk
    have o : ∀ i, i ≠ 52 + k → upS a k b i = a i := fun i hi => upd_ne hi
    have ej : nj (upS a k b) = nj a := congrArg zN (o 6 (by omega))
    refine r_aload_n dX10_setUp_26 rfl ?_
    refine m_pv0 dX10_setUp_27 cv_X10_169 (c_X10_keeps e1 hR1) ob_model ⟨_, rfl, rfl⟩ ⟨rfl, rfl⟩ (by decide) (by decide) (Nat.le_of_ble_eq_true rfl) (fun M2 L2 ⟨x1, x2, x3, x4⟩ => ?_)
    subst x1
    have e2 := (x2 318 (by omega) (by omega)).trans e1
    have fin : ∀ (n0 k0 : Int32) (b' : Row) (M3 : Nat → Nat → Int32), WF T b' → fiS b' = swS a k b → M3 318 = b' → Fm M2 M3 → n0 = b' 8 - a 8 → AW I_X10_setUp 109 [.ref 317, .int (nI k), .int b, .int n0, .int k0] [] (hS M3 L2 dd) 0 0 Q := by
      intro n0 k0 b' M3 wb eb e3 f3 en
      refine r_aload_n dX10_setUp_109 rfl ?_
      refine m_pv0 dX10_setUp_110 cv_X10_166 (c_X10_fills e3 wb) ob_model ⟨_, rfl, rfl⟩ ⟨rfl, rfl⟩ (by decide) (by decide) (Nat.le_of_ble_eq_true rfl) (fun M4 L4 ⟨z1, z2, z3, z4⟩ => ?_)
      subst z1
      refine r_iload_n dX10_setUp_113 rfl ?_
      refine r_iret dX10_setUp_114 rfl (mq_ok hq ht (by rw [z2 317 (by omega) (by omega), f3 317 (by omega) (by omega), x3 5 (by omega)]; exact e5) (congrArg Value.int ?_) (fx_t (fx_t (fx_t hF1 (fx_kp x2 x3)) (fx_fm f3)) (fx_fm z2)) (by rw [z3, zk, eb]; exact re_r) (mh_fm (mh_fm x4 f3) z2))
      rw [zk, ← eb, show fiS b' 8 = b' 8 from fi_o (by omega) 30 _ wb, en]
    have loop : ∀ M3 : Nat → Nat → Int32, M3 318 = upS a k b → Fm M2 M3 → AW I_X10_setUp 48 [.ref 317, .int (nI k), .int b, .null, .null] [] (hS M3 L2 dd) 0 0 Q := by
      intro M3 e3 f3
      by_cases hb : b = 0
      · subst hb
        have lp : ∀ i, i ≤ nj a → ∀ M4 : Nat → Nat → Int32, M4 318 = swF k i (upS a k 0) → Fm M2 M4 → AW I_X10_setUp 53 [.ref 317, .int (nI k), .int 0, .int (swF k i (upS a k 0) 8 - a 8), .int (nI i)] [] (hS M4 L2 dd) 0 0 Q := by
          refine lp_up _ ?_ ?_
          · intro M4 e4 f4 
            obtain ⟨w1, w2, w3⟩ := swF_ok wu (m := k) (nj a) (by omega)
            have e46 : M4 318 6 = nI (nj a) := by rw [e4, w3 6 (by omega), o 6 (by omega)]; exact wJ.1
            refine r_iload dX10_setUp_53 rfl ?_
            refine r_aload_n dX10_setUp_55 rfl ?_
            refine m_get 10 0 dX10_setUp_56 fl_X10_7 ob_model rfl ?_
            refine r_bipush 6 dX10_setUp_59 (by decide) ?_
            refine m_iald 6 dX10_setUp_61 ai_a rfl (by omega) (by first | decide | assumption) ?_
            refine r_icmp_ge 109 dX10_setUp_62 (by decide) (fun _ => ?_) (fun z => absurd (by rw [e46]; exact nI_le (Nat.le_refl _) (by omega)) z)
            exact fin _ _ _ _ w1 (by rw [swS, if_pos rfl]) e4 f4 rfl
          · intro i hi ih M4 e4 f4 
            obtain ⟨w1, w2, w3⟩ := swF_ok wu (m := k) i (by omega)
            have e46 : M4 318 6 = nI (nj a) := by rw [e4, w3 6 (by omega), o 6 (by omega)]; exact wJ.1
            have e3' : ¬ swF k i (upS a k 0) 3 = 0 := by
              have s1 := w1.2.2.2.2.2
              rw [s1.2.2.2.2.2.2.2.2.1]
              exact nI_ne0 (by have := s1.2.2.2.2.2.2.2.2.2.1; omega) (by have := s1.2.2.2.2.2.2.2.2.2.2; omega)
            refine r_iload dX10_setUp_53 rfl ?_
            refine r_aload_n dX10_setUp_55 rfl ?_
            refine m_get 10 0 dX10_setUp_56 fl_X10_7 ob_model rfl ?_
            refine r_bipush 6 dX10_setUp_59 (by decide) ?_
            refine m_iald 6 dX10_setUp_61 ai_a rfl (by omega) (by first | decide | assumption) ?_
            refine r_icmp_ge 109 dX10_setUp_62 (by decide) (fun z => absurd z (by rw [e46]; exact nI_ge hi (by omega))) (fun _ => ?_)
            refine r_iload_n dX10_setUp_65 rfl ?_
            refine r_if_ne 109 dX10_setUp_66 (by decide) (fun z => absurd rfl z) (fun _ => ?_)
            refine r_aload_n dX10_setUp_69 rfl ?_
            refine r_iload dX10_setUp_70 rfl ?_
            refine r_iconst_3 dX10_setUp_72 ?_
            refine m_cv2 dX10_setUp_73 cv_X10_175 (c_X10_of (f := 3) e4 (by omega) (by omega)) rfl ob_model ⟨_, rfl, rfl⟩ ⟨rfl, rfl⟩ (by decide) (by decide) (Nat.le_of_ble_eq_true rfl) ?_
            refine r_iconst_1 dX10_setUp_76 ?_
            refine r_icmp_ne 103 dX10_setUp_77 (by decide) (fun h77 => ?_) (fun h77 => ?_)
            · have e : swF k (i + 1) (upS a k 0) = swF k i (upS a k 0) := by rw [swF, if_neg (fun z => h77 z.1)]
              refine s_iinc dX10_setUp_103 rfl (by decide) rfl ?_
              refine r_goto 53 dX10_setUp_106 (by decide) ?_
              exact m_sub (ih M4 (by rw [e]; exact e4) f4) (by rw [e]; simp [a_sub, nI_succ])
            · refine r_aload_n dX10_setUp_80 rfl ?_
              refine r_iload dX10_setUp_81 rfl ?_
              refine r_iconst_4 dX10_setUp_83 ?_
              refine m_cv2 dX10_setUp_84 cv_X10_175 (c_X10_of (f := 4) e4 (by omega) (by omega)) rfl ob_model ⟨_, rfl, rfl⟩ ⟨rfl, rfl⟩ (by decide) (by decide) (Nat.le_of_ble_eq_true rfl) ?_
              refine r_iload_n dX10_setUp_87 rfl ?_
              refine r_icmp_eq 94 dX10_setUp_88 (by decide) (fun h88 => ?_) (fun h88 => ?_)
              · have e : swF k (i + 1) (upS a k 0) = intS (swF k i (upS a k 0)) i := by rw [swF, if_pos ⟨h77, h88⟩]
                refine r_aload_n dX10_setUp_94 rfl ?_
                refine r_iload dX10_setUp_95 rfl ?_
                refine m_pv1 dX10_setUp_97 cv_X10_251 (c_X10_interrupts e4 (by omega) e3') ob_model ⟨_, rfl, rfl⟩ ⟨rfl, rfl⟩ (by decide) (by decide) (Nat.le_of_ble_eq_true rfl) (fun M5 L5 ⟨y1, y2⟩ => ?_)
                subst y1 y2
                have e8 : swF k (i + 1) (upS a k 0) 8 = swF k i (upS a k 0) 8 + 1 := by rw [e, intS, upd_ne (by omega), upd_eq]
                refine s_iinc dX10_setUp_100 rfl (by decide) rfl ?_
                refine s_iinc dX10_setUp_103 rfl (by decide) rfl ?_
                refine r_goto 53 dX10_setUp_106 (by decide) ?_
                exact m_sub (ih _ (by rw [mU_s, e]) (fm_a f4)) (by rw [e8]; simp [a_sub, nI_succ] <;> grind)
              · have e : swF k (i + 1) (upS a k 0) = swF k i (upS a k 0) := by rw [swF, if_neg (fun z => h88 z.2)]
                refine r_goto 103 dX10_setUp_91 (by decide) ?_
                refine s_iinc dX10_setUp_103 rfl (by decide) rfl ?_
                refine r_goto 53 dX10_setUp_106 (by decide) ?_
                exact m_sub (ih M4 (by rw [e]; exact e4) f4) (by rw [e]; simp [a_sub, nI_succ])
        refine r_iconst_0 dX10_setUp_48 ?_
        refine s_istore_n 3 dX10_setUp_49 (by decide) rfl rfl ?_
        refine r_iconst_0 dX10_setUp_50 ?_
        refine s_istore dX10_setUp_51 (by decide) rfl ?_
        exact m_sub (lp 0 (Nat.zero_le _) M3 e3 f3) (by rw [swF, o 8 (by omega)]; simp [a_sub, nI_0])
      · refine r_iconst_0 dX10_setUp_48 ?_
        refine s_istore_n 3 dX10_setUp_49 (by decide) rfl rfl ?_
        refine r_iconst_0 dX10_setUp_50 ?_
        refine s_istore dX10_setUp_51 (by decide) rfl ?_
        refine r_iload dX10_setUp_53 rfl ?_
        refine r_aload_n dX10_setUp_55 rfl ?_
        refine m_get 10 0 dX10_setUp_56 fl_X10_7 ob_model rfl ?_
        refine r_bipush 6 dX10_setUp_59 (by decide) ?_
        refine m_iald 6 dX10_setUp_61 ai_a rfl (by omega) (by first | decide | assumption) ?_
        refine r_icmp_ge 109 dX10_setUp_62 (by decide) (fun h62 => ?_) (fun h62 => ?_)
        · exact fin _ _ _ _ wu (by rw [swS, if_neg hb]) e3 f3 (by rw [o 8 (by omega)]; grind)
        · refine r_iload_n dX10_setUp_65 rfl ?_
          refine r_if_ne 109 dX10_setUp_66 (by decide) (fun _ => ?_) (fun z => absurd z hb)
          exact fin _ _ _ _ wu (by rw [swS, if_neg hb]) e3 f3 (by rw [o 8 (by omega)]; grind)
    refine r_aload_n dX10_setUp_30 rfl ?_
    refine m_get 10 0 dX10_setUp_31 fl_X10_7 ob_model rfl ?_
    refine r_bipush 52 dX10_setUp_34 (by decide) ?_
    refine r_iload_n dX10_setUp_36 rfl ?_
    refine r_iadd dX10_setUp_37 ?_
    refine r_iload_n dX10_setUp_38 rfl ?_
    refine r_if_eq 46 dX10_setUp_39 (by decide) (fun h39 => ?_) (fun h39 => ?_)
    · refine r_iconst_0 dX10_setUp_46 ?_
      refine m_iast (52 + k) dX10_setUp_47 ai_a (nI_add 52 k) (by omega) (by first | decide | assumption) ?_
      exact loop _ (by rw [mU_s, e2]; simp_all [upS]) (fm_a fm_r)
    · refine r_iconst_1 dX10_setUp_42 ?_
      refine r_goto 47 dX10_setUp_43 (by decide) ?_
      refine m_iast (52 + k) dX10_setUp_47 ai_a (nI_add 52 k) (by omega) (by first | decide | assumption) ?_
      exact loop _ (by rw [mU_s, e2]; simp_all [upS]) (fm_a fm_r)
  refine a_met (by decide +kernel) rfl rfl (Nat.le_of_ble_eq_true rfl) (by simp [Value.category]) (by decide) rfl ?_
  show AW I_X10_setUp 0 [.ref 317, .int m, .int b, .null, .null] [] (hS M L dd) 0 0 Q
  refine r_aload_n dX10_setUp_0 rfl ?_
  refine r_aload_n dX10_setUp_1 rfl ?_
  refine r_iload_n dX10_setUp_2 rfl ?_
  refine m_cv1 dX10_setUp_3 cv_X10_254 (c_X10_isMachine hA wM.1 h6) rfl ob_model ⟨_, rfl, rfl⟩ ⟨rfl, rfl⟩ (by decide) (by decide) (Nat.le_of_ble_eq_true rfl) ?_
  refine r_if_eq 13 dX10_setUp_6 (by decide) (fun h6' => ?_) (fun h6' => ?_)
  · rw [bI_0] at h6'
    refine r_iconst_1 dX10_setUp_13 ?_
    refine m_put 10 5 dX10_setUp_14 fl_X10_42 (fun r hr => by cases hr; rfl) ob_model (Nat.le_of_ble_eq_true rfl) rfl ?_
    refine r_aload_n dX10_setUp_17 rfl ?_
    refine m_get 10 5 dX10_setUp_18 fl_X10_42 ob_model rfl ?_
    refine r_if_le 26 dX10_setUp_21 (by decide) (fun z => absurd z (by rw [mU_s, upd_eq]; decide)) (fun _ => ?_)
    refine r_iconst_0 dX10_setUp_24 ?_
    exact r_iret dX10_setUp_25 rfl (mq_t hq hA hR (by decide) (by rw [thSU, if_neg h6']))
  · rw [bI_0, Decidable.not_not] at h6'
    obtain ⟨k, hk, ek⟩ := ix_n wM.1 (by omega) h6'
    refine r_iconst_0 dX10_setUp_9 ?_
    refine r_goto 14 dX10_setUp_10 (by decide) ?_
    refine m_put 10 5 dX10_setUp_14 fl_X10_42 (fun r hr => by cases hr; rfl) ob_model (Nat.le_of_ble_eq_true rfl) rfl ?_
    refine r_aload_n dX10_setUp_17 rfl ?_
    refine m_get 10 5 dX10_setUp_18 fl_X10_42 ob_model rfl ?_
    refine r_if_le 26 dX10_setUp_21 (by decide) (fun _ => ?_) (fun z => absurd (by rw [mU_s, upd_eq]; decide) z)
    exact cont (by rw [thSU, if_pos h6']) k hk ek _ (by rw [mU_n (by omega)]; exact hA) (mh_th hR) fx_th (by rw [mU_s, upd_eq])
end MODEL10
