/-! THE CLASS WRITES; both sides append -/
section NOTE
variable {M : Nat → Nat → Int32} {L : Nat → Nat → Int64} {dd : UInt64} {a : Row} {R : List Row} {T : Nat} {Q : a_Q} {xs : List Int32}
def NW (M : Nat → Nat → Int32) (xs : List Int32) : Prop := M 315 0 = nI xs.length ∧ ∀ (k : Nat) (c : Int32), xs[k]? = some c → M 316 k = c
def Fn (M M' : Nat → Nat → Int32) : Prop := ∀ c, c ≠ 315 → c ≠ 316 → M' c = M c
theorem fn_r : Fn M M := fun _ _ _ => rfl
theorem fn_t {M1 M2 : Nat → Nat → Int32} (h : Fn M M1) (h2 : Fn M1 M2) : Fn M M2 := fun c g1 g2 => (h2 c g1 g2).trans (h c g1 g2)
theorem c_X4_put {c : Int32} (h : NW M xs) (hl : xs.length < 120) (hc : c.toInt8.toInt32 = c) : PO yX4_put I_X4_put [.ref 315, .int c] M L dd none (fun M' L' => L' = L ∧ Fn M M' ∧ NW M' (xs ++ [c])) := by
  obtain ⟨h1, h2⟩ := h
  refine po_mk (fun Q hq => ?_)
  refine a_met (by decide +kernel) rfl rfl (Nat.le_of_ble_eq_true rfl) (by simp [Value.category]) (by decide) rfl ?_
  show AW I_X4_put 0 [.ref 315, .int c] [] (hS M L dd) 0 0 Q
  refine r_aload_n dX4_put_0 rfl ?_
  refine m_get 4 0 dX4_put_1 fl_X4_13 ob_note rfl ?_
  refine r_sipush 128 dX4_put_4 (by decide) ?_
  refine r_icmp_ge 31 dX4_put_7 (by decide) (fun z => absurd z (by rw [h1]; exact nI_ge (a := xs.length) (b := 128) (by omega) (by decide))) (fun _ => ?_)
  refine r_aload_n dX4_put_10 rfl ?_
  refine m_get 4 1 dX4_put_11 fl_X4_9 ob_note rfl ?_
  refine r_aload_n dX4_put_14 rfl ?_
  refine m_get 4 0 dX4_put_15 fl_X4_13 ob_note rfl ?_
  refine r_iload_n dX4_put_18 rfl ?_
  refine r_i2b dX4_put_19 ?_
  refine m_bast xs.length dX4_put_20 ab_nbytes h1 (by omega) (by first | decide | assumption) ?_
  rw [hc, hc]
  refine r_aload_n dX4_put_21 rfl ?_
  refine r_dup dX4_put_22 rfl ?_
  refine m_get 4 0 dX4_put_23 fl_X4_13 ob_note rfl ?_
  refine r_iconst_1 dX4_put_26 ?_
  refine r_iadd dX4_put_27 ?_
  refine m_put 4 0 dX4_put_28 fl_X4_13 (fun r hr => by cases hr; rfl) ob_note (Nat.le_of_ble_eq_true rfl) rfl ?_
  refine r_vret dX4_put_31 rfl (hq _ _ ⟨rfl, fun d g1 g2 => by rw [mU_n g1, mU_n g2], ?_, fun k d hk => ?_⟩)
  · rw [mU_s, upd_eq, mU_n (by omega), h1, List.length_append]; exact nI_1 _
  · rw [mU_n (by omega), mU_s]
    by_cases z : k = xs.length
    · subst z
      rw [List.getElem?_append_right (Nat.le_refl _), Nat.sub_self] at hk
      simp at hk
      rw [upd_eq, hk]
    · have hl2 := (List.getElem?_eq_some_iff.mp hk).1
      rw [List.length_append, List.length_singleton] at hl2
      rw [List.getElem?_append_left (by omega)] at hk
      rw [upd_ne z]
      exact h2 k d hk
theorem dg_b : ∀ j : Fin 30, (48 + nI j.val / 10).toInt8.toInt32 = 48 + nI j.val / 10 ∧ (48 + nI j.val % 10).toInt8.toInt32 = 48 + nI j.val % 10 := by decide
theorem c_X4_putNumber {j : Nat} (hj : j < 30) (h : NW M xs) (hl : xs.length + 1 < 120) : PO yX4_putNumber I_X4_putNumber [.ref 315, .int (nI j)] M L dd none (fun M' L' => L' = L ∧ Fn M M' ∧ NW M' (xs ++ dgT j)) := by
  refine po_mk (fun Q hq => ?_)
  refine a_met (by decide +kernel) rfl rfl (Nat.le_of_ble_eq_true rfl) (by simp [Value.category]) (by decide) rfl ?_
  show AW I_X4_putNumber 0 [.ref 315, .int (nI j)] [] (hS M L dd) 0 0 Q
  have c17 : ∀ (M1 : Nat → Nat → Int32) (ys : List Int32), Fn M M1 → NW M1 ys → ys.length < 120 → ys ++ [48 + nI j % 10] = xs ++ dgT j → AW I_X4_putNumber 17 [.ref 315, .int (nI j)] [] (hS M1 L dd) 0 0 Q := by
    intro M1 ys f1 w1 l1 e1
    refine r_aload_n dX4_putNumber_17 rfl ?_
    refine r_bipush 48 dX4_putNumber_18 (by decide) ?_
    refine r_iload_n dX4_putNumber_20 rfl ?_
    refine r_bipush 10 dX4_putNumber_21 (by decide) ?_
    refine r_irem dX4_putNumber_23 (by decide) ?_
    refine r_iadd dX4_putNumber_24 ?_
    refine m_pv1 dX4_putNumber_25 cv_X4_29 (c_X4_put w1 l1 (dg_b ⟨j, hj⟩).2) ob_note ⟨_, rfl, rfl⟩ ⟨rfl, rfl⟩ (by decide) (by decide) (Nat.le_of_ble_eq_true rfl) (fun M2 L2 ⟨y1, y2, y3⟩ => ?_)
    subst y1
    exact r_vret dX4_putNumber_28 rfl (hq _ _ ⟨rfl, fn_t f1 y2, by rw [← e1]; exact y3⟩)
  refine r_iload_n dX4_putNumber_0 rfl ?_
  refine r_bipush 10 dX4_putNumber_1 (by decide) ?_
  refine r_icmp_lt 17 dX4_putNumber_3 (by decide) (fun h3 => ?_) (fun h3 => ?_)
  · rw [show (10 : Int32) = nI 10 from rfl, nI_ltI (by omega) (by omega)] at h3
    exact c17 M xs fn_r h (by omega) (by rw [dgT, if_neg (by omega)])
  · rw [show (10 : Int32) = nI 10 from rfl, nI_ltI (by omega) (by omega)] at h3
    refine r_aload_n dX4_putNumber_6 rfl ?_
    refine r_bipush 48 dX4_putNumber_7 (by decide) ?_
    refine r_iload_n dX4_putNumber_9 rfl ?_
    refine r_bipush 10 dX4_putNumber_10 (by decide) ?_
    refine r_idiv dX4_putNumber_12 (by decide) ?_
    refine r_iadd dX4_putNumber_13 ?_
    refine m_pv1 dX4_putNumber_14 cv_X4_29 (c_X4_put h (by omega) (dg_b ⟨j, hj⟩).1) ob_note ⟨_, rfl, rfl⟩ ⟨rfl, rfl⟩ (by decide) (by decide) (Nat.le_of_ble_eq_true rfl) (fun M2 L2 ⟨y1, y2, y3⟩ => ?_)
    subst y1
    exact c17 _ _ y2 y3 (by rw [List.length_append, List.length_singleton]; omega) (by rw [dgT, if_pos (by omega), List.append_assoc]; rfl)
theorem c_X4_clear : PO yX4_clear I_X4_clear [.ref 315] M L dd none (fun M' L' => L' = L ∧ Fn M M' ∧ NW M' []) := by
  refine po_mk (fun Q hq => ?_)
  refine a_met (by decide +kernel) rfl rfl (Nat.le_of_ble_eq_true rfl) (by simp [Value.category]) (by decide) rfl ?_
  show AW I_X4_clear 0 [.ref 315] [] (hS M L dd) 0 0 Q
  refine r_aload_n dX4_clear_0 rfl ?_
  refine r_iconst_0 dX4_clear_1 ?_
  refine m_put 4 0 dX4_clear_2 fl_X4_13 (fun r hr => by cases hr; rfl) ob_note (Nat.le_of_ble_eq_true rfl) rfl ?_
  exact r_vret dX4_clear_5 rfl (hq _ _ ⟨rfl, fun d g1 g2 => mU_n g1, by rw [mU_s, upd_eq]; rfl, fun k c hk => by simp at hk⟩)
theorem c_X4_putMachine {m : Nat} (hQ : QP M 1 a) (hW : WF T a) (hV : WV a) (hm : m < nm a) (h : NW M xs) (hl : xs.length + 3 * cnJ a m (nj a) + 1 ≤ 120) : PO yX4_putMachine I_X4_putMachine [.ref 315, .ref 1, .int (nI m)] M L dd none (fun M' L' => L' = L ∧ Fn M M' ∧ NW M' (xs ++ mcL a m)) := by
  obtain ⟨hT, hB, hL, hM, hJ, hS'⟩ := hQ
  have wJ := hW.2.2.2.1
  have wM := hW.2.2.1
  have h30 := wJ.2.1
  have h6 := wM.2.1
  refine po_mk (fun Q hq => ?_)
  refine a_met (by decide +kernel) rfl rfl (Nat.le_of_ble_eq_true rfl) (by simp [Value.category]) (by decide) rfl ?_
  show AW I_X4_putMachine 0 [.ref 315, .ref 1, .int (nI m), .null, .null] [] (hS M L dd) 0 0 Q
  refine r_aload_n dX4_putMachine_0 rfl ?_
  refine m_get 5 2 dX4_putMachine_1 fl_X4_17 (ob_place pl1) rfl ?_
  refine r_iload_n dX4_putMachine_4 rfl ?_
  refine m_cv1 dX4_putMachine_5 cv_X4_23 (c_X3_isUp pl1 hM wM.1 h6 hm) rfl (ob_machines pl1) ⟨_, rfl, rfl⟩ ⟨rfl, rfl⟩ (by decide) (by decide) (Nat.le_of_ble_eq_true rfl) ?_
  refine r_if_ne 18 dX4_putMachine_8 (by decide) (fun h8 => ?_) (fun h8 => ?_)
  · rw [bI_0, Decidable.not_not] at h8
    refine r_aload_n dX4_putMachine_18 rfl ?_
    refine m_get 4 0 dX4_putMachine_19 fl_X4_13 ob_note rfl ?_
    refine s_istore_n 3 dX4_putMachine_22 (by decide) rfl rfl ?_
    rw [h.1]
    have lp : ∀ k, k ≤ nj a → ∀ M2 : Nat → Nat → Int32, Fn M M2 → NW M2 (xs ++ jlF a m k) → AW I_X4_putMachine 26 [.ref 315, .ref 1, .int (nI m), .int (nI xs.length), .int (nI k)] [] (hS M2 L dd) 0 0 Q := by
      refine lp_up _ ?_ ?_
      · intro M2 f2 w2 
        have hj1 := jlF_len (a := a) m (nj a)
        refine r_iload dX4_putMachine_26 rfl ?_
        refine r_aload_n dX4_putMachine_28 rfl ?_
        refine m_get 5 3 dX4_putMachine_29 fl_X4_33 (ob_place pl1) rfl ?_
        refine m_get 1 0 dX4_putMachine_32 fl_X4_37 (ob_jobs pl1) rfl ?_
        refine r_icmp_ge 77 dX4_putMachine_35 (by decide) (fun _ => ?_) (fun z => absurd (by rw [f2 (1 + 15) (by omega) (by omega), show M (1 + 15) 0 = a 6 from hJ.1, wJ.1]; exact nI_le (Nat.le_refl _) (by omega)) z)
        refine r_aload_n dX4_putMachine_77 rfl ?_
        refine m_get 4 0 dX4_putMachine_78 fl_X4_13 ob_note rfl ?_
        refine r_iload_n dX4_putMachine_81 rfl ?_
        rw [w2.1]
        refine r_icmp_ne 91 dX4_putMachine_82 (by decide) (fun h82 => ?_) (fun h82 => ?_)
        · rw [nI_eq (by rw [List.length_append]; omega) (by omega), List.length_append] at h82
          have ne : jlF a m (nj a) ≠ [] := fun z => h82 (by rw [z]; rfl)
          exact r_vret dX4_putMachine_91 rfl (hq _ _ ⟨rfl, f2, by rw [mcL, if_neg ne]; exact w2⟩)
        · rw [nI_eq (by rw [List.length_append]; omega) (by omega), List.length_append] at h82
          have e0 : jlF a m (nj a) = [] := List.eq_nil_of_length_eq_zero (by omega)
          rw [e0, List.append_nil] at w2
          refine r_aload_n dX4_putMachine_85 rfl ?_
          refine r_bipush 45 dX4_putMachine_86 (by decide) ?_
          refine m_pv1 dX4_putMachine_88 cv_X4_29 (c_X4_put w2 (by omega) (by decide)) ob_note ⟨_, rfl, rfl⟩ ⟨rfl, rfl⟩ (by decide) (by decide) (Nat.le_of_ble_eq_true rfl) (fun M3 L3 ⟨y1, y2, y3⟩ => ?_)
          subst y1
          exact r_vret dX4_putMachine_91 rfl (hq _ _ ⟨rfl, fn_t f2 y2, by rw [mcL, if_pos e0, if_pos h8]; exact y3⟩)
      · intro k hk ih M2 f2 w2 
        have hJ2 : QJ M2 1 a := qj_f (lo := 315) (hi := 317) (fun c hc => f2 c (by omega) (by omega)) (Or.inl (by omega)) hJ
        have hj1 := jlF_len (a := a) m k
        have hj2 := cnJ_mono (a := a) (m := m) (show k + 1 ≤ nj a by omega)
        refine r_iload dX4_putMachine_26 rfl ?_
        refine r_aload_n dX4_putMachine_28 rfl ?_
        refine m_get 5 3 dX4_putMachine_29 fl_X4_33 (ob_place pl1) rfl ?_
        refine m_get 1 0 dX4_putMachine_32 fl_X4_37 (ob_jobs pl1) rfl ?_
        refine r_icmp_ge 77 dX4_putMachine_35 (by decide) (fun z => absurd z (by rw [show M2 (1 + 15) 0 = a 6 from hJ2.1, wJ.1]; exact nI_ge hk (by omega))) (fun _ => ?_)
        refine r_aload_n dX4_putMachine_38 rfl ?_
        refine m_get 5 3 dX4_putMachine_39 fl_X4_33 (ob_place pl1) rfl ?_
        refine r_iload dX4_putMachine_42 rfl ?_
        refine r_iload_n dX4_putMachine_44 rfl ?_
        refine m_cv2 dX4_putMachine_45 cv_X4_42 (c_X1_runsOn pl1 hJ2 wJ.1 h30 hk) rfl (ob_jobs pl1) ⟨_, rfl, rfl⟩ ⟨rfl, rfl⟩ (by decide) (by decide) (Nat.le_of_ble_eq_true rfl) ?_
        refine r_if_eq 71 dX4_putMachine_48 (by decide) (fun h48 => ?_) (fun h48 => ?_)
        · rw [bI_0] at h48
          have e : jlF a m (k + 1) = jlF a m k := by rw [jlF, if_neg h48]
          refine s_iinc dX4_putMachine_71 rfl (by decide) rfl ?_
          refine r_goto 26 dX4_putMachine_74 (by decide) ?_
          exact m_sub (ih M2 f2 (by rw [e]; exact w2)) (by simp [a_sub, nI_succ])
        · rw [bI_0, Decidable.not_not] at h48
          have hc : cnJ a m (k + 1) = cnJ a m k + 1 := by
            show cnJ a m k + (if jb a k 3 = 1 ∧ jb a k 4 = nI m then 1 else 0) = _
            rw [if_pos h48]
          have e : jlF a m (k + 1) = if jlF a m k = [] then dgT k else jlF a m k ++ 44 :: dgT k := by rw [jlF, if_pos h48]
          have c65 : ∀ (M5 : Nat → Nat → Int32) (ys : List Int32), Fn M M5 → NW M5 ys → ys.length + 1 < 120 → ys ++ dgT k = xs ++ jlF a m (k + 1) → AW I_X4_putMachine 65 [.ref 315, .ref 1, .int (nI m), .int (nI xs.length), .int (nI k)] [] (hS M5 L dd) 0 0 Q := by
            intro M5 ys f5 w5 l5 e5
            refine r_aload_n dX4_putMachine_65 rfl ?_
            refine r_iload dX4_putMachine_66 rfl ?_
            refine m_pv1 dX4_putMachine_68 cv_X4_46 (c_X4_putNumber (by omega) w5 l5) ob_note ⟨_, rfl, rfl⟩ ⟨rfl, rfl⟩ (by decide) (by decide) (Nat.le_of_ble_eq_true rfl) (fun M3 L3 ⟨y1, y2, y3⟩ => ?_)
            subst y1
            refine s_iinc dX4_putMachine_71 rfl (by decide) rfl ?_
            refine r_goto 26 dX4_putMachine_74 (by decide) ?_
            exact m_sub (ih _ (fn_t f5 y2) (by rw [← e5]; exact y3)) (by simp [a_sub, nI_succ])
          refine r_aload_n dX4_putMachine_51 rfl ?_
          refine m_get 4 0 dX4_putMachine_52 fl_X4_13 ob_note rfl ?_
          refine r_iload_n dX4_putMachine_55 rfl ?_
          rw [w2.1]
          refine r_icmp_le 65 dX4_putMachine_56 (by decide) (fun h56 => ?_) (fun h56 => ?_)
          · rw [nI_leI (by rw [List.length_append]; omega) (by omega), List.length_append] at h56
            have e0 : jlF a m k = [] := List.eq_nil_of_length_eq_zero (by omega)
            rw [e0, List.append_nil] at w2
            exact c65 M2 xs f2 w2 (by omega) (by rw [e, if_pos e0])
          · rw [nI_leI (by rw [List.length_append]; omega) (by omega), List.length_append] at h56
            have ne : jlF a m k ≠ [] := fun z => h56 (by rw [z]; simp)
            refine r_aload_n dX4_putMachine_59 rfl ?_
            refine r_bipush 44 dX4_putMachine_60 (by decide) ?_
            refine m_pv1 dX4_putMachine_62 cv_X4_29 (c_X4_put w2 (by rw [List.length_append]; omega) (by decide)) ob_note ⟨_, rfl, rfl⟩ ⟨rfl, rfl⟩ (by decide) (by decide) (Nat.le_of_ble_eq_true rfl) (fun M3 L3 ⟨y1, y2, y3⟩ => ?_)
            subst y1
            exact c65 _ _ (fn_t f2 y2) y3 (by rw [List.length_append, List.length_append, List.length_singleton]; omega) (by rw [e, if_neg ne]; simp)
    refine r_iconst_0 dX4_putMachine_23 ?_
    refine s_istore dX4_putMachine_24 (by decide) rfl ?_
    exact m_sub (lp 0 (Nat.zero_le _) M fn_r (by rw [jlF, List.append_nil]; exact h)) (by simp [a_sub, nI_0])
  · rw [bI_0] at h8
    have e0 := jl_down hW hV hm h8 (nj a) (Nat.le_refl _)
    refine r_aload_n dX4_putMachine_11 rfl ?_
    refine r_bipush 120 dX4_putMachine_12 (by decide) ?_
    refine m_pv1 dX4_putMachine_14 cv_X4_29 (c_X4_put h (by omega) (by decide)) ob_note ⟨_, rfl, rfl⟩ ⟨rfl, rfl⟩ (by decide) (by decide) (Nat.le_of_ble_eq_true rfl) (fun M3 L3 ⟨y1, y2, y3⟩ => ?_)
    subst y1
    exact r_vret dX4_putMachine_17 rfl (hq _ _ ⟨rfl, y2, by rw [mcL, if_pos e0, if_neg h8]; exact y3⟩)
theorem c_X9_writeMachines (hC : CS M a R) (hW : WF T a) (hV : WV a) : PO yX9_writeMachines I_X9_writeMachines [.ref 0] M L dd (some (.int (nI (wrL a (nm a)).length))) (fun M' L' => L' = L ∧ Fn M M' ∧ NW M' (wrL a (nm a))) := by
  have wM := hW.2.2.1
  have h6 := wM.2.1
  have h30 := hW.2.2.2.1.2.1
  refine po_mk (fun Q hq => ?_)
  refine a_met (by decide +kernel) rfl rfl (Nat.le_of_ble_eq_true rfl) (by simp [Value.category]) (by decide) rfl ?_
  show AW I_X9_writeMachines 0 [.ref 0, .null] [] (hS M L dd) 0 0 Q
  refine r_aload_n dX9_writeMachines_0 rfl ?_
  refine m_get 9 4 dX9_writeMachines_1 fl_X9_36 ob_x rfl ?_
  refine m_pv0 dX9_writeMachines_4 cv_X9_339 (c_X4_clear) ob_note ⟨_, rfl, rfl⟩ ⟨rfl, rfl⟩ (by decide) (by decide) (Nat.le_of_ble_eq_true rfl) (fun M1 L1 ⟨x1, x2, x3⟩ => ?_)
  subst x1
  have lp : ∀ k, k ≤ nm a → ∀ M2 : Nat → Nat → Int32, Fn M M2 → NW M2 (wrL a k) → AW I_X9_writeMachines 9 [.ref 0, .int (nI k)] [] (hS M2 L1 dd) 0 0 Q := by
    refine lp_up _ ?_ ?_
    · intro M2 f2 w2 
      have hQ2 : QP M2 1 a := qp_f (lo := 315) (hi := 317) (fun c hc => f2 c (by omega) (by omega)) (Or.inl (by omega)) hC.1
      refine r_iload_n dX9_writeMachines_9 rfl ?_
      refine r_aload_n dX9_writeMachines_10 rfl ?_
      refine m_get 9 0 dX9_writeMachines_11 fl_X9_10 ob_x rfl ?_
      refine m_get 5 2 dX9_writeMachines_14 fl_X9_89 (ob_place pl1) rfl ?_
      refine m_get 3 0 dX9_writeMachines_17 fl_X9_93 (ob_machines pl1) rfl ?_
      refine r_icmp_ge 54 dX9_writeMachines_20 (by decide) (fun _ => ?_) (fun z => absurd (by rw [show M2 (1 + 12) 0 = a 5 from hQ2.2.2.2.1.1, wM.1]; exact nI_le (Nat.le_refl _) (by omega)) z)
      refine r_aload_n dX9_writeMachines_54 rfl ?_
      refine m_get 9 4 dX9_writeMachines_55 fl_X9_36 ob_x rfl ?_
      refine m_get 4 0 dX9_writeMachines_58 fl_X9_347 ob_note rfl ?_
      rw [w2.1]
      exact r_iret dX9_writeMachines_61 rfl (hq _ _ ⟨rfl, f2, w2⟩)
    · intro k hk ih M2 f2 w2 
      have hr := wr_room h6 h30 hk
      have hQ2 : QP M2 1 a := qp_f (lo := 315) (hi := 317) (fun c hc => f2 c (by omega) (by omega)) (Or.inl (by omega)) hC.1
      have c36 : ∀ (M5 : Nat → Nat → Int32), Fn M M5 → NW M5 (wrL a k ++ (if k = 0 then [] else [32])) → AW I_X9_writeMachines 36 [.ref 0, .int (nI k)] [] (hS M5 L1 dd) 0 0 Q := by
        intro M5 f5 w5
        have hQ5 : QP M5 1 a := qp_f (lo := 315) (hi := 317) (fun c hc => f5 c (by omega) (by omega)) (Or.inl (by omega)) hC.1
        have hl : (wrL a k ++ (if k = 0 then [] else [32])).length + 3 * cnJ a k (nj a) + 1 ≤ 120 := by
          rw [List.length_append]
          have : (if k = 0 then ([] : List Int32) else [32]).length ≤ 1 := by split <;> simp
          omega
        refine r_aload_n dX9_writeMachines_36 rfl ?_
        refine m_get 9 4 dX9_writeMachines_37 fl_X9_36 ob_x rfl ?_
        refine r_aload_n dX9_writeMachines_40 rfl ?_
        refine m_get 9 0 dX9_writeMachines_41 fl_X9_10 ob_x rfl ?_
        refine r_iload_n dX9_writeMachines_44 rfl ?_
        refine m_pv2 dX9_writeMachines_45 cv_X9_343 (c_X4_putMachine hQ5 hW hV hk w5 hl) ob_note ⟨_, rfl, rfl⟩ ⟨rfl, rfl⟩ (by decide) (by decide) (Nat.le_of_ble_eq_true rfl) (fun M3 L3 ⟨y1, y2, y3⟩ => ?_)
        subst y1
        refine s_iinc dX9_writeMachines_48 rfl (by decide) rfl ?_
        refine r_goto 9 dX9_writeMachines_51 (by decide) ?_
        exact m_sub (ih _ (fn_t f5 y2) (by rw [wrL, ← List.append_assoc]; exact y3)) (by simp [a_sub, nI_succ])
      refine r_iload_n dX9_writeMachines_9 rfl ?_
      refine r_aload_n dX9_writeMachines_10 rfl ?_
      refine m_get 9 0 dX9_writeMachines_11 fl_X9_10 ob_x rfl ?_
      refine m_get 5 2 dX9_writeMachines_14 fl_X9_89 (ob_place pl1) rfl ?_
      refine m_get 3 0 dX9_writeMachines_17 fl_X9_93 (ob_machines pl1) rfl ?_
      refine r_icmp_ge 54 dX9_writeMachines_20 (by decide) (fun z => absurd z (by rw [show M2 (1 + 12) 0 = a 5 from hQ2.2.2.2.1.1, wM.1]; exact nI_ge hk (by omega))) (fun _ => ?_)
      refine r_iload_n dX9_writeMachines_23 rfl ?_
      refine r_if_le 36 dX9_writeMachines_24 (by decide) (fun h24 => ?_) (fun h24 => ?_)
      · have h0 : k = 0 := by rw [show (0 : Int32) = nI 0 from rfl, nI_leI (by omega) (by omega)] at h24; omega
        exact c36 M2 f2 (by rw [if_pos h0, List.append_nil]; exact w2)
      · have h0 : k ≠ 0 := by rw [show (0 : Int32) = nI 0 from rfl, nI_leI (by omega) (by omega)] at h24; omega
        refine r_aload_n dX9_writeMachines_27 rfl ?_
        refine m_get 9 4 dX9_writeMachines_28 fl_X9_36 ob_x rfl ?_
        refine r_bipush 32 dX9_writeMachines_31 (by decide) ?_
        refine m_pv1 dX9_writeMachines_33 cv_X9_342 (c_X4_put w2 (by omega) (by decide)) ob_note ⟨_, rfl, rfl⟩ ⟨rfl, rfl⟩ (by decide) (by decide) (Nat.le_of_ble_eq_true rfl) (fun M3 L3 ⟨y1, y2, y3⟩ => ?_)
        subst y1
        exact c36 _ (fn_t f2 y2) (by rw [if_neg h0]; exact y3)
  refine r_iconst_0 dX9_writeMachines_7 ?_
  refine s_istore_n 1 dX9_writeMachines_8 (by decide) rfl rfl ?_
  exact m_sub (lp 0 (Nat.zero_le _) M1 x2 x3) (by simp [a_sub, nI_0])
def thNn (n : Nat) (i : Int32) : Int32 := if 0 ≤ i ∧ i < nI n then 0 else 1
theorem c_X9_writtenByte {i : Int32} {n : Nat} (hC : CS M a R) (hn : M 315 0 = nI n) (hn2 : n ≤ 120) : XQa yX9_writtenByte I_X9_writtenByte [.ref 0, .int i] M L dd (thNn n i) [ex_I] (fun x => ∀ k, k < n → i = nI k → x = .int (M 316 k)) a a R R := by
  refine xq_mk (fun Q hq hx => ?_)
  refine a_met (by decide +kernel) rfl rfl (Nat.le_of_ble_eq_true rfl) (by simp [Value.category]) (by decide) rfl ?_
  show AW I_X9_writtenByte 0 [.ref 0, .int i] [] (hS M L dd) 0 0 Q
  have c26 : ∀ k, k < n → i = nI k → AW I_X9_writtenByte 26 [.ref 0, .int i] [] (hS M L dd) 0 0 Q := by
    intro k hk ei
    subst ei
    refine r_aload_n dX9_writtenByte_26 rfl ?_
    refine m_get 9 4 dX9_writtenByte_27 fl_X9_36 ob_x rfl ?_
    refine m_get 4 1 dX9_writtenByte_30 fl_X9_351 ob_note rfl ?_
    refine r_iload_n dX9_writtenByte_33 rfl ?_
    refine m_bald k dX9_writtenByte_34 ab_nbytes rfl (by omega) (by first | decide | assumption) ?_
    exact r_iret dX9_writtenByte_35 rfl (hq _ _ _ (by rw [thNn, if_pos ⟨nI_pos' (by omega), nI_lt hk (by omega)⟩]) (fun k2 hk2 e2 => by rw [nI_eq (by omega) (by omega)] at e2; subst e2; rfl) gx_r gl_r hC)
  refine r_iload_n dX9_writtenByte_0 rfl ?_
  refine r_if_lt 15 dX9_writtenByte_1 (by decide) (fun h1 => ?_) (fun h1 => ?_)
  · exact r_throw th_X9_writtenByte_15 rfl (by decide) (by decide) (Nat.le_of_ble_eq_true rfl) (Nat.le_of_ble_eq_true rfl) (hx 1 ex_I _ _ (by rw [thNn, if_neg (by first | exact fun z => Int32.not_le.mpr h1 z.1 | exact fun z => h12 (by rw [hn]; exact z.2))]) (by decide) rfl gx_r gl_r hC)
  · refine r_iload_n dX9_writtenByte_4 rfl ?_
    refine r_aload_n dX9_writtenByte_5 rfl ?_
    refine m_get 9 4 dX9_writtenByte_6 fl_X9_36 ob_x rfl ?_
    refine m_get 4 0 dX9_writtenByte_9 fl_X9_347 ob_note rfl ?_
    refine r_icmp_lt 26 dX9_writtenByte_12 (by decide) (fun h12 => ?_) (fun h12 => ?_)
    · (obtain ⟨k, hk, ei⟩ := nI_of (x := i) h1; exact c26 k (by rw [hn, ei, nI_ltI hk (by omega)] at h12; exact h12) ei)
    · exact r_throw th_X9_writtenByte_15 rfl (by decide) (by decide) (Nat.le_of_ble_eq_true rfl) (Nat.le_of_ble_eq_true rfl) (hx 1 ex_I _ _ (by rw [thNn, if_neg (by first | exact fun z => Int32.not_le.mpr h1 z.1 | exact fun z => h12 (by rw [hn]; exact z.2))]) (by decide) rfl gx_r gl_r hC)
end NOTE
theorem am_mk {y : MethodName} {I : a_I} {As : List Value} {h : a_H} {Q0 : a_Q} (k : ∀ Q : a_Q, (∀ o h', Q0 o h' → Q o h') → AM y I As h Q) : AM y I As h Q0 := k _ (fun _ _ z => z)
section APP
variable {M : Nat → Nat → Int32} {L : Nat → Nat → Int64} {dd : UInt64} {a : Row} {R : List Row} {T : Nat} {Q : a_Q} {q0 q1 q2 q3 q4 : Int32}
def shC : Nat → Int32
  | 0 => 24
  | 1 => 16
  | 2 => 8
  | 3 => 0
  | _ => -8
def apW (q0 q1 q2 q3 q4 : Int32) (k : Nat) : Int32 := if k < 4 then q0 else if k < 8 then q1 else if k < 12 then q2 else if k < 16 then q3 else q4
def apX (q0 q1 q2 q3 q4 : Int32) (k : Nat) : Int32 := apW q0 q1 q2 q3 q4 k >>> (shC (k % 4) &&& 31)
def thAp (n : Nat) : Int32 := if 600 < n + 20 then 1 else 0
theorem c_X7_put {q : Int32} {n : Nat} (h : M 313 0 = nI n) (hn : n + 4 ≤ 600) : PO yX7_put I_X7_put [.ref 313, .int q] M L dd none (fun M' L' => L' = L ∧ (∀ c, c ≠ 313 → c ≠ 314 → M' c = M c) ∧ (∀ i, i ≠ 0 → M' 313 i = M 313 i) ∧ M' 313 0 = nI (n + 4) ∧ ∀ i, M' 314 i = if n ≤ i ∧ i < n + 4 then (q >>> (shC (i - n) &&& 31)).toInt8.toInt32 else M 314 i) := by
  refine po_mk (fun Q hq => ?_)
  refine a_met (by decide +kernel) rfl rfl (Nat.le_of_ble_eq_true rfl) (by simp [Value.category]) (by decide) rfl ?_
  show AW I_X7_put 0 [.ref 313, .int q, .null] [] (hS M L dd) 0 0 Q
  have lp : ∀ k, k ≤ 4 → ∀ M2 : Nat → Nat → Int32, (∀ c, c ≠ 313 → c ≠ 314 → M2 c = M c) → (∀ i, i ≠ 0 → M2 313 i = M 313 i) → M2 313 0 = nI (n + k) → (∀ i, M2 314 i = if n ≤ i ∧ i < n + k then (q >>> (shC (i - n) &&& 31)).toInt8.toInt32 else M 314 i) → AW I_X7_put 3 [.ref 313, .int q, .int (shC k)] [] (hS M2 L dd) 0 0 Q := by
    refine lp_up _ ?_ ?_
    · intro M2 f1 f2 f3 f4 
      refine r_iload_n dX7_put_3 rfl ?_
      refine r_if_lt 46 dX7_put_4 (by decide) (fun _ => ?_) (fun z => absurd (show shC 4 < 0 by decide) z)
      exact r_vret dX7_put_46 rfl (hq _ _ ⟨rfl, f1, f2, f3, f4⟩)
    · intro k hk ih M2 f1 f2 f3 f4 
      have h0 : ¬ shC k < 0 := by rcases (show k = 0 ∨ k = 1 ∨ k = 2 ∨ k = 3 by omega) with z | z | z | z <;> subst z <;> decide
      have h8 : shC k + Int32.ofInt (-8) = shC (k + 1) := by rcases (show k = 0 ∨ k = 1 ∨ k = 2 ∨ k = 3 by omega) with z | z | z | z <;> subst z <;> decide
      refine r_iload_n dX7_put_3 rfl ?_
      refine r_if_lt 46 dX7_put_4 (by decide) (fun z => absurd z h0) (fun _ => ?_)
      refine r_aload_n dX7_put_7 rfl ?_
      refine m_get 7 0 dX7_put_8 fl_X7_19 ob_text rfl ?_
      refine r_sipush 600 dX7_put_11 (by decide) ?_
      refine r_icmp_ge 40 dX7_put_14 (by decide) (fun z => absurd z (by rw [f3]; exact nI_ge (a := n + k) (b := 600) (by omega) (by decide))) (fun _ => ?_)
      refine r_aload_n dX7_put_17 rfl ?_
      refine m_get 7 3 dX7_put_18 fl_X7_15 ob_text rfl ?_
      refine r_aload_n dX7_put_21 rfl ?_
      refine m_get 7 0 dX7_put_22 fl_X7_19 ob_text rfl ?_
      refine r_iload_n dX7_put_25 rfl ?_
      refine r_iload_n dX7_put_26 rfl ?_
      refine r_ishr dX7_put_27 ?_
      refine r_i2b dX7_put_28 ?_
      refine m_bast (n + k) dX7_put_29 ab_tbytes f3 (by omega) (by first | decide | assumption) ?_
      refine r_aload_n dX7_put_30 rfl ?_
      refine r_dup dX7_put_31 rfl ?_
      refine m_get 7 0 dX7_put_32 fl_X7_19 ob_text rfl ?_
      refine r_iconst_1 dX7_put_35 ?_
      refine r_iadd dX7_put_36 ?_
      refine m_put 7 0 dX7_put_37 fl_X7_19 (fun r hr => by cases hr; rfl) ob_text (Nat.le_of_ble_eq_true rfl) rfl ?_
      refine s_iincN dX7_put_40 rfl (by decide) rfl ?_
      refine r_goto 3 dX7_put_43 (by decide) ?_
      refine m_sub (ih _ (fun c g1 g2 => by rw [mU_n g1, mU_n g2]; exact f1 c g1 g2) (fun i hi => by rw [mU_s, upd_ne hi, mU_n (by omega)]; exact f2 i hi) (by rw [mU_s, upd_eq, mU_n (by omega), f3]; exact nI_1 _) (fun i => ?_)) (by simp [a_sub, ← h8])
      rw [mU_n (by omega), mU_s]
      by_cases z : i = n + k
      · subst z
        rw [upd_eq, if_pos ⟨by omega, by omega⟩, show n + k - n = k by omega]
        simp
      · rw [upd_ne z, f4]
        by_cases y : n ≤ i ∧ i < n + k
        · rw [if_pos y, if_pos ⟨y.1, by omega⟩]
        · rw [if_neg y, if_neg (fun w => y ⟨w.1, by omega⟩)]
  refine r_bipush 24 dX7_put_0 (by decide) ?_
  refine s_istore_n 2 dX7_put_2 (by decide) rfl rfl ?_
  exact m_sub (lp 0 (by omega) M (fun _ _ _ => rfl) (fun _ _ => rfl) h (fun i => (if_neg (by omega)).symm)) (by simp [a_sub, shC])
theorem c_X9_append {n : Nat} (h : M 313 0 = nI n) (hn : n ≤ 600) : AM yX9_append I_X9_append [.ref 0, .int q0, .int q1, .int q2, .int q3, .int q4] (hS M L dd) (fun o h' => ∃ M', h' = hS M' L dd ∧ (∀ c, c ≠ 313 → c ≠ 314 → M' c = M c) ∧ (∀ i, i ≠ 0 → M' 313 i = M 313 i) ∧ ((thAp n = 0 ∧ o = .inl (some (.int (nI (n + 20)))) ∧ M' 313 0 = nI (n + 20) ∧ ∀ i, M' 314 i = if n ≤ i ∧ i < n + 20 then (apX q0 q1 q2 q3 q4 (i - n)).toInt8.toInt32 else M 314 i) ∨ (thAp n ≠ 0 ∧ o = .inr ex_S ∧ M' = M))) := by
  have h580 : M 313 0 ≤ 580 ↔ ¬ 600 < n + 20 := by
    rw [h, show (580 : Int32) = nI 580 from rfl, nI_leI (by omega) (by omega)]; omega
  refine am_mk (fun Q hq => ?_)
  refine a_met (by decide +kernel) rfl rfl (Nat.le_of_ble_eq_true rfl) (by simp [Value.category]) (by decide) rfl ?_
  show AW I_X9_append 0 [.ref 0, .int q0, .int q1, .int q2, .int q3, .int q4] [] (hS M L dd) 0 0 Q
  refine r_aload_n dX9_append_0 rfl ?_
  refine m_get 9 3 dX9_append_1 fl_X9_29 ob_x rfl ?_
  refine m_get 7 0 dX9_append_4 fl_X9_40 ob_text rfl ?_
  refine r_sipush 580 dX9_append_7 (by decide) ?_
  refine r_icmp_le 23 dX9_append_10 (by decide) (fun h10 => ?_) (fun h10 => ?_)
  · have hn2 := h580.mp h10
    refine r_aload_n dX9_append_23 rfl ?_
    refine m_get 9 3 dX9_append_24 fl_X9_29 ob_x rfl ?_
    refine r_iload_n dX9_append_27 rfl ?_
    refine m_pv1 dX9_append_28 cv_X9_51 (c_X7_put h (by omega)) ob_text ⟨_, rfl, rfl⟩ ⟨rfl, rfl⟩ (by decide) (by decide) (Nat.le_of_ble_eq_true rfl) (fun M1 L1 ⟨x1, x2, x3, x4, x5⟩ => ?_)
    refine r_aload_n dX9_append_31 rfl ?_
    refine m_get 9 3 dX9_append_32 fl_X9_29 ob_x rfl ?_
    refine r_iload_n dX9_append_35 rfl ?_
    refine m_pv1 dX9_append_36 cv_X9_51 (c_X7_put x4 (by omega)) ob_text ⟨_, rfl, rfl⟩ ⟨rfl, rfl⟩ (by decide) (by decide) (Nat.le_of_ble_eq_true rfl) (fun M2 L2 ⟨y1, y2, y3, y4, y5⟩ => ?_)
    refine r_aload_n dX9_append_39 rfl ?_
    refine m_get 9 3 dX9_append_40 fl_X9_29 ob_x rfl ?_
    refine r_iload_n dX9_append_43 rfl ?_
    refine m_pv1 dX9_append_44 cv_X9_51 (c_X7_put y4 (by omega)) ob_text ⟨_, rfl, rfl⟩ ⟨rfl, rfl⟩ (by decide) (by decide) (Nat.le_of_ble_eq_true rfl) (fun M3 L3 ⟨z1, z2, z3, z4, z5⟩ => ?_)
    refine r_aload_n dX9_append_47 rfl ?_
    refine m_get 9 3 dX9_append_48 fl_X9_29 ob_x rfl ?_
    refine r_iload dX9_append_51 rfl ?_
    refine m_pv1 dX9_append_53 cv_X9_51 (c_X7_put z4 (by omega)) ob_text ⟨_, rfl, rfl⟩ ⟨rfl, rfl⟩ (by decide) (by decide) (Nat.le_of_ble_eq_true rfl) (fun M4 L4 ⟨u1, u2, u3, u4, u5⟩ => ?_)
    refine r_aload_n dX9_append_56 rfl ?_
    refine m_get 9 3 dX9_append_57 fl_X9_29 ob_x rfl ?_
    refine r_iload dX9_append_60 rfl ?_
    refine m_pv1 dX9_append_62 cv_X9_51 (c_X7_put u4 (by omega)) ob_text ⟨_, rfl, rfl⟩ ⟨rfl, rfl⟩ (by decide) (by decide) (Nat.le_of_ble_eq_true rfl) (fun M5 L5 ⟨v1, v2, v3, v4, v5⟩ => ?_)
    subst x1 y1 z1 u1 v1
    refine r_aload_n dX9_append_65 rfl ?_
    refine m_get 9 3 dX9_append_66 fl_X9_29 ob_x rfl ?_
    refine m_get 7 0 dX9_append_69 fl_X9_40 ob_text rfl ?_
    rw [v4]
    refine r_iret dX9_append_72 rfl (hq _ _ ⟨M5, rfl, fun c g1 g2 => by rw [v2 c g1 g2, u2 c g1 g2, z2 c g1 g2, y2 c g1 g2, x2 c g1 g2], fun i hi => by rw [v3 i hi, u3 i hi, z3 i hi, y3 i hi, x3 i hi], Or.inl ⟨if_neg hn2, rfl, v4, fun i => ?_⟩⟩)
    rw [v5, u5, z5, y5, x5]
    by_cases g0 : i < n
    · rw [if_neg (by omega), if_neg (by omega), if_neg (by omega), if_neg (by omega), if_neg (by omega), if_neg (by omega)]
    by_cases g1 : i < n + 4
    · rw [if_neg (by omega), if_neg (by omega), if_neg (by omega), if_neg (by omega), if_pos (by omega), if_pos (by omega), apX, apW, if_pos (by omega), show (i - n) % 4 = i - n by omega]
    by_cases g2 : i < n + 8
    · rw [if_neg (by omega), if_neg (by omega), if_neg (by omega), if_pos (by omega), if_pos (by omega), apX, apW, if_neg (by omega), if_pos (by omega), show (i - n) % 4 = i - (n + 4) by omega]
    by_cases g3 : i < n + 12
    · rw [if_neg (by omega), if_neg (by omega), if_pos (by omega), if_pos (by omega), apX, apW, if_neg (by omega), if_neg (by omega), if_pos (by omega), show (i - n) % 4 = i - (n + 4 + 4) by omega]
    by_cases g4 : i < n + 16
    · rw [if_neg (by omega), if_pos (by omega), if_pos (by omega), apX, apW, if_neg (by omega), if_neg (by omega), if_neg (by omega), if_pos (by omega), show (i - n) % 4 = i - (n + 4 + 4 + 4) by omega]
    by_cases g5 : i < n + 20
    · rw [if_pos (by omega), if_pos (by omega), apX, apW, if_neg (by omega), if_neg (by omega), if_neg (by omega), if_neg (by omega), show (i - n) % 4 = i - (n + 4 + 4 + 4 + 4) by omega]
    · rw [if_neg (by omega), if_neg (by omega), if_neg (by omega), if_neg (by omega), if_neg (by omega), if_neg (by omega)]
  · have hn2 : 600 < n + 20 := by
      by_cases z : 600 < n + 20
      · exact z
      · exact absurd (h580.mpr z) h10
    have ht : thAp n = 1 := if_pos hn2
    exact r_throw th_X9_append_13 rfl (by decide) (by decide) (Nat.le_of_ble_eq_true rfl) (Nat.le_of_ble_eq_true rfl) (hq _ _ ⟨M, rfl, fun _ _ _ => rfl, fun _ _ => rfl, Or.inr ⟨by rw [ht]; decide, rfl, rfl⟩⟩)
theorem ap_sh : ∀ k : Fin 20, (24 : Int32) - 8 * (nI k.val % 4) = shC (k.val % 4) := by decide
theorem c_X10_append {n : Nat} (h : M 317 7 = nI n) (hn : n ≤ 600) : AM yX10_append I_X10_append [.ref 317, .int q0, .int q1, .int q2, .int q3, .int q4] (hS M L dd) (fun o h' => ∃ x M', o = .inl (some (.int x)) ∧ h' = hS M' L dd ∧ M' 317 5 = thAp n ∧ (∀ c, c ≠ 317 → c ≠ 322 → M' c = M c) ∧ (∀ i, i ≠ 5 → i ≠ 7 → M' 317 i = M 317 i) ∧ (thAp n ≠ 0 → M' 317 7 = nI n ∧ M' 322 = M 322) ∧ (thAp n = 0 → x = nI (n + 20) ∧ M' 317 7 = nI (n + 20) ∧ ∀ i, M' 322 i = if n ≤ i ∧ i < n + 20 then apX q0 q1 q2 q3 q4 (i - n) &&& 255 else M 322 i)) := by
  refine am_mk (fun Q hq => ?_)
  refine a_met (by decide +kernel) rfl rfl (Nat.le_of_ble_eq_true rfl) (by simp [Value.category]) (by decide) rfl ?_
  show AW I_X10_append 0 [.ref 317, .int q0, .int q1, .int q2, .int q3, .int q4, .null, .null] [] (hS M L dd) 0 0 Q
  refine r_aload_n dX10_append_0 rfl ?_
  refine r_aload_n dX10_append_1 rfl ?_
  refine m_get 10 7 dX10_append_2 fl_X10_48 ob_model rfl ?_
  refine r_bipush 20 dX10_append_5 (by decide) ?_
  refine r_iadd dX10_append_7 ?_
  rw [h, show (20 : Int32) = nI 20 from rfl, nI_add]
  refine r_sipush 600 dX10_append_8 (by decide) ?_
  refine r_icmp_le 18 dX10_append_11 (by decide) (fun h11 => ?_) (fun h11 => ?_)
  · rw [show (600 : Int32) = nI 600 from rfl, nI_leI (by omega) (by omega)] at h11
    have ht : thAp n = 0 := if_neg (by omega)
    refine r_iconst_0 dX10_append_18 ?_
    refine m_put 10 5 dX10_append_19 fl_X10_42 (fun r hr => by cases hr; rfl) ob_model (Nat.le_of_ble_eq_true rfl) rfl ?_
    refine r_aload_n dX10_append_22 rfl ?_
    refine m_get 10 5 dX10_append_23 fl_X10_42 ob_model rfl ?_
    refine r_if_le 31 dX10_append_26 (by decide) (fun _ => ?_) (fun z => absurd (by rw [mU_s, upd_eq]; decide) z)
    skip
    refine m_abs (fun M1 => (∀ c, c ≠ 317 → M1 c = M c) ∧ (∀ i, i ≠ 5 → M1 317 i = M 317 i) ∧ M1 317 5 = 0) ⟨fun c hc => mU_n hc, fun i hi => by rw [mU_s, upd_ne hi], by rw [mU_s, upd_eq]⟩ (fun M1 ⟨z1, z2, z3⟩ => ?_)
    have lp : ∀ k, k ≤ 20 → ∀ M2 : Nat → Nat → Int32, (∀ c, c ≠ 317 → c ≠ 322 → M2 c = M c) → (∀ i, i ≠ 5 → i ≠ 7 → M2 317 i = M 317 i) → M2 317 5 = 0 → M2 317 7 = nI (n + k) → (∀ i, M2 322 i = if n ≤ i ∧ i < n + k then apX q0 q1 q2 q3 q4 (i - n) &&& 255 else M 322 i) → AW I_X10_append 34 [.ref 317, .int q0, .int q1, .int q2, .int q3, .int q4, .int (nI k), .null] [] (hS M2 L dd) 0 0 Q := by
      refine lp_up _ ?_ ?_
      · intro M2 f1 f2 f3 f4 f5 
        refine r_iload dX10_append_34 rfl ?_
        refine r_bipush 20 dX10_append_36 (by decide) ?_
        refine r_icmp_ge 131 dX10_append_38 (by decide) (fun _ => ?_) (fun z => absurd (by decide) z)
        refine r_aload_n dX10_append_131 rfl ?_
        refine m_get 10 7 dX10_append_132 fl_X10_48 ob_model rfl ?_
        rw [f4]
        exact r_iret dX10_append_135 rfl (hq _ _ ⟨_, M2, rfl, rfl, by rw [f3, ht], f1, f2, fun z => absurd ht z, fun _ => ⟨rfl, f4, f5⟩⟩)
      · intro k hk ih M2 f1 f2 f3 f4 f5 
        have c87 : ∀ v, v = apW q0 q1 q2 q3 q4 k → AW I_X10_append 87 [.ref 317, .int q0, .int q1, .int q2, .int q3, .int q4, .int (nI k), .null] [.int v] (hS M2 L dd) 0 0 Q := by
          intro v ev
          refine s_istore dX10_append_87 (by decide) rfl ?_
          refine r_aload_n dX10_append_89 rfl ?_
          refine m_get 10 6 dX10_append_90 fl_X10_22 ob_model rfl ?_
          refine r_aload_n dX10_append_93 rfl ?_
          refine m_get 10 7 dX10_append_94 fl_X10_48 ob_model rfl ?_
          refine r_iload dX10_append_97 rfl ?_
          refine r_bipush 24 dX10_append_99 (by decide) ?_
          refine r_bipush 8 dX10_append_101 (by decide) ?_
          refine r_iload dX10_append_103 rfl ?_
          refine r_iconst_4 dX10_append_105 ?_
          refine r_irem dX10_append_106 (by decide) ?_
          refine r_imul dX10_append_107 ?_
          refine r_isub dX10_append_108 ?_
          rw [ap_sh ⟨k, hk⟩]
          refine r_ishr dX10_append_109 ?_
          refine r_sipush 255 dX10_append_110 (by decide) ?_
          refine r_iand dX10_append_113 ?_
          refine m_iast (n + k) dX10_append_114 ai_buffer f4 (by omega) (by first | decide | assumption) ?_
          refine r_aload_n dX10_append_115 rfl ?_
          refine r_dup dX10_append_116 rfl ?_
          refine m_get 10 7 dX10_append_117 fl_X10_48 ob_model rfl ?_
          refine r_iconst_1 dX10_append_120 ?_
          refine r_iadd dX10_append_121 ?_
          refine m_put 10 7 dX10_append_122 fl_X10_48 (fun r hr => by cases hr; rfl) ob_model (Nat.le_of_ble_eq_true rfl) rfl ?_
          refine s_iinc dX10_append_125 rfl (by decide) rfl ?_
          refine r_goto 34 dX10_append_128 (by decide) ?_
          refine m_sub (ih _ (fun c g1 g2 => by rw [mU_n g1, mU_n g2]; exact f1 c g1 g2) (fun i g1 g2 => by rw [mU_s, upd_ne g2, mU_n (by omega)]; exact f2 i g1 g2) (by rw [mU_s, upd_ne (by omega), mU_n (by omega)]; exact f3) (by rw [mU_s, upd_eq, mU_n (by omega), f4]; exact nI_1 _) (fun i => ?_)) (by simp [a_sub, nI_succ])
          rw [mU_n (by omega), mU_s]
          by_cases z : i = n + k
          · subst z
            rw [upd_eq, if_pos ⟨by omega, by omega⟩, show n + k - n = k by omega, apX, ev]
          · rw [upd_ne z, f5]
            by_cases y : n ≤ i ∧ i < n + k
            · rw [if_pos y, if_pos ⟨y.1, by omega⟩]
            · rw [if_neg y, if_neg (fun w => y ⟨w.1, by omega⟩)]
        have l4 : ((4 : Int32) ≤ nI k) = (4 ≤ k) := by rw [show (4 : Int32) = nI 4 from rfl, nI_leI (by omega) (by omega)]
        have l8 : ((8 : Int32) ≤ nI k) = (8 ≤ k) := by rw [show (8 : Int32) = nI 8 from rfl, nI_leI (by omega) (by omega)]
        have l12 : ((12 : Int32) ≤ nI k) = (12 ≤ k) := by rw [show (12 : Int32) = nI 12 from rfl, nI_leI (by omega) (by omega)]
        have l16 : ((16 : Int32) ≤ nI k) = (16 ≤ k) := by rw [show (16 : Int32) = nI 16 from rfl, nI_leI (by omega) (by omega)]
        refine r_iload dX10_append_34 rfl ?_
        refine r_bipush 20 dX10_append_36 (by decide) ?_
        refine r_icmp_ge 131 dX10_append_38 (by decide) (fun z => absurd z (nI_ge hk (by decide))) (fun _ => ?_)
        refine r_iload dX10_append_41 rfl ?_
        refine r_iconst_4 dX10_append_43 ?_
        refine r_icmp_ge 51 dX10_append_44 (by decide) (fun h44 => ?_) (fun h44 => ?_)
        · refine r_iload dX10_append_51 rfl ?_
          refine r_bipush 8 dX10_append_53 (by decide) ?_
          refine r_icmp_ge 62 dX10_append_55 (by decide) (fun h55 => ?_) (fun h55 => ?_)
          · refine r_iload dX10_append_62 rfl ?_
            refine r_bipush 12 dX10_append_64 (by decide) ?_
            refine r_icmp_ge 73 dX10_append_66 (by decide) (fun h66 => ?_) (fun h66 => ?_)
            · refine r_iload dX10_append_73 rfl ?_
              refine r_bipush 16 dX10_append_75 (by decide) ?_
              refine r_icmp_ge 85 dX10_append_77 (by decide) (fun h77 => ?_) (fun h77 => ?_)
              · refine r_iload dX10_append_85 rfl ?_
                exact c87 _ (by clear c87 ih; simp only [l4, l8, l12, l16] at *; unfold apW; first | rw [if_pos (by omega)] | rw [if_neg (by omega), if_pos (by omega)] | rw [if_neg (by omega), if_neg (by omega), if_pos (by omega)] | rw [if_neg (by omega), if_neg (by omega), if_neg (by omega), if_pos (by omega)] | rw [if_neg (by omega), if_neg (by omega), if_neg (by omega), if_neg (by omega)])
              · refine r_iload dX10_append_80 rfl ?_
                refine r_goto 87 dX10_append_82 (by decide) ?_
                exact c87 _ (by clear c87 ih; simp only [l4, l8, l12, l16] at *; unfold apW; first | rw [if_pos (by omega)] | rw [if_neg (by omega), if_pos (by omega)] | rw [if_neg (by omega), if_neg (by omega), if_pos (by omega)] | rw [if_neg (by omega), if_neg (by omega), if_neg (by omega), if_pos (by omega)] | rw [if_neg (by omega), if_neg (by omega), if_neg (by omega), if_neg (by omega)])
            · refine r_iload_n dX10_append_69 rfl ?_
              refine r_goto 87 dX10_append_70 (by decide) ?_
              exact c87 _ (by clear c87 ih; simp only [l4, l8, l12, l16] at *; unfold apW; first | rw [if_pos (by omega)] | rw [if_neg (by omega), if_pos (by omega)] | rw [if_neg (by omega), if_neg (by omega), if_pos (by omega)] | rw [if_neg (by omega), if_neg (by omega), if_neg (by omega), if_pos (by omega)] | rw [if_neg (by omega), if_neg (by omega), if_neg (by omega), if_neg (by omega)])
          · refine r_iload_n dX10_append_58 rfl ?_
            refine r_goto 87 dX10_append_59 (by decide) ?_
            exact c87 _ (by clear c87 ih; simp only [l4, l8, l12, l16] at *; unfold apW; first | rw [if_pos (by omega)] | rw [if_neg (by omega), if_pos (by omega)] | rw [if_neg (by omega), if_neg (by omega), if_pos (by omega)] | rw [if_neg (by omega), if_neg (by omega), if_neg (by omega), if_pos (by omega)] | rw [if_neg (by omega), if_neg (by omega), if_neg (by omega), if_neg (by omega)])
        · refine r_iload_n dX10_append_47 rfl ?_
          refine r_goto 87 dX10_append_48 (by decide) ?_
          exact c87 _ (by clear c87 ih; simp only [l4, l8, l12, l16] at *; unfold apW; first | rw [if_pos (by omega)] | rw [if_neg (by omega), if_pos (by omega)] | rw [if_neg (by omega), if_neg (by omega), if_pos (by omega)] | rw [if_neg (by omega), if_neg (by omega), if_neg (by omega), if_pos (by omega)] | rw [if_neg (by omega), if_neg (by omega), if_neg (by omega), if_neg (by omega)])
    refine r_iconst_0 dX10_append_31 ?_
    refine s_istore dX10_append_32 (by decide) rfl ?_
    exact m_sub (lp 0 (by omega) M1 (fun c g1 _ => z1 c g1) (fun i g1 _ => z2 i g1) z3 ((z2 7 (by omega)).trans h) (fun i => by rw [if_neg (by omega), z1 322 (by omega)])) (by simp [a_sub, nI_0])
  · rw [show (600 : Int32) = nI 600 from rfl, nI_leI (by omega) (by omega)] at h11
    have ht : thAp n = 1 := if_pos (by omega)
    refine r_iconst_1 dX10_append_14 ?_
    refine r_goto 19 dX10_append_15 (by decide) ?_
    refine m_put 10 5 dX10_append_19 fl_X10_42 (fun r hr => by cases hr; rfl) ob_model (Nat.le_of_ble_eq_true rfl) rfl ?_
    refine r_aload_n dX10_append_22 rfl ?_
    refine m_get 10 5 dX10_append_23 fl_X10_42 ob_model rfl ?_
    refine r_if_le 31 dX10_append_26 (by decide) (fun z => absurd z (by rw [mU_s, upd_eq]; decide)) (fun _ => ?_)
    refine r_iconst_0 dX10_append_29 ?_
    exact r_iret dX10_append_30 rfl (hq _ _ ⟨_, _, rfl, rfl, by rw [mU_s, upd_eq, ht], fun c g1 _ => mU_n g1, fun i g1 _ => by rw [mU_s, upd_ne g1], fun _ => ⟨by rw [mU_s, upd_ne (by omega)]; exact h, mU_n (by omega)⟩, fun z => by rw [ht] at z; exact absurd z (by decide)⟩)
end APP
