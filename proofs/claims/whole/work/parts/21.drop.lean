section DROP
variable {M : Nat → Nat → Int32} {L : Nat → Nat → Int64} {dd : UInt64} {p : Nat} {a : Nat → Int32}
theorem c_X2_goneAt2 {l n : Nat} (hP : PL p) (hn : M (p + 6) 0 = nI n) (h8 : n ≤ 8) (hl : l < n) : AD yX2_goneAt I_X2_goneAt [.ref (p + 6), .int (nI l)] (hS M L dd) (.inl (some (.int (M (p + 10) l + 2 * M (p + 11) l)))) (hS M L dd) := by
  intro Q hq
  refine a_met (by decide +kernel) rfl rfl (Nat.le_of_ble_eq_true rfl) (by simp [Value.category]) (by decide) rfl ?_
  show AW I_X2_goneAt 0 [.ref (p + 6), .int (nI l)] [] (hS M L dd) 0 0 Q
  refine r_aload_n dX2_goneAt_0 rfl ?_
  refine r_iload_n dX2_goneAt_1 rfl ?_
  refine m_cv1 dX2_goneAt_2 cv_X2_41 (c_X2_has hP) rfl (ob_loans hP) ⟨_, rfl, rfl⟩ ⟨rfl, rfl⟩ (by decide) (by decide) (Nat.le_of_ble_eq_true rfl) ?_
  refine r_if_eq 26 dX2_goneAt_5 (by decide) (fun z => absurd z (by rw [bI_t ⟨nI_pos' (by omega), by rw [hn]; exact nI_lt hl (by omega)⟩]; decide)) (fun _ => ?_)
  refine r_aload_n dX2_goneAt_8 rfl ?_
  refine m_get 2 4 dX2_goneAt_9 fl_X2_21 (ob_loans hP) rfl ?_
  refine r_iload_n dX2_goneAt_12 rfl ?_
  refine m_iald l dX2_goneAt_13 (ai_begin hP) rfl (by omega) (by first | decide | assumption) ?_
  refine r_iconst_2 dX2_goneAt_14 ?_
  refine r_aload_n dX2_goneAt_15 rfl ?_
  refine m_get 2 5 dX2_goneAt_16 fl_X2_24 (ob_loans hP) rfl ?_
  refine r_iload_n dX2_goneAt_19 rfl ?_
  refine m_iald l dX2_goneAt_20 (ai_ticks hP) rfl (by omega) (by first | decide | assumption) ?_
  refine r_imul dX2_goneAt_21 ?_
  refine r_iadd dX2_goneAt_22 ?_
  refine r_goto 27 dX2_goneAt_23 (by decide) ?_
  exact e_iret dX2_goneAt_27 rfl hq (rfl)
abbrev cT (M : Nat → Nat → Int32) (p i : Nat) : Int32 × Int32 × Int32 × Int32 × Int32 := (M (p + 7) i, M (p + 8) i, M (p + 9) i, M (p + 10) i, M (p + 11) i)
theorem lnL_s {n : Nat} : lnL a (n + 1) = lnL a n ++ [lnT a n] := by simp [lnL, List.range_succ]
theorem c_X2_dropOver {t : Int32} {b : Nat → Int32} (hP : PL p) (hQ : QL M p a) (hn0 : a 7 = nI (nl a)) (h8 : nl a ≤ 8) (hb : b 7 = nI (nl b)) (hb2 : lnL b (nl b) = (lnL a (nl a)).filter (lvT t)) : PO yX2_dropOver I_X2_dropOver [.ref (p + 6), .int t] M L dd none (fun M' L' => L' = L ∧ Fr (p + 6) (p + 12) M M' ∧ QL M' p b) := by
  refine po_mk (fun Q hq => ?_)
  refine a_met (by decide +kernel) rfl rfl (Nat.le_of_ble_eq_true rfl) (by simp [Value.category]) (by decide) rfl ?_
  show AW I_X2_dropOver 0 [.ref (p + 6), .int t, .null, .null] [] (hS M L dd) 0 0 Q
  refine r_iconst_0 dX2_dropOver_0 ?_
  refine s_istore_n 2 dX2_dropOver_1 (by decide) rfl rfl ?_
  refine r_iconst_0 dX2_dropOver_2 ?_
  refine s_istore_n 3 dX2_dropOver_3 (by decide) rfl rfl ?_
  have lp : ∀ k, k ≤ nl a → ∀ M' : Nat → Nat → Int32, Fr (p + 6) (p + 12) M M' → M' (p + 6) 0 = a 7 → (∀ i, i < ((lnL a k).filter (lvT t)).length → ((lnL a k).filter (lvT t))[i]? = some (cT M' p i)) → (∀ i, k ≤ i → i < nl a → cT M' p i = lnT a i) → AW I_X2_dropOver 4 [.ref (p + 6), .int t, .int (nI ((lnL a k).filter (lvT t)).length), .int (nI k)] [] (hS M' L dd) 0 0 Q := by
    refine lp_up _ ?_ ?_
    · intro M' f1 f2 f3 f4 
      refine r_iload_n dX2_dropOver_4 rfl ?_
      refine r_aload_n dX2_dropOver_5 rfl ?_
      refine m_get 2 0 dX2_dropOver_6 fl_X2_27 (ob_loans hP) rfl ?_
      refine r_icmp_ge 90 dX2_dropOver_9 (by decide) (fun _ => ?_) (fun z => absurd (by rw [f2, hn0]; exact nI_le (Nat.le_refl _) (by omega)) z)
      refine r_aload_n dX2_dropOver_90 rfl ?_
      refine r_iload_n dX2_dropOver_91 rfl ?_
      refine m_put 2 0 dX2_dropOver_92 fl_X2_27 (fun r hr => by cases hr; rfl) (ob_loans hP) (Nat.le_of_ble_eq_true rfl) rfl ?_
      refine r_vret dX2_dropOver_95 rfl (hq _ _ ⟨rfl, fr_u f1 (by omega), ?_⟩)
      have e : nl b = ((lnL a (nl a)).filter (lvT t)).length := by rw [← hb2, lnL_len]
      refine ⟨by rw [mU_s, upd_eq, hb, e], fun i hi => ?_⟩
      rw [mU_n (by omega), mU_n (by omega), mU_n (by omega), mU_n (by omega), mU_n (by omega)]
      have g := f3 i (by rw [← e]; exact hi)
      rw [← hb2, lnL_get hi] at g
      have g2 := Option.some.inj g
      simp only [lnT, cT, Prod.mk.injEq] at g2
      obtain ⟨g3, g4, g5, g6, g7⟩ := g2
      exact ⟨g3.symm, g4.symm, g5.symm, g6.symm, g7.symm⟩
    · intro k hk ih M' f1 f2 f3 f4 
      have g := f4 k (Nat.le_refl _) hk
      simp only [lnT, cT, Prod.mk.injEq] at g
      obtain ⟨g0, g1, g2, g3, g4⟩ := g
      have hc : ((lnL a k).filter (lvT t)).length ≤ k := Nat.le_trans (List.length_filter_le _ _) (by rw [lnL_len]; exact Nat.le_refl _)
      refine r_iload_n dX2_dropOver_4 rfl ?_
      refine r_aload_n dX2_dropOver_5 rfl ?_
      refine m_get 2 0 dX2_dropOver_6 fl_X2_27 (ob_loans hP) rfl ?_
      refine r_icmp_ge 90 dX2_dropOver_9 (by decide) (fun z => absurd z (by rw [f2, hn0]; exact nI_ge hk (by omega))) (fun _ => ?_)
      refine r_iload_n dX2_dropOver_12 rfl ?_
      refine r_aload_n dX2_dropOver_13 rfl ?_
      refine r_iload_n dX2_dropOver_14 rfl ?_
      refine m_cv1 dX2_dropOver_15 cv_X2_49 (c_X2_goneAt2 hP (f2.trans hn0) h8 hk) rfl (ob_loans hP) ⟨_, rfl, rfl⟩ ⟨rfl, rfl⟩ (by decide) (by decide) (Nat.le_of_ble_eq_true rfl) ?_
      simp only [g3, g4]
      refine r_icmp_ge 84 dX2_dropOver_18 (by decide) (fun h18 => ?_) (fun h18 => ?_)
      · have hv : lvT t (lnT a k) = false := by rw [lvT, decide_eq_false_iff_not]; show ¬ t < ln a k 3 + 2 * ln a k 4; rw [Int32.not_lt]; exact h18
        have e : (lnL a (k + 1)).filter (lvT t) = (lnL a k).filter (lvT t) := by rw [lnL_s, List.filter_append]; simp [hv]
        refine s_iinc dX2_dropOver_84 rfl (by decide) rfl ?_
        refine r_goto 4 dX2_dropOver_87 (by decide) ?_
        exact m_sub (ih M' f1 f2 (by rw [e]; exact f3) (fun i h1 h2 => f4 i (by omega) h2)) (by rw [e]; simp [a_sub, nI_succ])
      · have hv : lvT t (lnT a k) = true := by rw [lvT, decide_eq_true_iff]; show t < ln a k 3 + 2 * ln a k 4; rw [← Int32.not_le]; exact h18
        have e : (lnL a (k + 1)).filter (lvT t) = (lnL a k).filter (lvT t) ++ [lnT a k] := by rw [lnL_s, List.filter_append]; simp [hv]
        generalize hc2 : ((lnL a k).filter (lvT t)).length = c at *
        refine r_aload_n dX2_dropOver_21 rfl ?_
        refine m_get 2 1 dX2_dropOver_22 fl_X2_9 (ob_loans hP) rfl ?_
        refine r_iload_n dX2_dropOver_25 rfl ?_
        refine r_aload_n dX2_dropOver_26 rfl ?_
        refine m_get 2 1 dX2_dropOver_27 fl_X2_9 (ob_loans hP) rfl ?_
        refine r_iload_n dX2_dropOver_30 rfl ?_
        refine m_iald k dX2_dropOver_31 (ai_from hP) rfl (by omega) (by first | decide | assumption) ?_
        refine m_iast c dX2_dropOver_32 (ai_from hP) rfl (by omega) (by first | decide | assumption) ?_
        refine r_aload_n dX2_dropOver_33 rfl ?_
        refine m_get 2 2 dX2_dropOver_34 fl_X2_15 (ob_loans hP) rfl ?_
        refine r_iload_n dX2_dropOver_37 rfl ?_
        refine r_aload_n dX2_dropOver_38 rfl ?_
        refine m_get 2 2 dX2_dropOver_39 fl_X2_15 (ob_loans hP) rfl ?_
        refine r_iload_n dX2_dropOver_42 rfl ?_
        refine m_iald k dX2_dropOver_43 (ai_to hP) rfl (by omega) (by first | decide | assumption) ?_
        refine m_iast c dX2_dropOver_44 (ai_to hP) rfl (by omega) (by first | decide | assumption) ?_
        refine r_aload_n dX2_dropOver_45 rfl ?_
        refine m_get 2 3 dX2_dropOver_46 fl_X2_18 (ob_loans hP) rfl ?_
        refine r_iload_n dX2_dropOver_49 rfl ?_
        refine r_aload_n dX2_dropOver_50 rfl ?_
        refine m_get 2 3 dX2_dropOver_51 fl_X2_18 (ob_loans hP) rfl ?_
        refine r_iload_n dX2_dropOver_54 rfl ?_
        refine m_iald k dX2_dropOver_55 (ai_ltickets hP) rfl (by omega) (by first | decide | assumption) ?_
        refine m_iast c dX2_dropOver_56 (ai_ltickets hP) rfl (by omega) (by first | decide | assumption) ?_
        refine r_aload_n dX2_dropOver_57 rfl ?_
        refine m_get 2 4 dX2_dropOver_58 fl_X2_21 (ob_loans hP) rfl ?_
        refine r_iload_n dX2_dropOver_61 rfl ?_
        refine r_aload_n dX2_dropOver_62 rfl ?_
        refine m_get 2 4 dX2_dropOver_63 fl_X2_21 (ob_loans hP) rfl ?_
        refine r_iload_n dX2_dropOver_66 rfl ?_
        refine m_iald k dX2_dropOver_67 (ai_begin hP) rfl (by omega) (by first | decide | assumption) ?_
        refine m_iast c dX2_dropOver_68 (ai_begin hP) rfl (by omega) (by first | decide | assumption) ?_
        refine r_aload_n dX2_dropOver_69 rfl ?_
        refine m_get 2 5 dX2_dropOver_70 fl_X2_24 (ob_loans hP) rfl ?_
        refine r_iload_n dX2_dropOver_73 rfl ?_
        refine r_aload_n dX2_dropOver_74 rfl ?_
        refine m_get 2 5 dX2_dropOver_75 fl_X2_24 (ob_loans hP) rfl ?_
        refine r_iload_n dX2_dropOver_78 rfl ?_
        refine m_iald k dX2_dropOver_79 (ai_ticks hP) rfl (by omega) (by first | decide | assumption) ?_
        refine m_iast c dX2_dropOver_80 (ai_ticks hP) rfl (by omega) (by first | decide | assumption) ?_
        refine s_iinc dX2_dropOver_81 rfl (by decide) rfl ?_
        refine s_iinc dX2_dropOver_84 rfl (by decide) rfl ?_
        refine r_goto 4 dX2_dropOver_87 (by decide) ?_
        refine m_sub (ih _ (fr_u (fr_u (fr_u (fr_u (fr_u f1 (by omega)) (by omega)) (by omega)) (by omega)) (by omega)) (by simp [mU, f2]) (fun i hi => ?_) (fun i h1 h2 => ?_)) (by rw [e]; simp [a_sub, nI_succ, hc2])
        · rw [e] at hi ⊢
          simp only [List.length_append, List.length_singleton] at hi
          by_cases hic : i = c
          · subst hic
            rw [List.getElem?_append_right (by omega)]
            simp [mU, upd, hc2, cT, g0, g1, g2, g3, g4, lnT]
          · rw [List.getElem?_append_left (by omega), f3 i (by omega)]
            simp [mU, upd, hic, cT]
        · rw [← f4 i (by omega) h2]
          have hic : ¬ i = c := by omega
          simp [mU, upd, hic, cT]
  refine m_eq (lp 0 (Nat.zero_le _) M fr_r hQ.1 (fun i hi => ?_) (fun i _ h2 => ?_)) rfl rfl rfl
  · simp [lnL] at hi
  · obtain ⟨t0, t1, t2, t3, t4⟩ := hQ.2 i h2
    simp only [cT, t0, t1, t2, t3, t4]
end DROP
