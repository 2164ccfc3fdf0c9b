/-! THE CLASS READS A TEXT: signs, words, numbers -/
theorem dg_step {g : Nat → Int32} {b k : Nat} (hb : b ≤ k) (h : cDg (g k) = true) : (if nI (dvF g b (k - b)) * 10 + g k - 48 < 10000 then nI (dvF g b (k - b)) * 10 + g k - 48 else 10000) = nI (dvF g b (k + 1 - b)) := by
  obtain ⟨e, h9⟩ := cDg_of h
  have h1 := dv_le g b (k - b)
  rw [show k + 1 - b = (k - b) + 1 by omega, dvF, show b + (k - b) = k by omega]
  generalize dgN (g k) = d at e h9
  generalize dvF g b (k - b) = v at h1
  have e2 : nI v * 10 + g k - 48 = nI (10 * v + d) := by
    rw [e, show (10 : Int32) = nI 10 from rfl, pk_mul, nI_add, show (48 : Int32) = nI 48 from rfl, pk_sub (by omega)]
    exact congrArg nI (by omega)
  rw [e2, show (10000 : Int32) = nI 10000 from rfl]
  by_cases z : 10 * v + d < 10000
  · rw [if_pos (nI_lt z (by decide))]; exact congrArg nI (by omega)
  · rw [if_neg (nI_nlt (by omega) (by omega))]; exact congrArg nI (by omega)
section TEXT
variable {M : Nat → Nat → Int32} {L : Nat → Nat → Int64} {dd : UInt64} {n st : Nat} {s : PS} {Q : a_Q}
def TX (M : Nat → Nat → Int32) (n : Nat) (s : PS) : Prop := M 313 4 = nI n ∧ M 313 5 = nI s.po ∧ M 313 1 = s.er ∧ M 313 2 = s.ea
def Ft (M M' : Nat → Nat → Int32) : Prop := (∀ c, c ≠ 313 → M' c = M c) ∧ M' 313 0 = M 313 0
theorem ft_r : Ft M M := ⟨fun _ _ => rfl, rfl⟩
theorem ft_t {M1 M2 : Nat → Nat → Int32} (h : Ft M M1) (h2 : Ft M1 M2) : Ft M M2 := ⟨fun c g1 => (h2.1 c g1).trans (h.1 c g1), h2.2.trans h.2⟩
theorem c_X7_byteAt {i : Nat} {q : Int32} (hn : n ≤ 600) (h4 : M 313 4 = nI n) (hq : q = nI i) (hi : i ≤ n) : AD yX7_byteAt I_X7_byteAt [.ref 313, .int q] (hS M L dd) (.inl (some (.int (if i < n then M 314 i else 0)))) (hS M L dd) := by
  subst hq
  by_cases h : i < n
  · rw [if_pos h]
    intro Q hq
    refine a_met (by decide +kernel) rfl rfl (Nat.le_of_ble_eq_true rfl) (by simp [Value.category]) (by decide) rfl ?_
    show AW I_X7_byteAt 0 [.ref 313, .int (nI i)] [] (hS M L dd) 0 0 Q
    refine r_iload_n dX7_byteAt_0 rfl ?_
    refine r_if_lt 28 dX7_byteAt_1 (by decide) (fun z => absurd z (nI_pos (by omega))) (fun _ => ?_)
    refine r_iload_n dX7_byteAt_4 rfl ?_
    refine r_aload_n dX7_byteAt_5 rfl ?_
    refine m_get 7 4 dX7_byteAt_6 fl_X7_28 ob_text rfl ?_
    refine r_icmp_ge 28 dX7_byteAt_9 (by decide) (fun z => absurd z (by rw [h4]; exact nI_ge h (by omega))) (fun _ => ?_)
    refine r_iload_n dX7_byteAt_12 rfl ?_
    refine r_sipush 600 dX7_byteAt_13 (by decide) ?_
    refine r_icmp_ge 28 dX7_byteAt_16 (by decide) (fun z => absurd z (nI_ge (a := i) (b := 600) (by omega) (by decide))) (fun _ => ?_)
    refine r_aload_n dX7_byteAt_19 rfl ?_
    refine m_get 7 3 dX7_byteAt_20 fl_X7_15 ob_text rfl ?_
    refine r_iload_n dX7_byteAt_23 rfl ?_
    refine m_bald i dX7_byteAt_24 ab_tbytes rfl (by omega) (by first | decide | assumption) ?_
    refine r_goto 29 dX7_byteAt_25 (by decide) ?_
    exact e_iret dX7_byteAt_29 rfl hq (rfl)
  · rw [if_neg h]
    intro Q hq
    refine a_met (by decide +kernel) rfl rfl (Nat.le_of_ble_eq_true rfl) (by simp [Value.category]) (by decide) rfl ?_
    show AW I_X7_byteAt 0 [.ref 313, .int (nI i)] [] (hS M L dd) 0 0 Q
    refine r_iload_n dX7_byteAt_0 rfl ?_
    refine r_if_lt 28 dX7_byteAt_1 (by decide) (fun z => absurd z (nI_pos (by omega))) (fun _ => ?_)
    refine r_iload_n dX7_byteAt_4 rfl ?_
    refine r_aload_n dX7_byteAt_5 rfl ?_
    refine m_get 7 4 dX7_byteAt_6 fl_X7_28 ob_text rfl ?_
    refine r_icmp_ge 28 dX7_byteAt_9 (by decide) (fun _ => ?_) (fun z => absurd (by rw [h4]; exact nI_le (by omega) (by omega)) z)
    refine r_iconst_0 dX7_byteAt_28 ?_
    exact e_iret dX7_byteAt_29 rfl hq (rfl)
theorem c_X7_isDigit {c : Int32} : AD yX7_isDigit I_X7_isDigit [.int c] (hS M L dd) (.inl (some (.int (bI (48 ≤ c ∧ c ≤ 57))))) (hS M L dd) := by
  intro Q hq
  refine a_met (by decide +kernel) rfl rfl (Nat.le_of_ble_eq_true rfl) (by simp [Value.category]) (by decide) rfl ?_
  show AW I_X7_isDigit 0 [.int c] [] (hS M L dd) 0 0 Q
  refine r_iload_n dX7_isDigit_0 rfl ?_
  refine r_bipush 48 dX7_isDigit_1 (by decide) ?_
  refine r_icmp_lt 16 dX7_isDigit_3 (by decide) (fun h3 => ?_) (fun h3 => ?_)
  · refine r_iconst_0 dX7_isDigit_16 ?_
    exact e_zret dX7_isDigit_17 rfl hq (by grind [bI])
  · refine r_iload_n dX7_isDigit_6 rfl ?_
    refine r_bipush 57 dX7_isDigit_7 (by decide) ?_
    refine r_icmp_gt 16 dX7_isDigit_9 (by decide) (fun h9 => ?_) (fun h9 => ?_)
    · refine r_iconst_0 dX7_isDigit_16 ?_
      exact e_zret dX7_isDigit_17 rfl hq (by grind [bI])
    · refine r_iconst_1 dX7_isDigit_12 ?_
      refine r_goto 17 dX7_isDigit_13 (by decide) ?_
      exact e_zret dX7_isDigit_17 rfl hq (by grind [bI])
theorem c_X7_fail {c q : Int32} {p : Nat} (eq : q = nI p) (h : TX M n s) : PO yX7_fail I_X7_fail [.ref 313, .int c, .int q] M L dd none (fun M' L' => L' = L ∧ Ft M M' ∧ TX M' n (flP c p s) ∧ M' 313 6 = M 313 6) := by
  subst eq
  obtain ⟨t4, t5, t1, t2⟩ := h
  refine po_mk (fun Q hq => ?_)
  refine a_met (by decide +kernel) rfl rfl (Nat.le_of_ble_eq_true rfl) (by simp [Value.category]) (by decide) rfl ?_
  show AW I_X7_fail 0 [.ref 313, .int c, .int (nI p)] [] (hS M L dd) 0 0 Q
  refine r_aload_n dX7_fail_0 rfl ?_
  refine m_get 7 1 dX7_fail_1 fl_X7_34 ob_text rfl ?_
  rw [t1]
  refine r_if_ne 17 dX7_fail_4 (by decide) (fun h4 => ?_) (fun h4 => ?_)
  · exact r_vret dX7_fail_17 rfl (hq _ _ ⟨rfl, ft_r, by rw [flP, if_neg h4]; exact ⟨t4, t5, t1, t2⟩, rfl⟩)
  · refine r_aload_n dX7_fail_7 rfl ?_
    refine r_iload_n dX7_fail_8 rfl ?_
    refine m_put 7 1 dX7_fail_9 fl_X7_34 (fun r hr => by cases hr; rfl) ob_text (Nat.le_of_ble_eq_true rfl) rfl ?_
    refine r_aload_n dX7_fail_12 rfl ?_
    refine r_iload_n dX7_fail_13 rfl ?_
    refine m_put 7 2 dX7_fail_14 fl_X7_9 (fun r hr => by cases hr; rfl) ob_text (Nat.le_of_ble_eq_true rfl) rfl ?_
    exact r_vret dX7_fail_17 rfl (hq _ _ ⟨rfl, ⟨fun d hd => by simp [mU, hd], by simp [mU, upd]⟩, by rw [flP, if_pos h4]; exact ⟨by simp [mU, upd, t4], by simp [mU, upd, t5], by simp [mU, upd], by simp [mU, upd]⟩, by simp [mU, upd]⟩)
theorem c_X7_skipSpaces (hn : n ≤ 600) (h : TX M n s) (hp : s.po ≤ n) : PO yX7_skipSpaces I_X7_skipSpaces [.ref 313] M L dd none (fun M' L' => L' = L ∧ Ft M M' ∧ TX M' n ⟨s.ra, skp (M 314) n s.po, s.er, s.ea⟩ ∧ M' 313 6 = M 313 6) := by
  obtain ⟨t4, t5, t1, t2⟩ := h
  refine po_mk (fun Q hq => ?_)
  refine a_met (by decide +kernel) rfl rfl (Nat.le_of_ble_eq_true rfl) (by simp [Value.category]) (by decide) rfl ?_
  show AW I_X7_skipSpaces 0 [.ref 313] [] (hS M L dd) 0 0 Q
  have lp : ∀ k, k ≤ n → ∀ M2 : Nat → Nat → Int32, (∀ c, c ≠ 313 → M2 c = M c) → (∀ i, i ≠ 5 → M2 313 i = M 313 i) → M2 313 5 = nI k → skp (M 314) n k = skp (M 314) n s.po → AW I_X7_skipSpaces 0 [.ref 313] [] (hS M2 L dd) 0 0 Q := by
    refine lp_up _ ?_ ?_
    · intro M2 f1 f2 f3 f4 
      refine r_aload_n dX7_skipSpaces_0 rfl ?_
      refine m_get 7 5 dX7_skipSpaces_1 fl_X7_31 ob_text rfl ?_
      refine r_aload_n dX7_skipSpaces_4 rfl ?_
      refine m_get 7 4 dX7_skipSpaces_5 fl_X7_28 ob_text rfl ?_
      refine r_icmp_ge 37 dX7_skipSpaces_8 (by decide) (fun _ => ?_) (fun z => absurd (by rw [f3, f2 4 (by decide), t4]; exact nI_le (Nat.le_refl _) (by omega)) z)
      exact r_vret dX7_skipSpaces_37 rfl (hq _ _ ⟨rfl, ⟨f1, f2 0 (by decide)⟩, ⟨(f2 4 (by decide)).trans t4, by rw [f3, ← f4, show skp (M 314) n n = n from en_n (fun z => by omega)], (f2 1 (by decide)).trans t1, (f2 2 (by decide)).trans t2⟩, f2 6 (by decide)⟩)
    · intro k hk ih M2 f1 f2 f3 f4 
      have e4 : M2 313 4 = nI n := (f2 4 (by decide)).trans t4
      have e14 : M2 314 = M 314 := f1 314 (by decide)
      refine r_aload_n dX7_skipSpaces_0 rfl ?_
      refine m_get 7 5 dX7_skipSpaces_1 fl_X7_31 ob_text rfl ?_
      refine r_aload_n dX7_skipSpaces_4 rfl ?_
      refine m_get 7 4 dX7_skipSpaces_5 fl_X7_28 ob_text rfl ?_
      refine r_icmp_ge 37 dX7_skipSpaces_8 (by decide) (fun z => absurd z (by rw [f3, e4]; exact nI_ge hk (by omega))) (fun _ => ?_)
      refine r_aload_n dX7_skipSpaces_11 rfl ?_
      refine r_aload_n dX7_skipSpaces_12 rfl ?_
      refine m_get 7 5 dX7_skipSpaces_13 fl_X7_31 ob_text rfl ?_
      refine m_cv1 dX7_skipSpaces_16 cv_X7_148 (c_X7_byteAt hn e4 f3 (Nat.le_of_lt hk)) rfl ob_text ⟨_, rfl, rfl⟩ ⟨rfl, rfl⟩ (by decide) (by decide) (Nat.le_of_ble_eq_true rfl) ?_
      refine r_bipush 32 dX7_skipSpaces_19 (by decide) ?_
      rw [if_pos hk, e14]
      refine r_icmp_ne 37 dX7_skipSpaces_21 (by decide) (fun h21 => ?_) (fun h21 => ?_)
      · exact r_vret dX7_skipSpaces_37 rfl (hq _ _ ⟨rfl, ⟨f1, f2 0 (by decide)⟩, ⟨e4, by rw [f3, ← f4, show skp (M 314) n k = k from en_n (fun z => h21 (of_decide_eq_true z.2))], (f2 1 (by decide)).trans t1, (f2 2 (by decide)).trans t2⟩, f2 6 (by decide)⟩)
      · refine r_aload_n dX7_skipSpaces_24 rfl ?_
        refine r_dup dX7_skipSpaces_25 rfl ?_
        refine m_get 7 5 dX7_skipSpaces_26 fl_X7_31 ob_text rfl ?_
        refine r_iconst_1 dX7_skipSpaces_29 ?_
        refine r_iadd dX7_skipSpaces_30 ?_
        refine m_put 7 5 dX7_skipSpaces_31 fl_X7_31 (fun r hr => by cases hr; rfl) ob_text (Nat.le_of_ble_eq_true rfl) rfl ?_
        refine r_goto 0 dX7_skipSpaces_34 (by decide) ?_
        exact ih _ (fun c hc => by rw [mU_n hc]; exact f1 c hc) (fun i hi => by rw [mU_s, upd_ne hi]; exact f2 i hi) (by rw [mU_s, upd_eq, f3]; exact nI_1 _) (by rw [← f4]; exact (en_y hk (decide_eq_true h21)).symm)
  exact lp _ hp M (fun _ _ => rfl) (fun _ _ => rfl) t5 rfl
theorem c_X7_skipWord (hn : n ≤ 600) (h : TX M n s) (hp : s.po ≤ n) : PO yX7_skipWord I_X7_skipWord [.ref 313] M L dd none (fun M' L' => L' = L ∧ Ft M M' ∧ TX M' n ⟨s.ra, en cLt (M 314) n s.po, s.er, s.ea⟩ ∧ M' 313 6 = M 313 6) := by
  obtain ⟨t4, t5, t1, t2⟩ := h
  refine po_mk (fun Q hq => ?_)
  refine a_met (by decide +kernel) rfl rfl (Nat.le_of_ble_eq_true rfl) (by simp [Value.category]) (by decide) rfl ?_
  show AW I_X7_skipWord 0 [.ref 313] [] (hS M L dd) 0 0 Q
  have lp : ∀ k, k ≤ n → ∀ M2 : Nat → Nat → Int32, (∀ c, c ≠ 313 → M2 c = M c) → (∀ i, i ≠ 5 → M2 313 i = M 313 i) → M2 313 5 = nI k → en cLt (M 314) n k = en cLt (M 314) n s.po → AW I_X7_skipWord 0 [.ref 313] [] (hS M2 L dd) 0 0 Q := by
    refine lp_up _ ?_ ?_
    · intro M2 f1 f2 f3 f4 
      refine r_aload_n dX7_skipWord_0 rfl ?_
      refine m_get 7 5 dX7_skipWord_1 fl_X7_31 ob_text rfl ?_
      refine r_aload_n dX7_skipWord_4 rfl ?_
      refine m_get 7 4 dX7_skipWord_5 fl_X7_28 ob_text rfl ?_
      refine r_icmp_ge 50 dX7_skipWord_8 (by decide) (fun _ => ?_) (fun z => absurd (by rw [f3, f2 4 (by decide), t4]; exact nI_le (Nat.le_refl _) (by omega)) z)
      exact r_vret dX7_skipWord_50 rfl (hq _ _ ⟨rfl, ⟨f1, f2 0 (by decide)⟩, ⟨(f2 4 (by decide)).trans t4, by rw [f3, ← f4, show en cLt (M 314) n n = n from en_n (fun z => by omega)], (f2 1 (by decide)).trans t1, (f2 2 (by decide)).trans t2⟩, f2 6 (by decide)⟩)
    · intro k hk ih M2 f1 f2 f3 f4 
      have e4 : M2 313 4 = nI n := (f2 4 (by decide)).trans t4
      have e14 : M2 314 = M 314 := f1 314 (by decide)
      have fin : ¬ cLt (M 314 k) = true → M2 313 5 = nI (en cLt (M 314) n s.po) := fun z => by rw [f3, ← f4, show en cLt (M 314) n k = k from en_n (fun y => z y.2)]
      refine r_aload_n dX7_skipWord_0 rfl ?_
      refine m_get 7 5 dX7_skipWord_1 fl_X7_31 ob_text rfl ?_
      refine r_aload_n dX7_skipWord_4 rfl ?_
      refine m_get 7 4 dX7_skipWord_5 fl_X7_28 ob_text rfl ?_
      refine r_icmp_ge 50 dX7_skipWord_8 (by decide) (fun z => absurd z (by rw [f3, e4]; exact nI_ge hk (by omega))) (fun _ => ?_)
      refine r_aload_n dX7_skipWord_11 rfl ?_
      refine r_aload_n dX7_skipWord_12 rfl ?_
      refine m_get 7 5 dX7_skipWord_13 fl_X7_31 ob_text rfl ?_
      refine m_cv1 dX7_skipWord_16 cv_X7_148 (c_X7_byteAt hn e4 f3 (Nat.le_of_lt hk)) rfl ob_text ⟨_, rfl, rfl⟩ ⟨rfl, rfl⟩ (by decide) (by decide) (Nat.le_of_ble_eq_true rfl) ?_
      refine r_bipush 97 dX7_skipWord_19 (by decide) ?_
      rw [if_pos hk, e14]
      refine r_icmp_lt 50 dX7_skipWord_21 (by decide) (fun h21 => ?_) (fun h21 => ?_)
      · exact r_vret dX7_skipWord_50 rfl (hq _ _ ⟨rfl, ⟨f1, f2 0 (by decide)⟩, ⟨e4, fin (fun z => Int32.not_le.mpr h21 (of_decide_eq_true z).1), (f2 1 (by decide)).trans t1, (f2 2 (by decide)).trans t2⟩, f2 6 (by decide)⟩)
      · refine r_aload_n dX7_skipWord_24 rfl ?_
        refine r_aload_n dX7_skipWord_25 rfl ?_
        refine m_get 7 5 dX7_skipWord_26 fl_X7_31 ob_text rfl ?_
        refine m_cv1 dX7_skipWord_29 cv_X7_148 (c_X7_byteAt hn e4 f3 (Nat.le_of_lt hk)) rfl ob_text ⟨_, rfl, rfl⟩ ⟨rfl, rfl⟩ (by decide) (by decide) (Nat.le_of_ble_eq_true rfl) ?_
        refine r_bipush 122 dX7_skipWord_32 (by decide) ?_
        rw [if_pos hk, e14]
        refine r_icmp_gt 50 dX7_skipWord_34 (by decide) (fun h34 => ?_) (fun h34 => ?_)
        · exact r_vret dX7_skipWord_50 rfl (hq _ _ ⟨rfl, ⟨f1, f2 0 (by decide)⟩, ⟨e4, fin (fun z => Int32.not_le.mpr h34 (of_decide_eq_true z).2), (f2 1 (by decide)).trans t1, (f2 2 (by decide)).trans t2⟩, f2 6 (by decide)⟩)
        · refine r_aload_n dX7_skipWord_37 rfl ?_
          refine r_dup dX7_skipWord_38 rfl ?_
          refine m_get 7 5 dX7_skipWord_39 fl_X7_31 ob_text rfl ?_
          refine r_iconst_1 dX7_skipWord_42 ?_
          refine r_iadd dX7_skipWord_43 ?_
          refine m_put 7 5 dX7_skipWord_44 fl_X7_31 (fun r hr => by cases hr; rfl) ob_text (Nat.le_of_ble_eq_true rfl) rfl ?_
          refine r_goto 0 dX7_skipWord_47 (by decide) ?_
          exact ih _ (fun c hc => by rw [mU_n hc]; exact f1 c hc) (fun i hi => by rw [mU_s, upd_ne hi]; exact f2 i hi) (by rw [mU_s, upd_eq, f3]; exact nI_1 _) (by rw [← f4]; exact (en_y hk (decide_eq_true ⟨Int32.not_lt.mp h21, Int32.not_lt.mp h34⟩)).symm)
  exact lp _ hp M (fun _ _ => rfl) (fun _ _ => rfl) t5 rfl
theorem c_X7_isOver (hn : n ≤ 600) (h : TX M n s) (hp : s.po ≤ n) : PO yX7_isOver I_X7_isOver [.ref 313] M L dd (some (.int (bI (n ≤ skp (M 314) n s.po)))) (fun M' L' => L' = L ∧ Ft M M' ∧ TX M' n ⟨s.ra, skp (M 314) n s.po, s.er, s.ea⟩) := by
  have b1 : s.po ≤ skp (M 314) n s.po ∧ skp (M 314) n s.po ≤ n := en_b hp
  refine po_mk (fun Q hq => ?_)
  refine a_met (by decide +kernel) rfl rfl (Nat.le_of_ble_eq_true rfl) (by simp [Value.category]) (by decide) rfl ?_
  show AW I_X7_isOver 0 [.ref 313] [] (hS M L dd) 0 0 Q
  refine r_aload_n dX7_isOver_0 rfl ?_
  refine m_pv0 dX7_isOver_1 cv_X7_50 (c_X7_skipSpaces hn h hp) ob_text ⟨_, rfl, rfl⟩ ⟨rfl, rfl⟩ (by decide) (by decide) (Nat.le_of_ble_eq_true rfl) (fun M1 L1 ⟨x1, x2, x3, x4⟩ => ?_)
  subst x1
  obtain ⟨y4, y5, y1, y2⟩ := x3
  have y5 : M1 313 5 = nI (skp (M 314) n s.po) := y5
  refine r_aload_n dX7_isOver_4 rfl ?_
  refine m_get 7 5 dX7_isOver_5 fl_X7_31 ob_text rfl ?_
  refine r_aload_n dX7_isOver_8 rfl ?_
  refine m_get 7 4 dX7_isOver_9 fl_X7_28 ob_text rfl ?_
  rw [y5, y4]
  refine r_icmp_lt 19 dX7_isOver_12 (by decide) (fun h12 => ?_) (fun h12 => ?_)
  · rw [nI_ltI (by omega) (by omega)] at h12
    refine r_iconst_0 dX7_isOver_19 ?_
    exact e_zret dX7_isOver_20 rfl (hq _ _ ⟨rfl, x2, y4, y5, y1, y2⟩) (by rw [bI, if_neg (show ¬ n ≤ skp (M 314) n s.po from Nat.not_le.mpr h12)])
  · rw [nI_ltI (by omega) (by omega)] at h12
    refine r_iconst_1 dX7_isOver_15 ?_
    refine r_goto 20 dX7_isOver_16 (by decide) ?_
    exact e_zret dX7_isOver_20 rfl (hq _ _ ⟨rfl, x2, y4, y5, y1, y2⟩) (by rw [bI, if_pos (show n ≤ skp (M 314) n s.po from Nat.not_lt.mp h12)])
theorem c_X7_readSemicolon (hn : n ≤ 600) (h : TX M n s) (hp : s.po ≤ n) : PO yX7_readSemicolon I_X7_readSemicolon [.ref 313] M L dd none (fun M' L' => L' = L ∧ Ft M M' ∧ TX M' n (rdC (M 314) n s)) := by
  have b1 : s.po ≤ skp (M 314) n s.po ∧ skp (M 314) n s.po ≤ n := en_b hp
  refine po_mk (fun Q hq => ?_)
  refine a_met (by decide +kernel) rfl rfl (Nat.le_of_ble_eq_true rfl) (by simp [Value.category]) (by decide) rfl ?_
  show AW I_X7_readSemicolon 0 [.ref 313] [] (hS M L dd) 0 0 Q
  refine r_aload_n dX7_readSemicolon_0 rfl ?_
  refine m_get 7 1 dX7_readSemicolon_1 fl_X7_34 ob_text rfl ?_
  rw [h.2.2.1]
  refine r_if_eq 8 dX7_readSemicolon_4 (by decide) (fun h4 => ?_) (fun h4 => ?_)
  · refine r_aload_n dX7_readSemicolon_8 rfl ?_
    refine m_pv0 dX7_readSemicolon_9 cv_X7_50 (c_X7_skipSpaces hn h hp) ob_text ⟨_, rfl, rfl⟩ ⟨rfl, rfl⟩ (by decide) (by decide) (Nat.le_of_ble_eq_true rfl) (fun M1 L1 ⟨x1, x2, x3, x4⟩ => ?_)
    subst x1
    have y := x3
    obtain ⟨y4, y5, y1, y2⟩ := y
    have y5 : M1 313 5 = nI (skp (M 314) n s.po) := y5
    refine r_aload_n dX7_readSemicolon_12 rfl ?_
    refine r_aload_n dX7_readSemicolon_13 rfl ?_
    refine m_get 7 5 dX7_readSemicolon_14 fl_X7_31 ob_text rfl ?_
    refine m_cv1 dX7_readSemicolon_17 cv_X7_148 (c_X7_byteAt hn y4 y5 b1.2) rfl ob_text ⟨_, rfl, rfl⟩ ⟨rfl, rfl⟩ (by decide) (by decide) (Nat.le_of_ble_eq_true rfl) ?_
    refine r_bipush 59 dX7_readSemicolon_20 (by decide) ?_
    rw [x2.1 314 (by decide)]
    refine r_icmp_ne 38 dX7_readSemicolon_22 (by decide) (fun h22 => ?_) (fun h22 => ?_)
    · have hz : ¬ (skp (M 314) n s.po < n ∧ M 314 (skp (M 314) n s.po) = 59) := fun z => h22 (by rw [if_pos z.1]; exact z.2)
      refine r_aload_n dX7_readSemicolon_38 rfl ?_
      refine r_bipush (-2) dX7_readSemicolon_39 (by decide) ?_
      refine r_aload_n dX7_readSemicolon_41 rfl ?_
      refine m_get 7 5 dX7_readSemicolon_42 fl_X7_31 ob_text rfl ?_
      refine m_pv2 dX7_readSemicolon_45 cv_X7_85 (c_X7_fail y5 x3) ob_text ⟨_, rfl, rfl⟩ ⟨rfl, rfl⟩ (by decide) (by decide) (Nat.le_of_ble_eq_true rfl) (fun M2 L2 ⟨z1, z2, z3, z4⟩ => ?_)
      subst z1
      exact r_vret dX7_readSemicolon_48 rfl (hq _ _ ⟨rfl, ft_t x2 z2, by rw [rdC, if_pos h4, if_neg hz]; rw [flP, if_pos h4] at z3; exact z3⟩)
    · have hz : skp (M 314) n s.po < n ∧ M 314 (skp (M 314) n s.po) = 59 := by
        by_cases z : skp (M 314) n s.po < n
        · rw [if_pos z] at h22; exact ⟨z, h22⟩
        · rw [if_neg z] at h22; exact absurd h22 (by decide)
      refine r_aload_n dX7_readSemicolon_25 rfl ?_
      refine r_dup dX7_readSemicolon_26 rfl ?_
      refine m_get 7 5 dX7_readSemicolon_27 fl_X7_31 ob_text rfl ?_
      refine r_iconst_1 dX7_readSemicolon_30 ?_
      refine r_iadd dX7_readSemicolon_31 ?_
      refine m_put 7 5 dX7_readSemicolon_32 fl_X7_31 (fun r hr => by cases hr; rfl) ob_text (Nat.le_of_ble_eq_true rfl) rfl ?_
      refine r_goto 48 dX7_readSemicolon_35 (by decide) ?_
      exact r_vret dX7_readSemicolon_48 rfl (hq _ _ ⟨rfl, ⟨fun c hc => by rw [mU_n hc]; exact x2.1 c hc, by rw [mU_s, upd_ne (by decide)]; exact x2.2⟩, by rw [rdC, if_pos h4, if_pos hz]; exact ⟨by rw [mU_s, upd_ne (by decide)]; exact y4, by rw [mU_s, upd_eq, y5]; exact nI_1 _, by rw [mU_s, upd_ne (by decide), y1]; exact h4, by rw [mU_s, upd_ne (by decide)]; exact y2⟩⟩)
  · exact r_vret dX7_readSemicolon_7 rfl (hq _ _ ⟨rfl, ft_r, by rw [rdC, if_neg h4]; exact h⟩)
theorem c_X7_isWord {k : Nat} (hk : k < 6) (hn : n ≤ 600) (h : TX M n s) (hp : s.po ≤ n) (hs : st ≤ s.po) : AD yX7_isWord I_X7_isWord [.ref 313, .ref (5010 + k), .int (nI st)] (hS M L dd) (.inl (some (.int (bI (isW (M 314) st s.po k))))) (hS M L dd) := by
  obtain ⟨t4, t5, t1, t2⟩ := h
  have h8 : kl k < 8 := (kl_ok ⟨k, hk⟩).2.1
  intro Q hq
  refine a_met (by decide +kernel) rfl rfl (Nat.le_of_ble_eq_true rfl) (by simp [Value.category]) (by decide) rfl ?_
  show AW I_X7_isWord 0 [.ref 313, .ref (5010 + k), .int (nI st), .null] [] (hS M L dd) 0 0 Q
  refine r_aload_n dX7_isWord_0 rfl ?_
  refine m_get 7 5 dX7_isWord_1 fl_X7_31 ob_text rfl ?_
  refine r_iload_n dX7_isWord_4 rfl ?_
  refine r_isub dX7_isWord_5 ?_
  refine r_aload_n dX7_isWord_6 rfl ?_
  refine m_cx0 dX7_isWord_7 cx_X7_155 (c_J0_length hk) rfl (by assumption) rfl ⟨rfl, rfl⟩ (by decide) (by decide) (Nat.le_of_ble_eq_true rfl) ?_
  rw [t5, pk_sub hs]
  refine r_icmp_eq 15 dX7_isWord_10 (by decide) (fun h10 => ?_) (fun h10 => ?_)
  · rw [nI_eq (by omega) (by omega)] at h10
    have lp : ∀ i, i ≤ kl k → (∀ j, j < i → M 314 (st + j) = kc k j) → AW I_X7_isWord 17 [.ref 313, .ref (5010 + k), .int (nI st), .int (nI i)] [] (hS M L dd) 0 0 Q := by
      refine lp_up _ ?_ ?_
      · intro f1 
        refine r_iload_n dX7_isWord_17 rfl ?_
        refine r_aload_n dX7_isWord_18 rfl ?_
        refine m_cx0 dX7_isWord_19 cx_X7_155 (c_J0_length hk) rfl (by assumption) rfl ⟨rfl, rfl⟩ (by decide) (by decide) (Nat.le_of_ble_eq_true rfl) ?_
        refine r_icmp_ge 48 dX7_isWord_22 (by decide) (fun _ => ?_) (fun z => absurd (nI_le (Nat.le_refl _) (by omega)) z)
        refine r_iconst_1 dX7_isWord_48 ?_
        exact e_zret dX7_isWord_49 rfl hq (by rw [bI, if_pos (show isW (M 314) st s.po k from ⟨by omega, f1⟩)])
      · intro i hi ih f1 
        refine r_iload_n dX7_isWord_17 rfl ?_
        refine r_aload_n dX7_isWord_18 rfl ?_
        refine m_cx0 dX7_isWord_19 cx_X7_155 (c_J0_length hk) rfl (by assumption) rfl ⟨rfl, rfl⟩ (by decide) (by decide) (Nat.le_of_ble_eq_true rfl) ?_
        refine r_icmp_ge 48 dX7_isWord_22 (by decide) (fun z => absurd z (nI_ge hi (by omega))) (fun _ => ?_)
        refine r_aload_n dX7_isWord_25 rfl ?_
        refine r_iload_n dX7_isWord_26 rfl ?_
        refine r_iload_n dX7_isWord_27 rfl ?_
        refine r_iadd dX7_isWord_28 ?_
        refine m_cv1 dX7_isWord_29 cv_X7_148 (c_X7_byteAt hn t4 (nI_add st i) (show st + i ≤ n by omega)) rfl ob_text ⟨_, rfl, rfl⟩ ⟨rfl, rfl⟩ (by decide) (by decide) (Nat.le_of_ble_eq_true rfl) ?_
        refine r_aload_n dX7_isWord_32 rfl ?_
        refine r_iload_n dX7_isWord_33 rfl ?_
        refine m_cx1 dX7_isWord_34 cx_X7_160 (c_J0_charAt hk hi) rfl (by assumption) rfl ⟨rfl, rfl⟩ (by decide) (by decide) (Nat.le_of_ble_eq_true rfl) ?_
        rw [if_pos (show st + i < n by omega)]
        refine r_icmp_eq 42 dX7_isWord_37 (by decide) (fun h37 => ?_) (fun h37 => ?_)
        · have f2 : ∀ j, j < i + 1 → M 314 (st + j) = kc k j := by
            intro j hj
            by_cases z : j = i
            · subst z; exact h37
            · exact f1 j (by omega)
          refine s_iinc dX7_isWord_42 rfl (by decide) rfl ?_
          refine r_goto 17 dX7_isWord_45 (by decide) ?_
          exact m_sub (ih f2) (by simp [a_sub, nI_succ])
        · refine r_iconst_0 dX7_isWord_40 ?_
          exact e_zret dX7_isWord_41 rfl hq (by rw [bI, if_neg (fun z : isW (M 314) st s.po k => h37 (z.2 i hi))])
    refine r_iconst_0 dX7_isWord_15 ?_
    refine s_istore_n 3 dX7_isWord_16 (by decide) rfl rfl ?_
    exact m_sub (lp 0 (Nat.zero_le _) (fun j hj => by omega)) (by simp [a_sub, nI_0])
  · refine r_iconst_0 dX7_isWord_13 ?_
    exact e_zret dX7_isWord_14 rfl hq (by rw [bI, if_neg (fun z : isW (M 314) st s.po k => h10 (congrArg nI (by have := z.1; omega)))])
theorem c_X7_readNumber {lo hi : Int32} (hn : n ≤ 600) (h : TX M n s) (hp : s.po ≤ n) : PO yX7_readNumber I_X7_readNumber [.ref 313, .int lo, .int hi] M L dd (some (.int (rdN (M 314) n lo hi s).1)) (fun M' L' => L' = L ∧ Ft M M' ∧ TX M' n (rdN (M 314) n lo hi s).2 ∧ (s.er = 0 → M' 313 6 = nI (skp (M 314) n s.po))) := by
  have b1 : s.po ≤ skp (M 314) n s.po ∧ skp (M 314) n s.po ≤ n := en_b hp
  have b2 : skp (M 314) n s.po ≤ evP (M 314) n s ∧ evP (M 314) n s ≤ n := en_b b1.2
  refine po_mk (fun Q hq => ?_)
  refine a_met (by decide +kernel) rfl rfl (Nat.le_of_ble_eq_true rfl) (by simp [Value.category]) (by decide) rfl ?_
  show AW I_X7_readNumber 0 [.ref 313, .int lo, .int hi, .null] [] (hS M L dd) 0 0 Q
  refine r_aload_n dX7_readNumber_0 rfl ?_
  refine m_get 7 1 dX7_readNumber_1 fl_X7_34 ob_text rfl ?_
  rw [h.2.2.1]
  refine r_if_eq 9 dX7_readNumber_4 (by decide) (fun h4 => ?_) (fun h4 => ?_)
  · have hv : (rdN (M 314) n lo hi s).1 = dvP (M 314) n s := by
      rw [rdN, if_pos h4]
      split
      · rfl
      · split <;> rfl
    rw [hv] at hq
    have c84 : ∀ (M2 : Nat → Nat → Int32), Ft M M2 → TX M2 n ⟨s.ra, evP (M 314) n s, 0, s.ea⟩ → M2 313 6 = nI (skp (M 314) n s.po) → AW I_X7_readNumber 84 [.ref 313, .int lo, .int hi, .int (dvP (M 314) n s)] [] (hS M2 L dd) 0 0 Q := by
      intro M2 f2 t f6
      have y := t
      obtain ⟨y4, y5, y1, y2⟩ := y
      have y5 : M2 313 5 = nI (evP (M 314) n s) := y5
      refine r_aload_n dX7_readNumber_84 rfl ?_
      refine m_get 7 5 dX7_readNumber_85 fl_X7_31 ob_text rfl ?_
      refine r_aload_n dX7_readNumber_88 rfl ?_
      refine m_get 7 6 dX7_readNumber_89 fl_X7_117 ob_text rfl ?_
      rw [y5, f6]
      refine r_icmp_ne 108 dX7_readNumber_92 (by decide) (fun h92 => ?_) (fun h92 => ?_)
      · have ne : ¬ evP (M 314) n s = skp (M 314) n s.po := fun z => h92 (congrArg nI z)
        have c118 : dvP (M 314) n s < lo ∨ ¬ dvP (M 314) n s ≤ hi → AW I_X7_readNumber 118 [.ref 313, .int lo, .int hi, .int (dvP (M 314) n s)] [] (hS M2 L dd) 0 0 Q := by
          intro hz
          refine r_aload_n dX7_readNumber_118 rfl ?_
          refine r_bipush (-3) dX7_readNumber_119 (by decide) ?_
          refine r_aload_n dX7_readNumber_121 rfl ?_
          refine m_get 7 6 dX7_readNumber_122 fl_X7_117 ob_text rfl ?_
          refine m_pv2 dX7_readNumber_125 cv_X7_85 (c_X7_fail f6 t) ob_text ⟨_, rfl, rfl⟩ ⟨rfl, rfl⟩ (by decide) (by decide) (Nat.le_of_ble_eq_true rfl) (fun M3 L3 ⟨z1, z2, z3, z4⟩ => ?_)
          subst z1
          refine r_iload_n dX7_readNumber_128 rfl ?_
          exact r_iret dX7_readNumber_129 rfl (hq _ _ ⟨rfl, ft_t f2 z2, by rw [rdN, if_pos h4, if_neg ne, if_pos hz]; exact z3, fun _ => z4.trans f6⟩)
        refine r_iload_n dX7_readNumber_108 rfl ?_
        refine r_iload_n dX7_readNumber_109 rfl ?_
        refine r_icmp_lt 118 dX7_readNumber_110 (by decide) (fun h110 => ?_) (fun h110 => ?_)
        · exact c118 (Or.inl h110)
        · refine r_iload_n dX7_readNumber_113 rfl ?_
          refine r_iload_n dX7_readNumber_114 rfl ?_
          refine r_icmp_le 128 dX7_readNumber_115 (by decide) (fun h115 => ?_) (fun h115 => ?_)
          · refine r_iload_n dX7_readNumber_128 rfl ?_
            exact r_iret dX7_readNumber_129 rfl (hq _ _ ⟨rfl, f2, by rw [rdN, if_pos h4, if_neg ne, if_neg (fun z => z.elim h110 (fun w => w h115))]; exact t, fun _ => f6⟩)
          · exact c118 (Or.inr h115)
      · have eqq : evP (M 314) n s = skp (M 314) n s.po := (nI_eq (by omega) (by omega)).mp h92
        refine r_aload_n dX7_readNumber_95 rfl ?_
        refine r_bipush (-2) dX7_readNumber_96 (by decide) ?_
        refine r_aload_n dX7_readNumber_98 rfl ?_
        refine m_get 7 5 dX7_readNumber_99 fl_X7_31 ob_text rfl ?_
        refine m_pv2 dX7_readNumber_102 cv_X7_85 (c_X7_fail (y5.trans (congrArg nI eqq)) t) ob_text ⟨_, rfl, rfl⟩ ⟨rfl, rfl⟩ (by decide) (by decide) (Nat.le_of_ble_eq_true rfl) (fun M3 L3 ⟨z1, z2, z3, z4⟩ => ?_)
        refine r_goto 128 dX7_readNumber_105 (by decide) ?_
        subst z1
        refine r_iload_n dX7_readNumber_128 rfl ?_
        exact r_iret dX7_readNumber_129 rfl (hq _ _ ⟨rfl, ft_t f2 z2, by rw [rdN, if_pos h4, if_pos eqq]; exact z3, fun _ => z4.trans f6⟩)
    refine r_aload_n dX7_readNumber_9 rfl ?_
    refine m_pv0 dX7_readNumber_10 cv_X7_50 (c_X7_skipSpaces hn h hp) ob_text ⟨_, rfl, rfl⟩ ⟨rfl, rfl⟩ (by decide) (by decide) (Nat.le_of_ble_eq_true rfl) (fun M1 L1 ⟨x1, x2, x3, x4⟩ => ?_)
    subst x1
    obtain ⟨y4, y5, y1, y2⟩ := x3
    have lp : ∀ k, k ≤ n → ∀ M2 : Nat → Nat → Int32, Ft M M2 → TX M2 n ⟨s.ra, k, 0, s.ea⟩ → M2 313 6 = nI (skp (M 314) n s.po) → skp (M 314) n s.po ≤ k → en cDg (M 314) n k = evP (M 314) n s → AW I_X7_readNumber 23 [.ref 313, .int lo, .int hi, .int (nI (dvF (M 314) (skp (M 314) n s.po) (k - skp (M 314) n s.po)))] [] (hS M2 L1 dd) 0 0 Q := by
      refine lp_up _ ?_ ?_
      · intro M2 f2 t f6 hb he 
        rw [show en cDg (M 314) n n = n from en_n (fun z => by omega)] at he
        have k84 := c84 M2 f2 (by rw [← he]; exact t) f6
        rw [dvP, ← he] at k84
        obtain ⟨u4, u5, u1, u2⟩ := t
        have u5 : M2 313 5 = nI n := u5
        refine r_aload_n dX7_readNumber_23 rfl ?_
        refine m_get 7 5 dX7_readNumber_24 fl_X7_31 ob_text rfl ?_
        refine r_aload_n dX7_readNumber_27 rfl ?_
        refine m_get 7 4 dX7_readNumber_28 fl_X7_28 ob_text rfl ?_
        refine r_icmp_ge 84 dX7_readNumber_31 (by decide) (fun _ => ?_) (fun z => absurd (by rw [u4, u5]; exact nI_le (Nat.le_refl _) (by omega)) z)
        exact k84
      · intro k hk ih M2 f2 t f6 hb he 
        have t0 := t
        obtain ⟨u4, u5, u1, u2⟩ := t
        have u5 : M2 313 5 = nI k := u5
        have e14 : M2 314 = M 314 := f2.1 314 (by decide)
        refine r_aload_n dX7_readNumber_23 rfl ?_
        refine m_get 7 5 dX7_readNumber_24 fl_X7_31 ob_text rfl ?_
        refine r_aload_n dX7_readNumber_27 rfl ?_
        refine m_get 7 4 dX7_readNumber_28 fl_X7_28 ob_text rfl ?_
        refine r_icmp_ge 84 dX7_readNumber_31 (by decide) (fun z => absurd z (by rw [u4, u5]; exact nI_ge hk (by omega))) (fun _ => ?_)
        refine r_aload_n dX7_readNumber_34 rfl ?_
        refine r_aload_n dX7_readNumber_35 rfl ?_
        refine m_get 7 5 dX7_readNumber_36 fl_X7_31 ob_text rfl ?_
        refine m_cv1 dX7_readNumber_39 cv_X7_148 (c_X7_byteAt hn u4 u5 (Nat.le_of_lt hk)) rfl ob_text ⟨_, rfl, rfl⟩ ⟨rfl, rfl⟩ (by decide) (by decide) (Nat.le_of_ble_eq_true rfl) ?_
        refine m_cs1 dX7_readNumber_42 cs_X7_152 (c_X7_isDigit) rfl ⟨rfl, rfl⟩ (by decide) (by decide) (Nat.le_of_ble_eq_true rfl) ?_
        rw [if_pos hk, e14]
        refine r_if_eq 84 dX7_readNumber_45 (by decide) (fun h45 => ?_) (fun h45 => ?_)
        · rw [bI_0] at h45
          rw [show en cDg (M 314) n k = k from en_n (fun z => h45 (of_decide_eq_true z.2))] at he
          have k84 := c84 M2 f2 (by rw [← he]; exact t0) f6
          rw [dvP, ← he] at k84
          exact k84
        · rw [bI_0, Decidable.not_not] at h45
          have hd : cDg (M 314 k) = true := decide_eq_true h45
          refine r_sipush 10000 dX7_readNumber_48 (by decide) ?_
          refine r_iload_n dX7_readNumber_51 rfl ?_
          refine r_bipush 10 dX7_readNumber_52 (by decide) ?_
          refine r_imul dX7_readNumber_54 ?_
          refine r_aload_n dX7_readNumber_55 rfl ?_
          refine r_aload_n dX7_readNumber_56 rfl ?_
          refine m_get 7 5 dX7_readNumber_57 fl_X7_31 ob_text rfl ?_
          refine m_cv1 dX7_readNumber_60 cv_X7_148 (c_X7_byteAt hn u4 u5 (Nat.le_of_lt hk)) rfl ob_text ⟨_, rfl, rfl⟩ ⟨rfl, rfl⟩ (by decide) (by decide) (Nat.le_of_ble_eq_true rfl) ?_
          refine r_iadd dX7_readNumber_63 ?_
          refine r_bipush 48 dX7_readNumber_64 (by decide) ?_
          refine r_isub dX7_readNumber_66 ?_
          refine r_mmin dX7_readNumber_67 k_551 k_552 k_18 k_553 (by decide) (Nat.le_of_ble_eq_true rfl) ?_
          rw [if_pos hk, e14, dg_step hb hd]
          refine s_istore_n 3 dX7_readNumber_70 (by decide) rfl rfl ?_
          refine r_aload_n dX7_readNumber_71 rfl ?_
          refine r_dup dX7_readNumber_72 rfl ?_
          refine m_get 7 5 dX7_readNumber_73 fl_X7_31 ob_text rfl ?_
          refine r_iconst_1 dX7_readNumber_76 ?_
          refine r_iadd dX7_readNumber_77 ?_
          refine m_put 7 5 dX7_readNumber_78 fl_X7_31 (fun r hr => by cases hr; rfl) ob_text (Nat.le_of_ble_eq_true rfl) rfl ?_
          refine r_goto 23 dX7_readNumber_81 (by decide) ?_
          exact ih _ ⟨fun c hc => by rw [mU_n hc]; exact f2.1 c hc, by rw [mU_s, upd_ne (by decide)]; exact f2.2⟩ ⟨by rw [mU_s, upd_ne (by decide)]; exact u4, by rw [mU_s, upd_eq, u5]; exact nI_1 _, by rw [mU_s, upd_ne (by decide)]; exact u1, by rw [mU_s, upd_ne (by decide)]; exact u2⟩ (by rw [mU_s, upd_ne (by decide)]; exact f6) (by omega) (by rw [← he]; exact (en_y hk hd).symm)
    refine r_aload_n dX7_readNumber_13 rfl ?_
    refine r_aload_n dX7_readNumber_14 rfl ?_
    refine m_get 7 5 dX7_readNumber_15 fl_X7_31 ob_text rfl ?_
    refine m_put 7 6 dX7_readNumber_18 fl_X7_117 (fun r hr => by cases hr; rfl) ob_text (Nat.le_of_ble_eq_true rfl) rfl ?_
    refine r_iconst_0 dX7_readNumber_21 ?_
    refine s_istore_n 3 dX7_readNumber_22 (by decide) rfl rfl ?_
    refine m_sub (lp _ b1.2 _ ⟨fun c hc => by rw [mU_n hc]; exact x2.1 c hc, by rw [mU_s, upd_ne (by decide)]; exact x2.2⟩ ⟨by rw [mU_s, upd_ne (by decide)]; exact y4, by rw [mU_s, upd_ne (by decide)]; exact y5, by rw [mU_s, upd_ne (by decide), y1]; exact h4, by rw [mU_s, upd_ne (by decide)]; exact y2⟩ (by rw [mU_s, upd_eq]; exact y5) (Nat.le_refl _) rfl) (by simp [a_sub, dvF, nI_0])
  · have hv : rdN (M 314) n lo hi s = (-1, s) := if_neg h4
    rw [hv] at hq
    refine r_iconst_m1 dX7_readNumber_7 ?_
    exact r_iret dX7_readNumber_8 rfl (hq _ _ ⟨rfl, ft_r, h, fun z => absurd z h4⟩)
end TEXT
