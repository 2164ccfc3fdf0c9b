section MODEL4
variable {M : Nat → Nat → Int32} {L : Nat → Nat → Int64} {dd : UInt64} {a : Nat → Int32} {T B : Nat}
theorem wv_run {j m : Nat} (h : WV a) (hj : j < 30) (hm : m < nm a) (h6 : nm a ≤ 6) (hup : a (52 + m) = 1) : WV (runS a j (nI m)) := by
  have hJE := je_run (a := a) (j := j) (m := nI m) hj
  intro k m' hk h3 hm' h4
  rw [nj_run] at hk
  rw [nm_run hj] at hm'
  rw [hJE (52 + m') (by omega)]
  by_cases z : k = j
  · subst z
    rw [jb_run (by omega), if_pos ⟨rfl, rfl⟩, nI_eq (by omega) (by omega)] at h4
    rw [← h4]; exact hup
  · rw [jb_run (by omega), if_neg (fun y => z y.1), if_neg (fun y => z y.1)] at h3 h4
    exact h k m' hk h3 hm' h4
theorem wv_int {j : Nat} (h : WV a) (hj : j < 30) (h6 : nm a ≤ 6) : WV (intS a j) := by
  have hJE := je_int (a := a) (j := j) hj
  intro k m' hk h3 hm' h4
  rw [nj_int] at hk
  rw [nm_int hj] at hm'
  rw [hJE (52 + m') (by omega)]
  by_cases z : k = j
  · subst z
    rw [jb_int (by omega), if_neg (fun y => by omega), if_pos ⟨rfl, rfl⟩] at h3
    exact absurd h3 (by decide)
  · rw [jb_int (by omega), if_neg (fun y => z y.1), if_neg (fun y => z y.1), if_neg (fun y => z y.1)] at h3 h4
    exact h k m' hk h3 hm' h4
theorem wv_fi : ∀ n a, WF T a → WV a → WV (fiF n a) := by
  intro n
  induction n with
  | zero => intro a _ h; exact h
  | succ n ih =>
    intro a hW h
    rw [fiF]
    by_cases h1 : fmS a = -1
    · rw [if_pos h1]; exact h
    · rw [if_neg h1]
      by_cases h2 : bwS a = -1
      · rw [if_pos h2]; exact h
      · rw [if_neg h2]
        have h30 := hW.2.2.2.1.2.1
        have h6 := hW.2.2.1.2.1
        obtain ⟨m, hm, em, hup, -⟩ := (fmS_ok hW.2.2.1).resolve_left (fun z => h1 z.1)
        obtain ⟨j, hj, ej, hj3⟩ := (bwS_ok hW.2.2.2.1).resolve_left (fun z => h2 z.1)
        rw [ej, em, zN, nI_clamp (by omega)]
        exact ih _ (wf_run hW hj hm) (wv_run h (by omega) hm h6 hup)
theorem wv_pr (hW : WF T a) (h : WV a) : ∀ k, k ≤ nm a → WV (prF a k) := by
  intro k
  induction k with
  | zero => intro _; exact h
  | succ k ih =>
    intro hk
    have hv := ih (by omega)
    obtain ⟨w1, w2, w3⟩ := prF_ok hW k (by omega)
    have h30 := w1.2.2.2.1.2.1
    have h6 := w1.2.2.1.2.1
    rw [prF]
    rcases pr_ok w1 (m := k) (by omega) with z | ⟨b, r, hb, hr, -, -, -, -, hr3, hr4, -, e, -, -, -⟩
    · rw [z]; exact hv
    · rw [e]
      have hup := hv r k hr hr3 (by omega) hr4
      exact wv_run (wv_int hv (by omega) h6) (by omega) (by rw [nm_int (by omega)]; omega) (by rw [nm_int (by omega)]; exact h6) (by rw [je_int (by omega) (52 + k) (by omega)]; exact hup)
theorem lr_down (hW : WF T a) (h : WV a) {m : Nat} (hm : m < nm a) (h0 : a (52 + m) = 0) : lrS a m = -1 := by
  rcases lrS_ok hW.2.2.2.1 m with ⟨z, -⟩ | ⟨r, hr, -, hr3, hr4⟩
  · exact z
  · exact absurd ((h r m hr hr3 hm hr4).symm.trans h0) (by decide)
theorem c_X10_preempts (hA : M 318 = a) (hK : MK M a) (hW : WF T a) (hV : WV a) : PO yX10_preempts I_X10_preempts [.ref 317] M L dd none (fun M' L' => L' = L ∧ Fm M M' ∧ M' 318 = prS a) := by
  have h6 := hW.2.2.1.2.1
  refine po_mk (fun Q hq => ?_)
  refine a_met (by decide +kernel) rfl rfl (Nat.le_of_ble_eq_true rfl) (by simp [Value.category]) (by decide) rfl ?_
  show AW I_X10_preempts 0 [.ref 317, .null, .null, .null] [] (hS M L dd) 0 0 Q
  refine r_iconst_0 dX10_preempts_0 ?_
  refine s_istore_n 1 dX10_preempts_1 (by decide) rfl rfl ?_
  have lp : ∀ k, k ≤ nm a → ∀ M' : Nat → Nat → Int32, Fm M M' → M' 318 = prF a k → M' 323 = M 323 → AW I_X10_preempts 2 [.ref 317, .int (nI k), .null, .null] [] (hS M' L dd) 0 0 Q := by
    refine lp_up _ ?_ ?_
    · intro M' f1 f2 f3 
      obtain ⟨w1, w2, w3⟩ := prF_ok hW (nm a) (Nat.le_refl _)
      refine r_iload_n dX10_preempts_2 rfl ?_
      refine r_aload_n dX10_preempts_3 rfl ?_
      refine m_get 10 0 dX10_preempts_4 fl_X10_7 ob_model rfl ?_
      refine r_iconst_5 dX10_preempts_7 ?_
      refine m_iald 5 dX10_preempts_8 ai_a rfl (by omega) (by first | decide | assumption) ?_
      refine r_icmp_ge 98 dX10_preempts_9 (by decide) (fun _ => ?_) (fun z => absurd (by rw [f2, w1.2.2.1.1, w2]; exact nI_le (Nat.le_refl _) (by omega)) z)
      exact r_vret dX10_preempts_98 rfl (hq _ _ ⟨rfl, f1, f2⟩)
    · intro k hk ih M' f1 f2 f3 
      obtain ⟨w1, w2, w3⟩ := prF_ok hW k (by omega)
      have wv := wv_pr hW hV k (by omega)
      have hKb : MK M' (prF a k) := mk_je hK w3 hW.1 f3
      have wJ := w1.2.2.2.1
      have h30 := wJ.2.1
      have h12 := w1.1.2.2.1
      have hx := w1.2.1.1
      have hup := w1.2.2.1.2.2.2 k (by omega)
      refine r_iload_n dX10_preempts_2 rfl ?_
      refine r_aload_n dX10_preempts_3 rfl ?_
      refine m_get 10 0 dX10_preempts_4 fl_X10_7 ob_model rfl ?_
      refine r_iconst_5 dX10_preempts_7 ?_
      refine m_iald 5 dX10_preempts_8 ai_a rfl (by omega) (by first | decide | assumption) ?_
      refine r_icmp_ge 98 dX10_preempts_9 (by decide) (fun z => absurd z (by rw [f2, w1.2.2.1.1, w2]; exact nI_ge hk (by omega))) (fun _ => ?_)
      refine r_aload_n dX10_preempts_12 rfl ?_
      refine m_get 10 0 dX10_preempts_13 fl_X10_7 ob_model rfl ?_
      refine r_bipush 52 dX10_preempts_16 (by decide) ?_
      refine r_iload_n dX10_preempts_18 rfl ?_
      refine r_iadd dX10_preempts_19 ?_
      refine m_iald (52 + k) dX10_preempts_20 ai_a (nI_add 52 k) (by omega) (by first | decide | assumption) ?_
      rw [f2]
      refine r_if_ne 27 dX10_preempts_21 (by decide) (fun h21 => ?_) (fun h21 => ?_)
      · refine r_aload_n dX10_preempts_27 rfl ?_
        refine r_iload_n dX10_preempts_28 rfl ?_
        refine m_cv1 dX10_preempts_29 cv_X10_246 (c_X10_leastRunning f2 hKb w1.1 wJ hx) rfl ob_model ⟨_, rfl, rfl⟩ ⟨rfl, rfl⟩ (by decide) (by decide) (Nat.le_of_ble_eq_true rfl) ?_
        refine s_istore_n 2 dX10_preempts_32 (by decide) rfl rfl ?_
        refine r_aload_n dX10_preempts_33 rfl ?_
        refine m_cv0 dX10_preempts_34 cv_X10_237 (c_X10_bestWaiting f2 hKb w1.1 wJ hx) rfl ob_model ⟨_, rfl, rfl⟩ ⟨rfl, rfl⟩ (by decide) (by decide) (Nat.le_of_ble_eq_true rfl) ?_
        refine s_istore_n 3 dX10_preempts_37 (by decide) rfl rfl ?_
        refine r_iload_n dX10_preempts_38 rfl ?_
        refine r_iconst_m1 dX10_preempts_39 ?_
        refine r_icmp_eq 92 dX10_preempts_40 (by decide) (fun h40 => ?_) (fun h40 => ?_)
        · have e : prF a (k + 1) = prF a k := by rw [prF, prStep, h40, if_pos rfl, ite_self]
          refine s_iinc dX10_preempts_92 rfl (by decide) rfl ?_
          refine r_goto 2 dX10_preempts_95 (by decide) ?_
          exact m_sub (ih M' f1 (by rw [e]; exact f2) f3) (by simp [a_sub, nI_succ])
        · refine r_iload_n dX10_preempts_43 rfl ?_
          refine r_iconst_m1 dX10_preempts_44 ?_
          refine r_icmp_eq 92 dX10_preempts_45 (by decide) (fun h45 => ?_) (fun h45 => ?_)
          · have e : prF a (k + 1) = prF a k := by rw [prF, prStep, if_pos h45]
            refine s_iinc dX10_preempts_92 rfl (by decide) rfl ?_
            refine r_goto 2 dX10_preempts_95 (by decide) ?_
            exact m_sub (ih M' f1 (by rw [e]; exact f2) f3) (by simp [a_sub, nI_succ])
          · obtain ⟨b, hb, eb, hb3⟩ := (bwS_ok wJ).resolve_left (fun z => h45 z.1)
            obtain ⟨r, hr, er, hr3, hr4⟩ := (lrS_ok wJ k).resolve_left (fun z => h40 z.1)
            obtain ⟨u, hu, hu2, -⟩ := wJ.2.2.1 b hb
            obtain ⟨v, hv, hv2, -⟩ := wJ.2.2.1 r hr
            have zu : zN (jb (prF a k) b 0) = u := by rw [hu2, zN, nI_clamp (by omega)]
            have zv : zN (jb (prF a k) r 0) = v := by rw [hv2, zN, nI_clamp (by omega)]
            have zb : zN (nI b) = b := nI_clamp (by omega)
            have zr : zN (nI r) = r := nI_clamp (by omega)
            refine r_ldc2 100 dX10_preempts_48 k_1565 ?_
            refine r_aload_n dX10_preempts_51 rfl ?_
            refine r_iload_n dX10_preempts_52 rfl ?_
            rw [eb]
            refine m_cv1 dX10_preempts_53 cv_X10_223 (c_X10_jobWorth0 f2 hKb w1.1 wJ hx hb hb3 hu2 hu) rfl ob_model ⟨_, rfl, rfl⟩ ⟨rfl, rfl⟩ (by decide) (by decide) (Nat.le_of_ble_eq_true rfl) ?_
            refine r_lmul dX10_preempts_56 ?_
            refine r_ldc2 100 dX10_preempts_57 k_1565 ?_
            refine r_aload_n dX10_preempts_60 rfl ?_
            refine m_get 10 0 dX10_preempts_61 fl_X10_7 ob_model rfl ?_
            refine r_iconst_2 dX10_preempts_64 ?_
            refine m_iald 2 dX10_preempts_65 ai_a rfl (by omega) (by first | decide | assumption) ?_
            refine r_i2l dX10_preempts_66 ?_
            refine r_ladd dX10_preempts_67 ?_
            refine r_aload_n dX10_preempts_68 rfl ?_
            refine r_iload_n dX10_preempts_69 rfl ?_
            rw [er, f2]
            refine m_cv1 dX10_preempts_70 cv_X10_223 (c_X10_jobWorth1 f2 hKb w1.1 wJ hx hr hr3 hv2 hv) rfl ob_model ⟨_, rfl, rfl⟩ ⟨rfl, rfl⟩ (by decide) (by decide) (Nat.le_of_ble_eq_true rfl) ?_
            refine r_lmul dX10_preempts_73 ?_
            refine r_lcmp dX10_preempts_74 ?_
            refine r_if_gt 81 dX10_preempts_75 (by decide) (fun h75 => ?_) (fun h75 => ?_)
            · rw [lg_cmp_gt] at h75
              have e : prF a (k + 1) = runS (intS (prF a k) r) b (nI k) := by rw [prF, prStep, if_neg h45, if_neg h40, eb, er, zb, zr, zu, zv, if_pos h75]
              have h3 : ¬ prF a k 3 = 0 := by
                have s := w1.2.2.2.2.2
                rw [s.2.2.2.2.2.2.2.2.1]
                exact nI_ne0 (by have := s.2.2.2.2.2.2.2.2.2.1; omega) (by have := s.2.2.2.2.2.2.2.2.2.2; omega)
              refine r_aload_n dX10_preempts_81 rfl ?_
              refine r_iload_n dX10_preempts_82 rfl ?_
              refine m_pv1 dX10_preempts_83 cv_X10_251 (c_X10_interrupts f2 (by omega) h3) ob_model ⟨_, rfl, rfl⟩ ⟨rfl, rfl⟩ (by decide) (by decide) (Nat.le_of_ble_eq_true rfl) (fun M1 L1 ⟨x1, x2⟩ => ?_)
              subst x1
              refine r_aload_n dX10_preempts_86 rfl ?_
              refine r_iload_n dX10_preempts_87 rfl ?_
              refine r_iload_n dX10_preempts_88 rfl ?_
              refine m_pv2 dX10_preempts_89 cv_X10_243 (c_X10_runs (at318 x2) (by omega)) ob_model ⟨_, rfl, rfl⟩ ⟨rfl, rfl⟩ (by decide) (by decide) (Nat.le_of_ble_eq_true rfl) (fun M2 L2 ⟨y1, y2⟩ => ?_)
              subst y1
              have e2 : M2 = mU M' 318 (prF a (k + 1)) := by rw [y2, x2, mU_mU, e]
              refine s_iinc dX10_preempts_92 rfl (by decide) rfl ?_
              refine r_goto 2 dX10_preempts_95 (by decide) ?_
              exact m_sub (ih M2 (by rw [e2]; exact fm_a f1) (at318 e2) (by rw [e2, mU_n (by omega)]; exact f3)) (by simp [a_sub, nI_succ])
            · rw [lg_cmp_gt] at h75
              have e : prF a (k + 1) = prF a k := by rw [prF, prStep, if_neg h45, if_neg h40, eb, er, zb, zr, zu, zv, if_neg h75]
              refine r_goto 92 dX10_preempts_78 (by decide) ?_
              refine s_iinc dX10_preempts_92 rfl (by decide) rfl ?_
              refine r_goto 2 dX10_preempts_95 (by decide) ?_
              exact m_sub (ih M' f1 (by rw [e]; exact f2) f3) (by simp [a_sub, nI_succ])
      · have e : prF a (k + 1) = prF a k := by rw [prF, prStep, lr_down w1 wv (by omega) h21, if_pos rfl, ite_self]
        refine r_goto 92 dX10_preempts_24 (by decide) ?_
        refine s_iinc dX10_preempts_92 rfl (by decide) rfl ?_
        refine r_goto 2 dX10_preempts_95 (by decide) ?_
        exact m_sub (ih M' f1 (by rw [e]; exact f2) f3) (by simp [a_sub, nI_succ])
  exact m_sub (lp 0 (Nat.zero_le _) M fm_r hA rfl) (by simp [a_sub, nI_0])
/-- the row while the loans behind a gone one move up -/
def shR (b : Nat → Int32) (l k : Nat) : Nat → Int32 := fun i => if i = 7 then b 7 - 1 else if 268 + 5 * l ≤ i ∧ i < k then b (i + 5) else b i
theorem c_X10_endsLoans (hA : M 318 = a) (hn : a 7 = nI (nl a)) (h8 : nl a ≤ 8) : PO yX10_endsLoans I_X10_endsLoans [.ref 317] M L dd none (fun M' L' => L' = L ∧ M' = mU M 318 (drS a)) := by
  refine po_mk (fun Q hq => ?_)
  refine a_met (by decide +kernel) rfl rfl (Nat.le_of_ble_eq_true rfl) (by simp [Value.category]) (by decide) rfl ?_
  show AW I_X10_endsLoans 0 [.ref 317, .null, .null] [] (hS M L dd) 0 0 Q
  refine r_aload_n dX10_endsLoans_0 rfl ?_
  refine m_get 10 0 dX10_endsLoans_1 fl_X10_7 ob_model rfl ?_
  refine r_bipush 7 dX10_endsLoans_4 (by decide) ?_
  refine m_iald 7 dX10_endsLoans_6 ai_a rfl (by omega) (by first | decide | assumption) ?_
  refine r_iconst_1 dX10_endsLoans_7 ?_
  rw [hA, hn]
  refine r_isub dX10_endsLoans_8 ?_
  refine s_istore_n 1 dX10_endsLoans_9 (by decide) rfl rfl ?_
  have lp : ∀ l, ∀ (b : Nat → Int32) (M' : Nat → Nat → Int32), b 7 = nI (nl b) → nl b ≤ 8 → l ≤ nl b → drD l b = drS a → M' 318 = b → (∀ c, c ≠ 318 → M' c = M c) → AW I_X10_endsLoans 10 [.ref 317, .int (nI l - 1), .null] [] (hS M' L dd) 0 0 Q := by
    intro l
    induction l with
    | zero =>
      intro b M' h1 h2 h3 h4 h5 h6
      refine r_iload_n dX10_endsLoans_10 rfl ?_
      refine r_if_lt 93 dX10_endsLoans_11 (by decide) (fun _ => ?_) (fun z => absurd (by decide) z)
      refine r_vret dX10_endsLoans_93 rfl (hq _ _ ⟨rfl, ?_⟩)
      funext c
      by_cases z : c = 318
      · subst z; rw [mU_s, h5]; exact h4
      · rw [mU_n z, h6 c z]
    | succ l ih =>
      intro b M' h1 h2 h3 h4 h5 h6
      have el : nI (l + 1) - 1 = nI l := by rw [nI_succ]; grind
      rw [el]
      rw [drD] at h4
      refine r_iload_n dX10_endsLoans_10 rfl ?_
      refine r_if_lt 93 dX10_endsLoans_11 (by decide) (fun z => absurd z (nI_pos (by omega))) (fun _ => ?_)
      refine r_aload_n dX10_endsLoans_14 rfl ?_
      refine m_get 10 0 dX10_endsLoans_15 fl_X10_7 ob_model rfl ?_
      refine r_iconst_0 dX10_endsLoans_18 ?_
      refine m_iald 0 dX10_endsLoans_19 ai_a rfl (by omega) (by first | decide | assumption) ?_
      refine r_aload_n dX10_endsLoans_20 rfl ?_
      refine r_iload_n dX10_endsLoans_21 rfl ?_
      refine m_cv1 dX10_endsLoans_22 cv_X10_211 (c_X10_goneAt h5 (by omega)) rfl ob_model ⟨_, rfl, rfl⟩ ⟨rfl, rfl⟩ (by decide) (by decide) (Nat.le_of_ble_eq_true rfl) ?_
      rw [h5]
      refine r_icmp_ge 31 dX10_endsLoans_25 (by decide) (fun h25 => ?_) (fun h25 => ?_)
      · have hg : ¬ b 0 < gnS b l := by rw [Int32.not_lt]; exact h25
        rw [if_neg hg] at h4
        have e7 := nl_er h1 (show l < nl b by omega) h2
        refine r_aload_n dX10_endsLoans_31 rfl ?_
        refine m_get 10 0 dX10_endsLoans_32 fl_X10_7 ob_model rfl ?_
        refine r_bipush 7 dX10_endsLoans_35 (by decide) ?_
        refine r_dup2 dX10_endsLoans_37 rfl rfl ?_
        refine m_iald 7 dX10_endsLoans_38 ai_a rfl (by omega) (by first | decide | assumption) ?_
        refine r_iconst_1 dX10_endsLoans_39 ?_
        refine r_isub dX10_endsLoans_40 ?_
        refine m_iast 7 dX10_endsLoans_41 ai_a rfl (by omega) (by first | decide | assumption) ?_
        refine r_sipush 268 dX10_endsLoans_42 (by decide) ?_
        refine r_iconst_5 dX10_endsLoans_45 ?_
        refine r_iload_n dX10_endsLoans_46 rfl ?_
        refine r_imul dX10_endsLoans_47 ?_
        refine r_iadd dX10_endsLoans_48 ?_
        refine s_istore_n 2 dX10_endsLoans_49 (by decide) rfl rfl ?_
        have fin : ∀ k, k ≤ 268 + 5 * (nl b - 1) → ∀ M2 : Nat → Nat → Int32, 268 + 5 * l ≤ k → M2 318 = shR b l k → (∀ c, c ≠ 318 → M2 c = M c) → AW I_X10_endsLoans 50 [.ref 317, .int (nI l), .int (nI k)] [] (hS M2 L dd) 0 0 Q := by
          have ex : ∀ x : Int32, x = nI (nl b - 1) → (268 : Int32) + 5 * x = nI (268 + 5 * (nl b - 1)) := by
            intro x hx
            rw [hx, show (268 : Int32) = nI 268 from rfl, show (5 : Int32) = nI 5 from rfl, pk_mul, nI_add]
          have e7' : ∀ k, shR b l k 7 = nI (nl b - 1) := by
            intro k
            show (if 7 = 7 then b 7 - 1 else _) = _
            rw [if_pos rfl, h1, show (1 : Int32) = nI 1 from rfl, pk_sub (by omega)]
          refine lp_up _ ?_ ?_
          · intro M2 g1 g2 g3 
            refine r_iload_n dX10_endsLoans_50 rfl ?_
            refine r_sipush 268 dX10_endsLoans_51 (by decide) ?_
            refine r_iconst_5 dX10_endsLoans_54 ?_
            refine r_aload_n dX10_endsLoans_55 rfl ?_
            refine m_get 10 0 dX10_endsLoans_56 fl_X10_7 ob_model rfl ?_
            refine r_bipush 7 dX10_endsLoans_59 (by decide) ?_
            refine m_iald 7 dX10_endsLoans_61 ai_a rfl (by omega) (by first | decide | assumption) ?_
            rw [g2, e7']
            refine r_imul dX10_endsLoans_62 ?_
            refine r_iadd dX10_endsLoans_63 ?_
            rw [ex _ rfl]
            refine r_icmp_ge 87 dX10_endsLoans_64 (by decide) (fun _ => ?_) (fun z => absurd (nI_le (Nat.le_refl _) (by omega)) z)
            refine s_iinc_m1 dX10_endsLoans_87 rfl (by decide) rfl ?_
            refine r_goto 10 dX10_endsLoans_90 (by decide) ?_
            refine m_sub (ih _ M2 ?_ ?_ ?_ h4 g2 g3) (by simp [a_sub, nI_succ, Int32.sub_eq_add_neg])
            · show shR b l _ 7 = nI (nl (erL b l)); rw [e7', e7]
            · rw [e7]; omega
            · rw [e7]; omega
          · intro k hk ih2 M2 g1 g2 g3 
            refine r_iload_n dX10_endsLoans_50 rfl ?_
            refine r_sipush 268 dX10_endsLoans_51 (by decide) ?_
            refine r_iconst_5 dX10_endsLoans_54 ?_
            refine r_aload_n dX10_endsLoans_55 rfl ?_
            refine m_get 10 0 dX10_endsLoans_56 fl_X10_7 ob_model rfl ?_
            refine r_bipush 7 dX10_endsLoans_59 (by decide) ?_
            refine m_iald 7 dX10_endsLoans_61 ai_a rfl (by omega) (by first | decide | assumption) ?_
            rw [g2, e7']
            refine r_imul dX10_endsLoans_62 ?_
            refine r_iadd dX10_endsLoans_63 ?_
            rw [ex _ rfl]
            refine r_icmp_ge 87 dX10_endsLoans_64 (by decide) (fun z => absurd z (nI_ge hk (by omega))) (fun _ => ?_)
            refine r_aload_n dX10_endsLoans_67 rfl ?_
            refine m_get 10 0 dX10_endsLoans_68 fl_X10_7 ob_model rfl ?_
            refine r_iload_n dX10_endsLoans_71 rfl ?_
            refine r_aload_n dX10_endsLoans_72 rfl ?_
            refine m_get 10 0 dX10_endsLoans_73 fl_X10_7 ob_model rfl ?_
            refine r_iload_n dX10_endsLoans_76 rfl ?_
            refine r_iconst_5 dX10_endsLoans_77 ?_
            refine r_iadd dX10_endsLoans_78 ?_
            refine m_iald (k + 5) dX10_endsLoans_79 ai_a (nI_add k 5) (by omega) (by first | decide | assumption) ?_
            refine m_iast k dX10_endsLoans_80 ai_a rfl (by omega) (by first | decide | assumption) ?_
            refine s_iinc dX10_endsLoans_81 rfl (by decide) rfl ?_
            refine r_goto 50 dX10_endsLoans_84 (by decide) ?_
            refine m_sub (ih2 _ (by omega) ?_ (fun c hc => by rw [mU_n hc]; exact g3 c hc)) (by simp [a_sub, nI_succ])
            rw [mU_s, g2]
            funext i
            unfold upd shR
            by_cases z : i = k
            · subst z
              rw [if_pos rfl, if_neg (by omega), if_neg (by omega), if_neg (by omega), if_pos (by omega)]
            · rw [if_neg z]
              by_cases z7 : i = 7
              · rw [if_pos z7, if_pos z7]
              · rw [if_neg z7, if_neg z7]
                by_cases z8 : 268 + 5 * l ≤ i ∧ i < k
                · rw [if_pos z8, if_pos (by omega)]
                · rw [if_neg z8, if_neg (by omega)]
        refine m_sub (fin (268 + 5 * l) (by omega) _ (Nat.le_refl _) ?_ (fun c hc => by rw [mU_n hc]; exact h6 c hc)) ?_
        · rw [mU_s, h5]
          funext i
          unfold upd shR
          by_cases z : i = 7
          · rw [if_pos z, if_pos z]
          · rw [if_neg z, if_neg z, if_neg (by omega)]
        · have e := ix_l l 0
          rw [show (nI 0 : Int32) = 0 from rfl, Int32.add_zero] at e
          simp [a_sub, e]
      · have hg : b 0 < gnS b l := by rw [← Int32.not_le]; exact h25
        rw [if_pos hg] at h4
        refine r_goto 87 dX10_endsLoans_28 (by decide) ?_
        refine s_iinc_m1 dX10_endsLoans_87 rfl (by decide) rfl ?_
        refine r_goto 10 dX10_endsLoans_90 (by decide) ?_
        exact m_sub (ih b M' h1 h2 (by omega) h4 h5 h6) (by simp [a_sub, Int32.sub_eq_add_neg])
  exact m_sub (lp (nl a) a M hn h8 (Nat.le_refl _) rfl hA (fun _ _ => rfl)) (by simp [a_sub])
end MODEL4
