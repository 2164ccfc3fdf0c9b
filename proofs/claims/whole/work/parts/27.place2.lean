section PLACE2
variable {M : Nat → Nat → Int32} {L : Nat → Nat → Int64} {dd : UInt64} {p T : Nat} {a : Nat → Int32}
def prStep (a : Nat → Int32) (m : Nat) : Nat → Int32 := if bwS a = -1 then a else if lrS a m = -1 then a else if (100 + (a 2).toInt64) * wwS a (zN (jb a (zN (lrS a m)) 0)) < 100 * wnS a (zN (jb a (zN (bwS a)) 0)) then runS (intS a (zN (lrS a m))) (zN (bwS a)) (nI m) else a
def prF (a : Nat → Int32) : Nat → (Nat → Int32)
  | 0 => a
  | m + 1 => prStep (prF a m) m
def prS (a : Nat → Int32) : Nat → Int32 := prF a (nm a)
theorem prF_stop {k n : Nat} (h : bwS (prF a k) = -1) (hn : k ≤ n) : prF a n = prF a k := by
  induction n with
  | zero => rw [show k = 0 by omega]
  | succ n ih =>
    by_cases e : k = n + 1
    · rw [e]
    · rw [prF, ih (by omega), prStep, if_pos h]
theorem nm_run {j : Nat} {m : Int32} (hj : j < 30) : nm (runS a j m) = nm a := congrArg zN (je_run hj 5 (by omega))
theorem nm_int {j : Nat} (hj : j < 30) : nm (intS a j) = nm a := congrArg zN (je_int hj 5 (by omega))
/-- one machine's turn: what is done, or nothing -/
theorem pr_ok (hW : WF T a) {m : Nat} (hm : m < nm a) : prStep a m = a ∨ ∃ b r, b < nj a ∧ r < nj a ∧ b ≠ r ∧ bwS a = nI b ∧ lrS a m = nI r ∧ jb a b 3 = 0 ∧ jb a r 3 = 1 ∧ jb a r 4 = nI m ∧ jb (intS a r) b 3 = 0 ∧ prStep a m = runS (intS a r) b (nI m) ∧ WF T (prStep a m) ∧ nm (prStep a m) = nm a ∧ JE a (prStep a m) := by
  have wJ := hW.2.2.2.1
  have h30 := wJ.2.1
  rcases bwS_ok wJ with ⟨h1, -⟩ | ⟨b, hb, eb, hb3⟩
  · exact Or.inl (by rw [prStep, if_pos h1])
  rcases lrS_ok wJ m with ⟨h1, -⟩ | ⟨r, hr, er, hr3, hr4⟩
  · left; rw [prStep, if_pos h1]; exact ite_self _
  have zb : zN (nI b) = b := nI_clamp (by omega)
  have zr : zN (nI r) = r := nI_clamp (by omega)
  have hne : b ≠ r := fun z => by rw [z, hr3] at hb3; exact absurd hb3 (by decide)
  by_cases hw : (100 + (a 2).toInt64) * wwS a (zN (jb a (zN (lrS a m)) 0)) < 100 * wnS a (zN (jb a (zN (bwS a)) 0))
  · right
    have e : prStep a m = runS (intS a r) b (nI m) := by
      rw [prStep, if_neg (by rw [eb]; exact nI_m1 (by omega)), if_neg (by rw [er]; exact nI_m1 (by omega)), if_pos hw, eb, er, zb, zr]
    have hi : jb (intS a r) b 3 = 0 := by rw [jb_int (by omega), if_neg (fun z => hne z.1), if_neg (fun z => hne z.1), if_neg (fun z => hne z.1), hb3]
    refine ⟨b, r, hb, hr, hne, eb, er, hb3, hr3, hr4, hi, e, ?_, ?_, ?_⟩
    · rw [e]; exact wf_run (wf_int hW hr) (by rw [nj_int]; exact hb) (by rw [nm_int (by omega)]; exact hm)
    · rw [e, nm_run (by omega), nm_int (by omega)]
    · rw [e]; exact je_t (je_int (by omega)) (je_run (by omega))
  · left
    rw [prStep, if_neg hw, ite_self, ite_self]
theorem prF_ok (hW : WF T a) : ∀ k, k ≤ nm a → WF T (prF a k) ∧ nm (prF a k) = nm a ∧ JE a (prF a k) := by
  intro k
  induction k with
  | zero => intro _; exact ⟨hW, rfl, je_r⟩
  | succ k ih =>
    intro hk
    obtain ⟨h1, h2, h3⟩ := ih (by omega)
    rw [prF]
    rcases pr_ok h1 (m := k) (by omega) with h | ⟨b, r, -, -, -, -, -, -, -, -, -, -, h4, h5, h6⟩
    · rw [h]; exact ⟨h1, h2, h3⟩
    · exact ⟨h4, h5.trans h2, je_t h3 h6⟩
theorem c_X5_preemptJobs (hP : PL p) (hQ : QP M p a) (hC : QC M L p a) (hW : WF T a) : PO yX5_preemptJobs I_X5_preemptJobs [.ref p] M L dd none (fun M' L' => Fr p (p + 28) M M' ∧ FrL (p + 28) (p + 30) L L' ∧ QP M' p (prS a)) := by
  refine po_mk (fun Q hq => ?_)
  refine a_met (by decide +kernel) rfl rfl (Nat.le_of_ble_eq_true rfl) (by simp [Value.category]) (by decide) rfl ?_
  show AW I_X5_preemptJobs 0 [.ref p, .null, .null, .null] [] (hS M L dd) 0 0 Q
  refine r_aload_n dX5_preemptJobs_0 rfl ?_
  refine m_cv0 dX5_preemptJobs_1 cv_X5_100 (c_X5_bestWaiting hP hQ.2.2.2.2.1 hC hW.1 hW.2.2.2.1) rfl (ob_place hP) ⟨_, rfl, rfl⟩ ⟨rfl, rfl⟩ (by decide) (by decide) (Nat.le_of_ble_eq_true rfl) ?_
  refine s_istore_n 1 dX5_preemptJobs_4 (by decide) rfl rfl ?_
  refine r_iconst_0 dX5_preemptJobs_5 ?_
  refine s_istore_n 2 dX5_preemptJobs_6 (by decide) rfl rfl ?_
  have h6 := hW.2.2.1.2.1
  have lp : ∀ k, k ≤ nm a → ∀ (M' : Nat → Nat → Int32) (L' : Nat → Nat → Int64), Fr p (p + 28) M M' → FrL (p + 28) (p + 30) L L' → QP M' p (prF a k) → QC M' L' p (prF a k) → AW I_X5_preemptJobs 7 [.ref p, .int (bwS (prF a k)), .int (nI k), .null] [] (hS M' L' dd) 0 0 Q := by
    refine lp_up _ ?_ ?_
    · intro M' L' f1 f2 g1 g2 
      obtain ⟨w1, w2, w3⟩ := prF_ok hW (nm a) (Nat.le_refl _)
      have hn : M' (p + 12) 0 = nI (nm a) := by rw [g1.2.2.2.1.1, w1.2.2.1.1, w2]
      refine r_iload_n dX5_preemptJobs_7 rfl ?_
      refine r_aload_n dX5_preemptJobs_8 rfl ?_
      refine m_get 5 2 dX5_preemptJobs_9 fl_X5_28 (ob_place hP) rfl ?_
      refine m_get 3 0 dX5_preemptJobs_12 fl_X5_107 (ob_machines hP) rfl ?_
      refine r_icmp_ge 65 dX5_preemptJobs_15 (by decide) (fun _ => ?_) (fun z => absurd (by rw [hn]; exact nI_le (Nat.le_refl _) (by omega)) z)
      exact r_vret dX5_preemptJobs_65 rfl (hq _ _ ⟨f1, f2, g1⟩)
    · intro k hk ih M' L' f1 f2 g1 g2 
      obtain ⟨w1, w2, w3⟩ := prF_ok hW k (by omega)
      have hn : M' (p + 12) 0 = nI (nm a) := by rw [g1.2.2.2.1.1, w1.2.2.1.1, w2]
      have wJ := w1.2.2.2.1
      have h30 := wJ.2.1
      refine r_iload_n dX5_preemptJobs_7 rfl ?_
      refine r_aload_n dX5_preemptJobs_8 rfl ?_
      refine m_get 5 2 dX5_preemptJobs_9 fl_X5_28 (ob_place hP) rfl ?_
      refine m_get 3 0 dX5_preemptJobs_12 fl_X5_107 (ob_machines hP) rfl ?_
      refine r_icmp_ge 65 dX5_preemptJobs_15 (by decide) (fun z => absurd z (by rw [hn]; exact nI_ge hk (by omega))) (fun _ => ?_)
      refine r_iload_n dX5_preemptJobs_18 rfl ?_
      refine r_iconst_m1 dX5_preemptJobs_19 ?_
      refine r_icmp_eq 65 dX5_preemptJobs_20 (by decide) (fun h20 => ?_) (fun h20 => ?_)
      · refine r_vret dX5_preemptJobs_65 rfl (hq _ _ ⟨f1, f2, ?_⟩)
        rw [prS, prF_stop h20 (by omega)]
        exact g1
      · obtain ⟨b, hb, eb, hb3⟩ := (bwS_ok wJ).resolve_left (fun z => h20 z.1)
        refine r_aload_n dX5_preemptJobs_23 rfl ?_
        refine r_iload_n dX5_preemptJobs_24 rfl ?_
        refine m_cv1 dX5_preemptJobs_25 cv_X5_161 (c_X5_leastRunning hP g1.2.2.2.2.1 g2 w1.1 wJ) rfl (ob_place hP) ⟨_, rfl, rfl⟩ ⟨rfl, rfl⟩ (by decide) (by decide) (Nat.le_of_ble_eq_true rfl) ?_
        refine s_istore_n 3 dX5_preemptJobs_28 (by decide) rfl rfl ?_
        refine r_iload_n dX5_preemptJobs_29 rfl ?_
        refine r_iconst_m1 dX5_preemptJobs_30 ?_
        refine r_icmp_eq 59 dX5_preemptJobs_31 (by decide) (fun h31 => ?_) (fun h31 => ?_)
        · have e : prF a (k + 1) = prF a k := by rw [prF, prStep, if_neg h20, if_pos h31]
          refine s_iinc dX5_preemptJobs_59 rfl (by decide) rfl ?_
          refine r_goto 7 dX5_preemptJobs_62 (by decide) ?_
          exact m_sub (ih M' L' f1 f2 (by rw [e]; exact g1) (by rw [e]; exact g2)) (by rw [e]; simp [a_sub, nI_succ])
        · obtain ⟨r, hr, er, hr3, hr4⟩ := (lrS_ok wJ k).resolve_left (fun z => h31 z.1)
          obtain ⟨u, hu, hu2, -⟩ := wJ.2.2.1 b hb
          obtain ⟨v, hv, hv2, -⟩ := wJ.2.2.1 r hr
          have h12 := w1.1.2.2.1
          have zu : zN (jb (prF a k) b 0) = u := by rw [hu2, zN, nI_clamp (by omega)]
          have zv : zN (jb (prF a k) r 0) = v := by rw [hv2, zN, nI_clamp (by omega)]
          have zb : zN (nI b) = b := nI_clamp (by omega)
          have zr : zN (nI r) = r := nI_clamp (by omega)
          refine r_aload_n dX5_preemptJobs_34 rfl ?_
          refine r_iload_n dX5_preemptJobs_35 rfl ?_
          refine r_iload_n dX5_preemptJobs_36 rfl ?_
          rw [eb, er]
          refine m_cv2 dX5_preemptJobs_37 cv_X5_164 (c_X5_outweighs hP g1.2.2.2.2.1 g1.2.2.2.2.2 g2 w1.1 wJ w1.2.2.2.2.2 hb hr hu2 hu hv2 hv) rfl (ob_place hP) ⟨_, rfl, rfl⟩ ⟨rfl, rfl⟩ (by decide) (by decide) (Nat.le_of_ble_eq_true rfl) ?_
          refine r_if_eq 59 dX5_preemptJobs_40 (by decide) (fun h40 => ?_) (fun h40 => ?_)
          · rw [bI_0] at h40
            have e : prF a (k + 1) = prF a k := by rw [prF, prStep, if_neg h20, if_neg h31, eb, er, zb, zr, zu, zv, if_neg h40]
            refine s_iinc dX5_preemptJobs_59 rfl (by decide) rfl ?_
            refine r_goto 7 dX5_preemptJobs_62 (by decide) ?_
            exact m_sub (ih M' L' f1 f2 (by rw [e]; exact g1) (by rw [e]; exact g2)) (by rw [e, eb]; simp [a_sub, nI_succ])
          · rw [bI_0, Decidable.not_not] at h40
            have e : prF a (k + 1) = runS (intS (prF a k) r) b (nI k) := by rw [prF, prStep, if_neg h20, if_neg h31, eb, er, zb, zr, zu, zv, if_pos h40]
            have hne : b ≠ r := fun z => by rw [z, hr3] at hb3; exact absurd hb3 (by decide)
            have hi : jb (intS (prF a k) r) b 3 = 0 := by rw [jb_int (by omega), if_neg (fun z => hne z.1), if_neg (fun z => hne z.1), if_neg (fun z => hne z.1), hb3]
            refine r_aload_n dX5_preemptJobs_43 rfl ?_
            refine r_iload_n dX5_preemptJobs_44 rfl ?_
            refine m_pv1 dX5_preemptJobs_45 cv_X5_167 (c_X5_interruptJob hP g1 g2 w1 hr hr3 hr4 (by omega)) (ob_place hP) ⟨_, rfl, rfl⟩ ⟨rfl, rfl⟩ (by decide) (by decide) (Nat.le_of_ble_eq_true rfl) (fun M1 L1 ⟨x1, x2, x3, x4⟩ => ?_)
            refine r_aload_n dX5_preemptJobs_48 rfl ?_
            refine r_iload_n dX5_preemptJobs_49 rfl ?_
            refine r_iload_n dX5_preemptJobs_50 rfl ?_
            refine m_pv2 dX5_preemptJobs_51 cv_X5_103 (c_X5_startJob hP x3 x4 (wf_int w1 hr) (by rw [nj_int]; exact hb) hi (by rw [nm_int (by omega)]; omega)) (ob_place hP) ⟨_, rfl, rfl⟩ ⟨rfl, rfl⟩ (by decide) (by decide) (Nat.le_of_ble_eq_true rfl) (fun M2 L2 ⟨y1, y2, y3, y4⟩ => ?_)
            rw [← e] at y3 y4
            obtain ⟨w1', w2', w3'⟩ := prF_ok hW (k + 1) (by omega)
            refine r_aload_n dX5_preemptJobs_54 rfl ?_
            refine m_cv0 dX5_preemptJobs_55 cv_X5_100 (c_X5_bestWaiting hP y3.2.2.2.2.1 y4 w1'.1 w1'.2.2.2.1) rfl (ob_place hP) ⟨_, rfl, rfl⟩ ⟨rfl, rfl⟩ (by decide) (by decide) (Nat.le_of_ble_eq_true rfl) ?_
            refine s_istore_n 1 dX5_preemptJobs_58 (by decide) rfl rfl ?_
            refine s_iinc dX5_preemptJobs_59 rfl (by decide) rfl ?_
            refine r_goto 7 dX5_preemptJobs_62 (by decide) ?_
            exact m_sub (ih M2 L2 (fr_t f1 (fr_t x1 (fr_w y1 (by omega) (by omega)))) (fr_Lt f2 (fr_Lt x2 y2)) y3 y4) (by simp [a_sub, nI_succ])
  exact m_sub (lp 0 (Nat.zero_le _) M L fr_r fr_Lr hQ hC) (by simp [a_sub, nI_0, prF])
/-! interrupting all that runs on a machine -/
def swF (m : Nat) : Nat → (Nat → Int32) → (Nat → Int32)
  | 0, a => a
  | k + 1, a => if jb (swF m k a) k 3 = 1 ∧ jb (swF m k a) k 4 = nI m then intS (swF m k a) k else swF m k a
theorem swF_ok (hW : WF T a) {m : Nat} : ∀ k, k ≤ nj a → WF T (swF m k a) ∧ nj (swF m k a) = nj a ∧ JE a (swF m k a) := by
  intro k
  have h30 := hW.2.2.2.1.2.1
  induction k with
  | zero => intro _; exact ⟨hW, rfl, je_r⟩
  | succ k ih =>
    intro hk
    obtain ⟨h1, h2, h3⟩ := ih (by omega)
    rw [swF]
    by_cases h : jb (swF m k a) k 3 = 1 ∧ jb (swF m k a) k 4 = nI m
    · rw [if_pos h]; exact ⟨wf_int h1 (by omega), by rw [nj_int]; exact h2, je_t h3 (je_int (by omega))⟩
    · rw [if_neg h]; exact ⟨h1, h2, h3⟩
def upS (a : Nat → Int32) (m : Nat) (b : Int32) : Nat → Int32 := upd a (52 + m) (if b = 0 then 0 else 1)
def swS (a : Nat → Int32) (m : Nat) (b : Int32) : Nat → Int32 := fiS (if b = 0 then swF m (nj a) (upS a m b) else upS a m b)
theorem wf_up (hW : WF T a) {m : Nat} {b : Int32} (hm : m < nm a) : WF T (upS a m b) := by
  obtain ⟨wU, wUse, wM, wJ, wL, wS⟩ := hW
  have h6 := wM.2.1
  have h12 := wU.2.2.1
  have h : ∀ i, i ≠ 52 + m → upS a m b i = a i := fun i hi => upd_ne hi
  have hte : TE a (upS a m b) := fun i hi => h i (by omega)
  have hu : nu (upS a m b) = nu a := te_nu hte
  have hm' : nm (upS a m b) = nm a := congrArg zN (h 5 (by omega))
  have hl : nl (upS a m b) = nl a := congrArg zN (h 7 (by omega))
  have hj : nj (upS a m b) = nj a := congrArg zN (h 6 (by omega))
  have ej : ∀ j f, jb (upS a m b) j f = jb a j f := fun j f => h _ (by omega)
  have el : ∀ j f, ln (upS a m b) j f = ln a j f := fun j f => h _ (by omega)
  refine ⟨te_WU hte wU, ?_, ?_, ?_, ?_, ?_⟩
  · unfold WUse
    rw [hu, h 0 (by omega), sumN_cong (g := fun u => zN (a (34 + u))) (fun k hk => by rw [h (34 + k) (by omega)])]
    exact ⟨fun u hu => by rw [h (34 + u) (by omega)]; exact wUse.1 u hu, wUse.2⟩
  · unfold WM
    rw [hm', h 5 (by omega)]
    refine ⟨wM.1, h6, fun k hk => by rw [h (46 + k) (by omega)]; exact wM.2.2.1 k hk, fun k hk => ?_⟩
    by_cases e : k = m
    · subst e
      show upd a (52 + k) (if b = 0 then 0 else 1) (52 + k) = 0 ∨ upd a (52 + k) (if b = 0 then 0 else 1) (52 + k) = 1
      rw [upd_eq]
      by_cases z : b = 0
      · rw [if_pos z]; exact Or.inl rfl
      · rw [if_neg z]; exact Or.inr rfl
    · rw [h (52 + k) (by omega)]; exact wM.2.2.2 k hk
  · unfold WJ
    rw [hj, hu, hm', h 6 (by omega)]
    simp only [ej, te_lfS hte h12]
    exact wJ
  · unfold WL
    rw [hl, h 7 (by omega), hu, h 0 (by omega)]
    simp only [el, te_lfS hte h12]
    exact wL
  · unfold WS
    rw [h 0 (by omega), h 1 (by omega), h 2 (by omega), h 3 (by omega)]
    exact wS
theorem c_X5_switchMachine {m : Nat} {b : Int32} (hP : PL p) (hQ : QP M p a) (hW : WF T a) (hm : m < nm a) : PO yX5_switchMachine I_X5_switchMachine [.ref p, .int (nI m), .int b] M L dd none (fun M' L' => Fr p (p + 28) M M' ∧ FrL (p + 28) (p + 30) L L' ∧ QP M' p (swS a m b)) := by
  obtain ⟨qT, qB, qL, qM, qJ, qS⟩ := hQ
  have h6 := hW.2.2.1.2.1
  have h30 := hW.2.2.2.1.2.1
  have h : ∀ i, i ≠ 52 + m → upS a m b i = a i := fun i hi => upd_ne hi
  have hte : TE a (upS a m b) := fun i hi => h i (by omega)
  have w1 := wf_up (b := b) hW hm
  have hj : nj (upS a m b) = nj a := congrArg zN (h 6 (by omega))
  refine po_mk (fun Q hq => ?_)
  refine a_met (by decide +kernel) rfl rfl (Nat.le_of_ble_eq_true rfl) (by simp [Value.category]) (by decide) rfl ?_
  show AW I_X5_switchMachine 0 [.ref p, .int (nI m), .int b, .null] [] (hS M L dd) 0 0 Q
  refine r_aload_n dX5_switchMachine_0 rfl ?_
  refine m_get 5 2 dX5_switchMachine_1 fl_X5_28 (ob_place hP) rfl ?_
  refine r_iload_n dX5_switchMachine_4 rfl ?_
  refine r_iload_n dX5_switchMachine_5 rfl ?_
  refine m_pv2 dX5_switchMachine_6 cv_X5_173 (c_X3_turn hP qM hW.2.2.1.1 h6 hm) (ob_machines hP) ⟨_, rfl, rfl⟩ ⟨rfl, rfl⟩ (by decide) (by decide) (Nat.le_of_ble_eq_true rfl) (fun M1 L1 ⟨x1, x2, x3⟩ => ?_)
  subst x1
  have q1 : QP M1 p (upS a m b) := ⟨qt_c (fun i hi => h i (by omega)) hW.1.2.2.1 (rt_fr qT x2 (by omega)), qb_c hte hW.1 (qb_f x2 (by omega) qB), ql_c (fun i hi => h i (by omega)) hW.2.2.2.2.1.2.1 (ql_f x2 (by omega) qL), x3, qj_c (fun i hi => h i (by omega)) h30 (qj_f x2 (by omega) qJ), qs_c (fun i hi => h i (by omega)) (qs_f x2 (by omega) qS)⟩
  refine r_aload_n dX5_switchMachine_9 rfl ?_
  refine m_get 5 4 dX5_switchMachine_10 fl_X5_42 (ob_place hP) rfl ?_
  refine r_aload_n dX5_switchMachine_13 rfl ?_
  refine m_pv1 dX5_switchMachine_14 cv_X5_89 (c_X6_survey hP q1 w1) (ob_scale hP) ⟨_, rfl, rfl⟩ ⟨rfl, rfl⟩ (by decide) (by decide) (Nat.le_of_ble_eq_true rfl) (fun M2 L2 ⟨y1, y2, y3, _⟩ => ?_)
  refine r_iconst_0 dX5_switchMachine_17 ?_
  refine s_istore_n 3 dX5_switchMachine_18 (by decide) rfl rfl ?_
  have q2 := qp_f2 y1 q1
  by_cases hb : b = 0
  · have lp : ∀ k, k ≤ nj a → ∀ (M' : Nat → Nat → Int32) (L' : Nat → Nat → Int64), Fr p (p + 28) M M' → FrL (p + 28) (p + 30) L1 L' → QP M' p (swF m k (upS a m b)) → QC M' L' p (swF m k (upS a m b)) → AW I_X5_switchMachine 19 [.ref p, .int (nI m), .int b, .int (nI k)] [] (hS M' L' dd) 0 0 Q := by
      refine lp_up _ ?_ ?_
      · intro M' L' f1 f2 g1 g2 
        obtain ⟨v1, v2, v3⟩ := swF_ok w1 (m := m) (nj a) (by omega)
        have hn : M' (p + 15) 0 = nI (nj a) := by rw [g1.2.2.2.2.1.1, v1.2.2.2.1.1, v2, hj]
        refine r_iload_n dX5_switchMachine_19 rfl ?_
        refine r_aload_n dX5_switchMachine_20 rfl ?_
        refine m_get 5 3 dX5_switchMachine_21 fl_X5_35 (ob_place hP) rfl ?_
        refine m_get 1 0 dX5_switchMachine_24 fl_X5_120 (ob_jobs hP) rfl ?_
        refine r_icmp_ge 57 dX5_switchMachine_27 (by decide) (fun _ => ?_) (fun z => absurd (by rw [hn]; exact nI_le (Nat.le_refl _) (by omega)) z)
        refine r_aload_n dX5_switchMachine_57 rfl ?_
        refine m_pv0 dX5_switchMachine_58 cv_X5_93 (c_X5_fillSlots hP g1 g2 v1) (ob_place hP) ⟨_, rfl, rfl⟩ ⟨rfl, rfl⟩ (by decide) (by decide) (Nat.le_of_ble_eq_true rfl) (fun M3 L3 ⟨z1, z2, z3, _⟩ => ?_)
        exact r_vret dX5_switchMachine_61 rfl (hq _ _ ⟨fr_t f1 (fr_w z1 (by omega) (by omega)), fr_Lt f2 z2, by rw [swS, if_pos hb]; exact z3⟩)
      · intro k hk ih M' L' f1 f2 g1 g2 
        obtain ⟨v1, v2, v3⟩ := swF_ok w1 (m := m) k (by omega)
        have hn : M' (p + 15) 0 = nI (nj a) := by rw [g1.2.2.2.2.1.1, v1.2.2.2.1.1, v2, hj]
        have hk2 : k < nj (swF m k (upS a m b)) := by omega
        have h30' := v1.2.2.2.1.2.1
        refine r_iload_n dX5_switchMachine_19 rfl ?_
        refine r_aload_n dX5_switchMachine_20 rfl ?_
        refine m_get 5 3 dX5_switchMachine_21 fl_X5_35 (ob_place hP) rfl ?_
        refine m_get 1 0 dX5_switchMachine_24 fl_X5_120 (ob_jobs hP) rfl ?_
        refine r_icmp_ge 57 dX5_switchMachine_27 (by decide) (fun z => absurd z (by rw [hn]; exact nI_ge hk (by omega))) (fun _ => ?_)
        refine r_iload_n dX5_switchMachine_30 rfl ?_
        refine r_if_ne 57 dX5_switchMachine_31 (by decide) (fun z => absurd hb z) (fun _ => ?_)
        refine r_aload_n dX5_switchMachine_34 rfl ?_
        refine m_get 5 3 dX5_switchMachine_35 fl_X5_35 (ob_place hP) rfl ?_
        refine r_iload_n dX5_switchMachine_38 rfl ?_
        refine r_iload_n dX5_switchMachine_39 rfl ?_
        refine m_cv2 dX5_switchMachine_40 cv_X5_131 (c_X1_runsOn hP g1.2.2.2.2.1 v1.2.2.2.1.1 h30' hk2) rfl (ob_jobs hP) ⟨_, rfl, rfl⟩ ⟨rfl, rfl⟩ (by decide) (by decide) (Nat.le_of_ble_eq_true rfl) ?_
        refine r_if_eq 51 dX5_switchMachine_43 (by decide) (fun h43 => ?_) (fun h43 => ?_)
        · rw [bI_0] at h43
          have e : swF m (k + 1) (upS a m b) = swF m k (upS a m b) := by rw [swF, if_neg h43]
          refine s_iinc dX5_switchMachine_51 rfl (by decide) rfl ?_
          refine r_goto 19 dX5_switchMachine_54 (by decide) ?_
          exact m_sub (ih M' L' f1 f2 (by rw [e]; exact g1) (by rw [e]; exact g2)) (by simp [a_sub, nI_succ])
        · rw [bI_0, Decidable.not_not] at h43
          have e : swF m (k + 1) (upS a m b) = intS (swF m k (upS a m b)) k := by rw [swF, if_pos h43]
          have hm2 : m < nm (swF m k (upS a m b)) := by rw [show nm (swF m k (upS a m b)) = nm a from congrArg zN ((v3 5 (by omega)).trans (h 5 (by omega)))]; exact hm
          refine r_aload_n dX5_switchMachine_46 rfl ?_
          refine r_iload_n dX5_switchMachine_47 rfl ?_
          refine m_pv1 dX5_switchMachine_48 cv_X5_167 (c_X5_interruptJob hP g1 g2 v1 hk2 h43.1 h43.2 hm2) (ob_place hP) ⟨_, rfl, rfl⟩ ⟨rfl, rfl⟩ (by decide) (by decide) (Nat.le_of_ble_eq_true rfl) (fun M3 L3 ⟨z1, z2, z3, z4⟩ => ?_)
          refine s_iinc dX5_switchMachine_51 rfl (by decide) rfl ?_
          refine r_goto 19 dX5_switchMachine_54 (by decide) ?_
          exact m_sub (ih M3 L3 (fr_t f1 z1) (fr_Lt f2 z2) (by rw [e]; exact z3) (by rw [e]; exact z4)) (by simp [a_sub, nI_succ])
    exact m_sub (lp 0 (Nat.zero_le _) M2 L2 (fr_t (fr_w x2 (by omega) (by omega)) (fr_w y1 (by omega) (by omega))) y2 q2 y3) (by simp [a_sub, nI_0])
  · have fin : AW I_X5_switchMachine 57 [.ref p, .int (nI m), .int b, .int 0] [] (hS M2 L2 dd) 0 0 Q := by
      refine r_aload_n dX5_switchMachine_57 rfl ?_
      refine m_pv0 dX5_switchMachine_58 cv_X5_93 (c_X5_fillSlots hP q2 y3 w1) (ob_place hP) ⟨_, rfl, rfl⟩ ⟨rfl, rfl⟩ (by decide) (by decide) (Nat.le_of_ble_eq_true rfl) (fun M3 L3 ⟨z1, z2, z3, _⟩ => ?_)
      exact r_vret dX5_switchMachine_61 rfl (hq _ _ ⟨fr_t (fr_t (fr_w x2 (by omega) (by omega)) (fr_w y1 (by omega) (by omega))) (fr_w z1 (by omega) (by omega)), fr_Lt y2 z2, by rw [swS, if_neg hb]; exact z3⟩)
    refine r_iload_n dX5_switchMachine_19 rfl ?_
    refine r_aload_n dX5_switchMachine_20 rfl ?_
    refine m_get 5 3 dX5_switchMachine_21 fl_X5_35 (ob_place hP) rfl ?_
    refine m_get 1 0 dX5_switchMachine_24 fl_X5_120 (ob_jobs hP) rfl ?_
    refine r_icmp_ge 57 dX5_switchMachine_27 (by decide) (fun h27 => ?_) (fun h27 => ?_)
    · exact fin
    · refine r_iload_n dX5_switchMachine_30 rfl ?_
      refine r_if_ne 57 dX5_switchMachine_31 (by decide) (fun _ => ?_) (fun z => absurd z hb)
      exact fin
end PLACE2
