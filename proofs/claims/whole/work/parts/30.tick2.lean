def hvS (a : Nat → Int32) : Nat → Int32 := if a 0 % a 1 = 0 then (fun i => if 34 ≤ i ∧ i < 34 + nu a then a i / 2 else a i) else a
def tkB (a : Nat → Int32) : Nat → Int32 := drS (hvS (wkS (upd a 0 (a 0 + 1))))
def tkOne (a : Nat → Int32) : Nat → Int32 := prS (fiS (tkB a))
theorem hv_o {a : Nat → Int32} {i : Nat} (h : i < 34 ∨ 46 ≤ i) (h12 : nu a ≤ 12) : hvS a i = a i := by
  unfold hvS
  by_cases z : a 0 % a 1 = 0
  · rw [if_pos z]; exact if_neg (by omega)
  · rw [if_neg z]
theorem wfb_hv {T B : Nat} {a : Nat → Int32} (hW : WFB T B a) (hB : B < 2 ^ 31) : WFB T B (hvS a) := by
  obtain ⟨wU, wUse, wM, wJ, wL, wS⟩ := hW
  have h12 := wU.2.2.1
  have hte : TE a (hvS a) := fun i hi => hv_o (by omega) h12
  refine ⟨te_WU hte wU, ?_, wm_c (fun i hi => hv_o (by omega) h12) wM, wj_c wU hte (hv_o (by omega) h12) (fun i hi => hv_o (by omega) h12) wJ, wl_c wU hte (hv_o (by omega) h12) (fun i hi => hv_o (by omega) h12) wL, ws_c (fun i hi => hv_o (by omega) h12) wS⟩
  rw [te_nu hte]
  have key : ∀ u, u < nu a → ∃ x, x ≤ zN (a (34 + u)) ∧ hvS a (34 + u) = nI x := by
    intro u hu
    have hle : zN (a (34 + u)) ≤ B := Nat.le_trans (sumN_le (f := fun u => zN (a (34 + u))) hu) wUse.2
    unfold hvS
    by_cases z : a 0 % a 1 = 0
    · rw [if_pos z]
      refine ⟨zN (a (34 + u)) / 2, Nat.div_le_self _ _, ?_⟩
      show (if _ then _ else _) = _
      rw [if_pos (by omega), wUse.1 u hu, show (2 : Int32) = nI 2 from rfl, pk_div (by omega) (by omega) (by omega), ← wUse.1 u hu]
    · rw [if_neg z]
      exact ⟨zN (a (34 + u)), Nat.le_refl _, wUse.1 u hu⟩
  have key2 : ∀ u, u < nu a → zN (hvS a (34 + u)) ≤ zN (a (34 + u)) ∧ hvS a (34 + u) = nI (zN (hvS a (34 + u))) := by
    intro u hu
    have hle : zN (a (34 + u)) ≤ B := Nat.le_trans (sumN_le (f := fun u => zN (a (34 + u))) hu) wUse.2
    obtain ⟨x, hx, e⟩ := key u hu
    have e2 : zN (hvS a (34 + u)) = x := by rw [e, zN, nI_clamp (by omega)]
    rw [e2]
    exact ⟨hx, e⟩
  exact ⟨fun u hu => (key2 u hu).2, Nat.le_trans (sumN_mono (fun u hu => (key2 u hu).1)) wUse.2⟩
theorem lnL_mem {a : Nat → Int32} {n : Nat} {x} (h : x ∈ lnL a n) : ∃ l, l < n ∧ x = lnT a l := by
  unfold lnL at h
  obtain ⟨l, h1, h2⟩ := List.mem_map.mp h
  exact ⟨l, List.mem_range.mp h1, h2.symm⟩
theorem dr_loan {a : Nat → Int32} (hn : a 7 = nI (nl a)) (h8 : nl a ≤ 8) {l : Nat} (hl : l < nl (drS a)) : ∃ k, k < nl a ∧ lnT (drS a) l = lnT a k := by
  obtain ⟨g1, g2, g3⟩ := drS_ok hn h8
  have h := lnL_get (a := drS a) (n := nl (drS a)) hl
  have h2 : lnT (drS a) l ∈ lnL (drS a) (nl (drS a)) := List.mem_of_getElem? h
  rw [g2] at h2
  obtain ⟨k, hk, e⟩ := lnL_mem (List.mem_filter.mp h2).1
  exact ⟨k, hk, e⟩
theorem wfb_dr {T B : Nat} {a : Nat → Int32} (hW : WFB T B a) : WFB T B (drS a) := by
  obtain ⟨wU, wUse, wM, wJ, wL, wS⟩ := hW
  have h12 := wU.2.2.1
  obtain ⟨g1, g2, g3⟩ := drS_ok wL.1 wL.2.1
  have h : ∀ i, i ≠ 7 → i < 268 → drS a i = a i := fun i h1 h2 => g3 i h1 (Or.inl h2)
  have hte : TE a (drS a) := fun i hi => h i (by omega) (by omega)
  have hlen : nl (drS a) ≤ nl a := by
    have e := congrArg List.length g2
    rw [lnL_len] at e
    have := List.length_filter_le (lvT (a 0)) (lnL a (nl a))
    rw [lnL_len] at this
    omega
  refine ⟨te_WU hte wU, ?_, wm_c (fun i hi => h i (by omega) (by omega)) wM, wj_c wU hte (h 5 (by omega) (by omega)) (fun i hi => h i (by omega) (by omega)) wJ, ⟨g1, by have := wL.2.1; omega, fun l hl => ?_, fun l hl => ?_⟩, ws_c (fun i hi => h i (by omega) (by omega)) wS⟩
  · rw [te_nu hte, sumN_cong (g := fun u => zN (a (34 + u))) (fun k hk => by rw [h (34 + k) (by omega) (by omega)])]
    exact ⟨fun u hu => by rw [h (34 + u) (by omega) (by omega)]; exact wUse.1 u hu, wUse.2⟩
  · obtain ⟨k, hk, e⟩ := dr_loan wL.1 wL.2.1 hl
    simp only [lnT, Prod.mk.injEq] at e
    obtain ⟨e0, e1, e2, e3, e4⟩ := e
    rw [te_nu hte, e0, e1, e3, e4, h 0 (by omega) (by omega)]
    simp only [te_lfS hte h12]
    exact wL.2.2.1 k hk
  · obtain ⟨k, hk, e⟩ := dr_loan wL.1 wL.2.1 hl
    simp only [lnT, Prod.mk.injEq] at e
    rw [e.2.2.1]
    exact wL.2.2.2 k hk
theorem wf_t0 {T : Nat} {a : Nat → Int32} (hW : WF T a) (hT : T < 10399) : WFB (T + 1) (30000 * zN (a 0)) (upd a 0 (a 0 + 1)) ∧ zN (upd a 0 (a 0 + 1) 0) = zN (a 0) + 1 ∧ ∀ i, i ≠ 0 → upd a 0 (a 0 + 1) i = a i := by
  obtain ⟨wU, wUse, wM, wJ, wL, wS⟩ := hW
  obtain ⟨s1, s2, s3, s4⟩ := wS
  have h12 := wU.2.2.1
  have h : ∀ i, i ≠ 0 → upd a 0 (a 0 + 1) i = a i := fun i hi => upd_ne hi
  have hte : TE a (upd a 0 (a 0 + 1)) := fun i hi => h i (by omega)
  have e0 : upd a 0 (a 0 + 1) 0 = nI (zN (a 0) + 1) := by rw [upd_eq, ← nI_1, ← s1]
  have ez : zN (upd a 0 (a 0 + 1) 0) = zN (a 0) + 1 := by rw [e0, zN, nI_clamp (by omega)]
  have hl : nl (upd a 0 (a 0 + 1)) = nl a := congrArg zN (h 7 (by omega))
  have el : ∀ l f, ln (upd a 0 (a 0 + 1)) l f = ln a l f := fun l f => h _ (by omega)
  refine ⟨⟨te_WU hte wU, ?_, wm_c (fun i hi => h i (by omega)) wM, wj_c wU hte (h 5 (by omega)) (fun i hi => h i (by omega)) wJ, ?_, ?_⟩, ez, h⟩
  · rw [te_nu hte, sumN_cong (g := fun u => zN (a (34 + u))) (fun k hk => by rw [h (34 + k) (by omega)])]
    exact ⟨fun u hu => by rw [h (34 + u) (by omega)]; exact wUse.1 u hu, wUse.2⟩
  · unfold WL
    rw [hl, h 7 (by omega), te_nu hte]
    simp only [el, te_lfS hte h12]
    refine ⟨wL.1, wL.2.1, fun l hl => ?_, wL.2.2.2⟩
    obtain ⟨f, t, b, q, u1, u2, u3, u4, u5, u6, u7, u8, u9, u10⟩ := wL.2.2.1 l hl
    exact ⟨f, t, b, q, u1, u2, u3, u4, u5, u6, u7, u8, by rw [ez]; omega, u10⟩
  · unfold WS
    rw [h 1 (by omega), h 2 (by omega), h 3 (by omega), ez]
    exact ⟨e0, by omega, by omega, s4⟩
/-- what stays of the time and the sizes -/
theorem wkStep_o {a : Nat → Int32} {j i : Nat} (hj : j < 30) (hi : i < 34 ∨ 46 ≤ i ∧ i < 58 ∨ 268 ≤ i) (hu : zN (jb a j 0) < 12) : wkStep a j i = a i := by
  unfold wkStep
  by_cases h1 : jb a j 3 = 1
  · rw [if_pos h1]
    by_cases h2 : jb a j 2 + 1 < jb a j 1
    · rw [if_pos h2, upd_ne (by omega), lay_o hj (by omega) (by omega)]
    · rw [if_neg h2, end_o hj (by omega), upd_ne (by omega), lay_o hj (by omega) (by omega)]
  · rw [if_neg h1]
    by_cases h2 : jb a j 3 = 0
    · rw [if_pos h2, lay_o hj (by omega) (by omega)]
    · rw [if_neg h2]
theorem wkF_o {T B : Nat} {a : Nat → Int32} (hW : WFB T B a) (hB : B + 30000 < 2 ^ 31) {i : Nat} (hi : i < 34 ∨ 46 ≤ i ∧ i < 58 ∨ 268 ≤ i) : ∀ k, k ≤ nj a → wkF a k i = a i := by
  intro k
  have h30 := hW.2.2.2.1.2.1
  induction k with
  | zero => intro _; rfl
  | succ k ih =>
    intro hk
    obtain ⟨w1, w2⟩ := wkF_ok hW hB k (by omega)
    obtain ⟨u, hu, hu2, -⟩ := w1.2.2.2.1.2.2.1 k (by omega)
    have h12 := w1.1.2.2.1
    rw [wkF, wkStep_o (by omega) hi (by rw [hu2, zN, nI_clamp (by omega)]; omega), ih (by omega)]
theorem wf_tkB {T : Nat} {a : Nat → Int32} (hW : WF T a) (hT : T < 10399) : WF (T + 1) (tkB a) ∧ (tkB a) 0 = a 0 + 1 := by
  obtain ⟨w1, w2, w3⟩ := wf_t0 hW hT
  have ht := hW.2.2.2.2.2.2.1
  have hB : 30000 * zN (a 0) + 30000 < 2 ^ 31 := by omega
  obtain ⟨v1, v2⟩ := wkF_ok w1 hB _ (Nat.le_refl _)
  change WFB _ _ (wkS (upd a 0 (a 0 + 1))) at v1
  have h30 := w1.2.2.2.1.2.1
  have v3 := wfb_dr (wfb_hv v1 (by omega))
  have h12 := v1.1.2.2.1
  have vL := (wfb_hv v1 (by omega)).2.2.2.2.1
  have e0 : tkB a 0 = a 0 + 1 := by
    unfold tkB
    rw [(drS_ok vL.1 vL.2.1).2.2 0 (by omega) (Or.inl (by omega)), hv_o (by omega) h12]
    exact (wkF_o w1 hB (by omega) _ (Nat.le_refl _)).trans upd_eq
  refine ⟨wf_b.mpr (wfb_le v3 ?_), e0⟩
  show _ ≤ 30000 * zN (tkB a 0)
  rw [e0]
  have e1 : zN (a 0 + 1) = zN (a 0) + 1 := by rw [← w2, upd_eq]
  rw [e1]
  omega
theorem fiF_ok {T : Nat} : ∀ n a, WF T a → WF T (fiF n a) ∧ nj (fiF n a) = nj a ∧ JE a (fiF n a) := by
  intro n
  induction n with
  | zero => intro a hW; exact ⟨hW, rfl, je_r⟩
  | succ n ih =>
    intro a hW
    rw [fiF]
    by_cases h1 : fmS a = -1
    · rw [if_pos h1]; exact ⟨hW, rfl, je_r⟩
    · rw [if_neg h1]
      by_cases h2 : bwS a = -1
      · rw [if_pos h2]; exact ⟨hW, rfl, je_r⟩
      · rw [if_neg h2]
        have h30 := hW.2.2.2.1.2.1
        have h6 := hW.2.2.1.2.1
        obtain ⟨m, hm, em, hup, -⟩ := (fmS_ok hW.2.2.1).resolve_left (fun z => h1 z.1)
        obtain ⟨j, hj, ej, hj3⟩ := (bwS_ok hW.2.2.2.1).resolve_left (fun z => h2 z.1)
        rw [ej, em, zN, nI_clamp (by omega)]
        obtain ⟨g1, g2, g3⟩ := ih _ (wf_run hW hj hm)
        exact ⟨g1, g2.trans nj_run, je_t (je_run (by omega)) g3⟩
theorem wf_fi {T : Nat} {a : Nat → Int32} (hW : WF T a) : WF T (fiS a) := (fiF_ok 30 a hW).1
theorem wf_tick {T : Nat} {a : Nat → Int32} (hW : WF T a) (hT : T < 10399) : WF (T + 1) (tkOne a) := by
  have h := wf_fi (wf_tkB hW hT).1
  exact (prF_ok h _ (Nat.le_refl _)).1
section TICK2
variable {M : Nat → Nat → Int32} {L : Nat → Nat → Int64} {dd : UInt64} {p T B : Nat} {a : Nat → Int32}
theorem c_X5_passTick (hP : PL p) (hQ : QP M p a) (hW : WF T a) (hT : T < 10399) : PO yX5_passTick I_X5_passTick [.ref p] M L dd none (fun M' L' => Fr p (p + 31) M M' ∧ FrL (p + 28) (p + 30) L L' ∧ QP M' p (tkOne a)) := by
  obtain ⟨w1, w2, w3⟩ := wf_t0 hW hT
  have ht := hW.2.2.2.2.2.2.1
  have hB : 30000 * zN (a 0) + 30000 < 2 ^ 31 := by omega
  obtain ⟨v1, v2⟩ := wkF_ok w1 hB _ (Nat.le_refl _)
  change WFB _ _ (wkS (upd a 0 (a 0 + 1))) at v1
  have e0 : wkS (upd a 0 (a 0 + 1)) 0 = a 0 + 1 := (wkF_o w1 hB (by omega) _ (Nat.le_refl _)).trans upd_eq
  have e1 : wkS (upd a 0 (a 0 + 1)) 1 = a 1 := (wkF_o w1 hB (by omega) _ (Nat.le_refl _)).trans (upd_ne (by omega))
  have h30 := w1.2.2.2.1.2.1
  have wh := wfb_hv v1 (by omega)
  obtain ⟨wt, et⟩ := wf_tkB hW hT
  have hx : tkB a = drS (hvS (wkS (upd a 0 (a 0 + 1)))) := rfl
  have qa : QP (mU M p (upd (M p) 6 (M p 6 + 1))) p (upd a 0 (a 0 + 1)) := by
    obtain ⟨qT, qB, qL, qM, qJ, qS⟩ := hQ
    have f : ∀ c, c ≠ p → mU M p (upd (M p) 6 (M p 6 + 1)) c = M c := fun c hc => mU_n hc
    refine ⟨qt_c (fun i hi => w3 i (by omega)) hW.1.2.2.1 ?_, qb_c (fun i hi => w3 i (by omega)) hW.1 ?_, ql_c (fun i hi => w3 i (by omega)) hW.2.2.2.2.1.2.1 ?_, qm_c (fun i hi => w3 i (by omega)) hW.2.2.1.2.1 ?_, qj_c (fun i hi => w3 i (by omega)) hW.2.2.2.1.2.1 ?_, ?_⟩
    · unfold QT; simp only [f _ (show p + 1 ≠ p by omega), f _ (show p + 2 ≠ p by omega), f _ (show p + 3 ≠ p by omega), f _ (show p + 4 ≠ p by omega)]; exact qT
    · unfold QB; simp only [f _ (show p + 5 ≠ p by omega)]; exact qB
    · unfold QL; simp only [f _ (show p + 6 ≠ p by omega), f _ (show p + 7 ≠ p by omega), f _ (show p + 8 ≠ p by omega), f _ (show p + 9 ≠ p by omega), f _ (show p + 10 ≠ p by omega), f _ (show p + 11 ≠ p by omega)]; exact qL
    · unfold QM; simp only [f _ (show p + 12 ≠ p by omega), f _ (show p + 13 ≠ p by omega), f _ (show p + 14 ≠ p by omega)]; exact qM
    · unfold QJ; simp only [f _ (show p + 15 ≠ p by omega), f _ (show p + 16 ≠ p by omega), f _ (show p + 17 ≠ p by omega), f _ (show p + 18 ≠ p by omega), f _ (show p + 19 ≠ p by omega), f _ (show p + 20 ≠ p by omega), f _ (show p + 21 ≠ p by omega), f _ (show p + 22 ≠ p by omega)]; exact qJ
    · unfold QS
      rw [f _ (show p + 30 ≠ p by omega), mU_s]
      exact ⟨qS.1.trans (w3 1 (by omega)).symm, qS.2.1.trans (w3 2 (by omega)).symm, qS.2.2.1.trans (w3 3 (by omega)).symm, by rw [upd_eq, upd_eq, qS.2.2.2.1], (upd_ne (by omega)).trans (qS.2.2.2.2.1.trans (w3 8 (by omega)).symm), (upd_ne (by omega)).trans (qS.2.2.2.2.2.trans (w3 9 (by omega)).symm)⟩
  refine po_mk (fun Q hq => ?_)
  refine a_met (by decide +kernel) rfl rfl (Nat.le_of_ble_eq_true rfl) (by simp [Value.category]) (by decide) rfl ?_
  show AW I_X5_passTick 0 [.ref p, .null] [] (hS M L dd) 0 0 Q
  refine r_aload_n dX5_passTick_0 rfl ?_
  refine r_dup dX5_passTick_1 rfl ?_
  refine m_get 5 6 dX5_passTick_2 fl_X5_66 (ob_place hP) rfl ?_
  refine r_iconst_1 dX5_passTick_5 ?_
  refine r_iadd dX5_passTick_6 ?_
  refine m_put 5 6 dX5_passTick_7 fl_X5_66 (fun r hr => by cases hr; rfl) (ob_place hP) (Nat.le_of_ble_eq_true rfl) rfl ?_
  refine m_abs (fun M1 => Fr p (p + 31) M M1 ∧ QP M1 p (upd a 0 (a 0 + 1))) ⟨fr_u fr_r (by omega), qa⟩ (fun M1 ⟨f1, q1⟩ => ?_)
  refine r_aload_n dX5_passTick_10 rfl ?_
  refine m_pv0 dX5_passTick_11 cv_X5_177 (c_X5_workOn hP q1 w1 hB) (ob_place hP) ⟨_, rfl, rfl⟩ ⟨rfl, rfl⟩ (by decide) (by decide) (Nat.le_of_ble_eq_true rfl) (fun M2 L2 ⟨x1, x2, x3⟩ => ?_)
  subst x1
  have f2 : Fr p (p + 31) M M2 := fr_t f1 (fr_w x2 (by omega) (by omega))
  generalize hb : wkS (upd a 0 (a 0 + 1)) = b at *
  have h12 := v1.1.2.2.1
  have key : ∀ M3 : Nat → Nat → Int32, Fr p (p + 31) M M3 → QP M3 p (hvS b) → AW I_X5_passTick 41 [.ref p, .null] [] (hS M3 L2 dd) 0 0 Q := by
    intro M3 f3 q3
    have wL := wh.2.2.2.2.1
    obtain ⟨d1, d2, d3⟩ := drS_ok wL.1 wL.2.1
    rw [hx] at wt
    have et0 : hvS b 0 = a 0 + 1 := by rw [hv_o (by omega) h12]; exact e0
    refine r_aload_n dX5_passTick_41 rfl ?_
    refine m_get 5 1 dX5_passTick_42 fl_X5_21 (ob_place hP) rfl ?_
    refine r_aload_n dX5_passTick_45 rfl ?_
    refine m_get 5 6 dX5_passTick_46 fl_X5_66 (ob_place hP) rfl ?_
    rw [q3.2.2.2.2.2.2.2.2.1]
    refine m_pv1 dX5_passTick_49 cv_X5_183 (c_X2_dropOver hP q3.2.2.1 wL.1 wL.2.1 d1 d2) (ob_loans hP) ⟨_, rfl, rfl⟩ ⟨rfl, rfl⟩ (by decide) (by decide) (Nat.le_of_ble_eq_true rfl) (fun M4 L4 ⟨y1, y2, y3⟩ => ?_)
    subst y1
    have q4 : QP M4 p (drS (hvS b)) := by
      obtain ⟨qT, qB, qL, qM, qJ, qS⟩ := q3
      exact ⟨qt_c (fun i hi => d3 i (by omega) (by omega)) wh.1.2.2.1 (rt_fr qT y2 (by omega)), qb_c (fun i hi => d3 i (by omega) (by omega)) wh.1 (qb_f y2 (by omega) qB), y3, qm_c (fun i hi => d3 i (by omega) (by omega)) wh.2.2.1.2.1 (qm_f y2 (by omega) qM), qj_c (fun i hi => d3 i (by omega) (by omega)) wh.2.2.2.1.2.1 (qj_f y2 (by omega) qJ), qs_c (fun i hi => d3 i (by omega) (by omega)) (qs_f y2 (by omega) qS)⟩
    refine r_aload_n dX5_passTick_52 rfl ?_
    refine m_get 5 4 dX5_passTick_53 fl_X5_42 (ob_place hP) rfl ?_
    refine r_aload_n dX5_passTick_56 rfl ?_
    refine m_pv1 dX5_passTick_57 cv_X5_89 (c_X6_survey hP q4 wt) (ob_scale hP) ⟨_, rfl, rfl⟩ ⟨rfl, rfl⟩ (by decide) (by decide) (Nat.le_of_ble_eq_true rfl) (fun M5 L5 ⟨z1, z2, z3, _⟩ => ?_)
    refine r_aload_n dX5_passTick_60 rfl ?_
    refine m_pv0 dX5_passTick_61 cv_X5_93 (c_X5_fillSlots hP (qp_f2 z1 q4) z3 wt) (ob_place hP) ⟨_, rfl, rfl⟩ ⟨rfl, rfl⟩ (by decide) (by decide) (Nat.le_of_ble_eq_true rfl) (fun M6 L6 ⟨u1, u2, u3, u4⟩ => ?_)
    refine r_aload_n dX5_passTick_64 rfl ?_
    refine m_pv0 dX5_passTick_65 cv_X5_186 (c_X5_preemptJobs hP u3 u4 (wf_fi wt)) (ob_place hP) ⟨_, rfl, rfl⟩ ⟨rfl, rfl⟩ (by decide) (by decide) (Nat.le_of_ble_eq_true rfl) (fun M7 L7 ⟨r1, r2, r3⟩ => ?_)
    exact r_vret dX5_passTick_68 rfl (hq _ _ ⟨fr_t f3 (fr_t (fr_w y2 (by omega) (by omega)) (fr_t (fr_w z1 (by omega) (by omega)) (fr_t (fr_w u1 (by omega) (by omega)) (fr_w r1 (by omega) (by omega))))), fr_Lt z2 (fr_Lt u2 r2), by rw [tkOne, hx]; exact r3⟩)
  have s1 := v1.2.2.2.2.2
  have eh : M2 (p + 30) 0 = nI (zN (b 1)) := x3.2.2.2.2.2.1.trans s1.2.2.2.1
  have hpos : ¬ M2 (p + 30) 0 ≤ 0 := by rw [eh]; exact nI_nle (by have := s1.2.2.2.2.1; omega) (by have := s1.2.2.2.2.2.1; omega)
  refine r_aload_n dX5_passTick_14 rfl ?_
  refine m_get 5 5 dX5_passTick_15 fl_X5_46 (ob_place hP) rfl ?_
  refine r_iconst_0 dX5_passTick_18 ?_
  refine m_iald 0 dX5_passTick_19 (ai_settings hP) rfl (by omega) (by first | decide | assumption) ?_
  refine s_istore_n 1 dX5_passTick_20 (by decide) rfl rfl ?_
  refine r_iload_n dX5_passTick_21 rfl ?_
  refine r_if_le 41 dX5_passTick_22 (by decide) (fun z => absurd z hpos) (fun _ => ?_)
  refine r_aload_n dX5_passTick_25 rfl ?_
  refine m_get 5 6 dX5_passTick_26 fl_X5_66 (ob_place hP) rfl ?_
  refine r_iload_n dX5_passTick_29 rfl ?_
  refine r_irem dX5_passTick_30 (fun z => hpos (by rw [z]; decide)) ?_
  rw [x3.2.2.2.2.2.2.2.2.1, x3.2.2.2.2.2.1]
  refine r_if_ne 41 dX5_passTick_31 (by decide) (fun h31 => ?_) (fun h31 => ?_)
  · have e : hvS b = b := by rw [hvS, if_neg h31]
    exact m_sub (key M2 f2 (by rw [e]; exact x3)) (by simp [a_sub])
  · have e : hvS b = fun i => if 34 ≤ i ∧ i < 34 + nu b then b i / 2 else b i := by rw [hvS, if_pos h31]
    refine r_aload_n dX5_passTick_34 rfl ?_
    refine m_get 5 0 dX5_passTick_35 fl_X5_12 (ob_place hP) rfl ?_
    refine m_pv0 dX5_passTick_38 cv_X5_180 (c_X8_halveUses hP x3.1 v1.1) (ob_tree hP) ⟨_, rfl, rfl⟩ ⟨rfl, rfl⟩ (by decide) (by decide) (Nat.le_of_ble_eq_true rfl) (fun M3 L3 ⟨y1, y2, y3⟩ => ?_)
    subst y1
    refine m_sub (key M3 (fr_t f2 (fr_w y2 (by omega) (by omega))) ?_) (by simp [a_sub])
    obtain ⟨qT, qB, qL, qM, qJ, qS⟩ := x3
    have ho : ∀ i, (i < 34 ∨ 46 ≤ i) → hvS b i = b i := fun i hi => hv_o hi h12
    refine ⟨⟨?_, fun k hk => ?_⟩, qb_c (fun i hi => ho i (by omega)) v1.1 (qb_f y2 (by omega) qB), ql_c (fun i hi => ho i (by omega)) v1.2.2.2.2.1.2.1 (ql_f y2 (by omega) qL), qm_c (fun i hi => ho i (by omega)) v1.2.2.1.2.1 (qm_f y2 (by omega) qM), qj_c (fun i hi => ho i (by omega)) v1.2.2.2.1.2.1 (qj_f y2 (by omega) qJ), qs_c (fun i hi => ho i (by omega)) (qs_f y2 (by omega) qS)⟩
    · rw [y2 _ (by omega), ho 4 (by omega)]; exact qT.1
    · have hk2 : k < nu b := by rw [nu, ho 4 (by omega)] at hk; exact hk
      obtain ⟨t1, t2, t3⟩ := qT.2 k hk2
      rw [y2 (p + 2) (by omega), y2 (p + 3) (by omega), y3 k hk2, t3, ho (10 + k) (by omega), ho (22 + k) (by omega), e]
      refine ⟨t1, t2, ?_⟩
      show _ = (if _ then _ else _)
      rw [if_pos (by omega)]
def lbS (a : Nat → Int32) (u : Nat) : Int32 := sumI (fun o => if lfS a o ∧ (wnS a u < wnS a o ∨ wnS a o = wnS a u ∧ o < u) then 1 else 0) (nu a)
def lkS (a : Nat → Int32) (r : Int32) : Int32 := fstB (fun u => decide (lfS a u ∧ lbS a u = r)) (nu a)
theorem lb_t {u k : Nat} (h : lfS a k ∧ (wnS a u < wnS a k ∨ wnS a k = wnS a u ∧ k < u)) : sumI (fun o => if lfS a o ∧ (wnS a u < wnS a o ∨ wnS a o = wnS a u ∧ o < u) then 1 else 0) (k + 1) = sumI (fun o => if lfS a o ∧ (wnS a u < wnS a o ∨ wnS a o = wnS a u ∧ o < u) then 1 else 0) k + 1 := by
  rw [sumI, if_pos h]
theorem lb_f {u k : Nat} (h : ¬ (lfS a k ∧ (wnS a u < wnS a k ∨ wnS a k = wnS a u ∧ k < u))) : sumI (fun o => if lfS a o ∧ (wnS a u < wnS a o ∨ wnS a o = wnS a u ∧ o < u) then 1 else 0) (k + 1) = sumI (fun o => if lfS a o ∧ (wnS a u < wnS a o ∨ wnS a o = wnS a u ∧ o < u) then 1 else 0) k := by
  rw [sumI, if_neg h, Int32.add_zero]
theorem c_X5_leavesBefore {u : Nat} (hP : PL p) (hT : QT M p a) (hC : QC M L p a) (wU : WU a) (hu : u < nu a) : AD yX5_leavesBefore I_X5_leavesBefore [.ref p, .int (nI u)] (hS M L dd) (.inl (some (.int (lbS a u)))) (hS M L dd) := by
  intro Q hq
  refine a_met (by decide +kernel) rfl rfl (Nat.le_of_ble_eq_true rfl) (by simp [Value.category]) (by decide) rfl ?_
  show AW I_X5_leavesBefore 0 [.ref p, .int (nI u), .null, .null, .null, .null, .null, .null] [] (hS M L dd) 0 0 Q
  have h12 := wU.2.2.1
  have hn := hT.1.trans wU.1
  refine r_iconst_0 dX5_leavesBefore_0 ?_
  refine s_istore_n 2 dX5_leavesBefore_1 (by decide) rfl rfl ?_
  refine r_aload_n dX5_leavesBefore_2 rfl ?_
  refine m_get 5 4 dX5_leavesBefore_3 fl_X5_42 (ob_place hP) rfl ?_
  refine r_iload_n dX5_leavesBefore_6 rfl ?_
  refine m_cv1 dX5_leavesBefore_7 cv_X5_127 (c_X6_nextWorthOf hP (by omega)) rfl (ob_scale hP) ⟨_, rfl, rfl⟩ ⟨rfl, rfl⟩ (by decide) (by decide) (Nat.le_of_ble_eq_true rfl) ?_
  rw [(hC.1 u hu).2.2.1]
  refine s_lstore_n 3 dX5_leavesBefore_10 (by decide) rfl rfl ?_
  refine r_iconst_0 dX5_leavesBefore_11 ?_
  refine s_istore dX5_leavesBefore_12 (by decide) rfl ?_
  have lp : ∀ k, k ≤ nu a → AW I_X5_leavesBefore 14 [.ref p, .int (nI u), .int (sumI (fun o => if lfS a o ∧ (wnS a u < wnS a o ∨ wnS a o = wnS a u ∧ o < u) then 1 else 0) k), .long (wnS a u), .null, .int (nI k), .null, .null] [] (hS M L dd) 0 0 Q := by
    refine lp_up _ ?_ ?_
    · refine r_iload dX5_leavesBefore_14 rfl ?_
      refine r_aload_n dX5_leavesBefore_16 rfl ?_
      refine m_get 5 0 dX5_leavesBefore_17 fl_X5_12 (ob_place hP) rfl ?_
      refine m_get 8 0 dX5_leavesBefore_20 fl_X5_202 (ob_tree hP) rfl ?_
      refine r_icmp_ge 78 dX5_leavesBefore_23 (by decide) (fun _ => ?_) (fun z => absurd (by rw [hn]; exact nI_le (Nat.le_refl _) (by omega)) z)
      refine r_iload_n dX5_leavesBefore_78 rfl ?_
      exact e_iret dX5_leavesBefore_79 rfl hq (rfl)
    · intro k hk ih 
      refine r_iload dX5_leavesBefore_14 rfl ?_
      refine r_aload_n dX5_leavesBefore_16 rfl ?_
      refine m_get 5 0 dX5_leavesBefore_17 fl_X5_12 (ob_place hP) rfl ?_
      refine m_get 8 0 dX5_leavesBefore_20 fl_X5_202 (ob_tree hP) rfl ?_
      refine r_icmp_ge 78 dX5_leavesBefore_23 (by decide) (fun z => absurd z (by rw [hn]; exact nI_ge hk (by omega))) (fun _ => ?_)
      refine r_aload_n dX5_leavesBefore_26 rfl ?_
      refine m_get 5 4 dX5_leavesBefore_27 fl_X5_42 (ob_place hP) rfl ?_
      refine r_iload dX5_leavesBefore_30 rfl ?_
      refine m_cv1 dX5_leavesBefore_32 cv_X5_127 (c_X6_nextWorthOf hP (by omega)) rfl (ob_scale hP) ⟨_, rfl, rfl⟩ ⟨rfl, rfl⟩ (by decide) (by decide) (Nat.le_of_ble_eq_true rfl) ?_
      rw [(hC.1 k hk).2.2.1]
      have hl : ∀ P : Prop, ¬ bI (lfS a k) = 0 → lfS a k := fun _ z => Decidable.not_not.mp (mt bI_0.mpr z)
      refine s_lstore dX5_leavesBefore_35 (by decide) rfl ?_
      refine r_aload_n dX5_leavesBefore_37 rfl ?_
      refine m_get 5 0 dX5_leavesBefore_38 fl_X5_12 (ob_place hP) rfl ?_
      refine r_iload dX5_leavesBefore_41 rfl ?_
      refine m_cv1 dX5_leavesBefore_43 cv_X5_203 (c_X8_isLeaf hP hT wU hk) rfl (ob_tree hP) ⟨_, rfl, rfl⟩ ⟨rfl, rfl⟩ (by decide) (by decide) (Nat.le_of_ble_eq_true rfl) ?_
      refine r_if_eq 72 dX5_leavesBefore_46 (by decide) (fun h46 => ?_) (fun h46 => ?_)
      · refine s_iinc dX5_leavesBefore_72 rfl (by decide) rfl ?_
        refine r_goto 14 dX5_leavesBefore_75 (by decide) ?_
        first | (have e := lb_f (a := a) (u := u) (k := k) (fun z => bI_0.mp h46 z.1); exact m_sub ih (by rw [e]; simp [a_sub, nI_succ])) | (have e := lb_t (a := a) (u := u) (k := k) ⟨hl True h46, Or.inl ((lg_cmp_gt _ _).mp h53)⟩; exact m_sub ih (by rw [e]; simp [a_sub, nI_succ])) | (have e := lb_f (a := a) (u := u) (k := k) (fun z => z.2.elim (fun y => h53 ((lg_cmp_gt _ _).mpr y)) (fun y => h60 ((lg_cmp_eq _ _).mpr y.1))); exact m_sub ih (by rw [e]; simp [a_sub, nI_succ])) | (rw [nI_leI (by omega) (by omega)] at h66; have e := lb_f (a := a) (u := u) (k := k) (fun z => z.2.elim (fun y => h53 ((lg_cmp_gt _ _).mpr y)) (fun y => absurd h66 (by omega))); exact m_sub ih (by rw [e]; simp [a_sub, nI_succ])) | (rw [nI_leI (by omega) (by omega)] at h66; have e := lb_t (a := a) (u := u) (k := k) ⟨hl True h46, Or.inr ⟨(lg_cmp_eq _ _).mp h60, by omega⟩⟩; exact m_sub ih (by rw [e]; simp [a_sub, nI_succ]))
      · refine r_lload dX5_leavesBefore_49 rfl ?_
        refine r_lload_n dX5_leavesBefore_51 rfl ?_
        refine r_lcmp dX5_leavesBefore_52 ?_
        refine r_if_gt 69 dX5_leavesBefore_53 (by decide) (fun h53 => ?_) (fun h53 => ?_)
        · refine s_iinc dX5_leavesBefore_69 rfl (by decide) rfl ?_
          refine s_iinc dX5_leavesBefore_72 rfl (by decide) rfl ?_
          refine r_goto 14 dX5_leavesBefore_75 (by decide) ?_
          first | (have e := lb_f (a := a) (u := u) (k := k) (fun z => bI_0.mp h46 z.1); exact m_sub ih (by rw [e]; simp [a_sub, nI_succ])) | (have e := lb_t (a := a) (u := u) (k := k) ⟨hl True h46, Or.inl ((lg_cmp_gt _ _).mp h53)⟩; exact m_sub ih (by rw [e]; simp [a_sub, nI_succ])) | (have e := lb_f (a := a) (u := u) (k := k) (fun z => z.2.elim (fun y => h53 ((lg_cmp_gt _ _).mpr y)) (fun y => h60 ((lg_cmp_eq _ _).mpr y.1))); exact m_sub ih (by rw [e]; simp [a_sub, nI_succ])) | (rw [nI_leI (by omega) (by omega)] at h66; have e := lb_f (a := a) (u := u) (k := k) (fun z => z.2.elim (fun y => h53 ((lg_cmp_gt _ _).mpr y)) (fun y => absurd h66 (by omega))); exact m_sub ih (by rw [e]; simp [a_sub, nI_succ])) | (rw [nI_leI (by omega) (by omega)] at h66; have e := lb_t (a := a) (u := u) (k := k) ⟨hl True h46, Or.inr ⟨(lg_cmp_eq _ _).mp h60, by omega⟩⟩; exact m_sub ih (by rw [e]; simp [a_sub, nI_succ]))
        · refine r_lload dX5_leavesBefore_56 rfl ?_
          refine r_lload_n dX5_leavesBefore_58 rfl ?_
          refine r_lcmp dX5_leavesBefore_59 ?_
          refine r_if_ne 72 dX5_leavesBefore_60 (by decide) (fun h60 => ?_) (fun h60 => ?_)
          · refine s_iinc dX5_leavesBefore_72 rfl (by decide) rfl ?_
            refine r_goto 14 dX5_leavesBefore_75 (by decide) ?_
            first | (have e := lb_f (a := a) (u := u) (k := k) (fun z => bI_0.mp h46 z.1); exact m_sub ih (by rw [e]; simp [a_sub, nI_succ])) | (have e := lb_t (a := a) (u := u) (k := k) ⟨hl True h46, Or.inl ((lg_cmp_gt _ _).mp h53)⟩; exact m_sub ih (by rw [e]; simp [a_sub, nI_succ])) | (have e := lb_f (a := a) (u := u) (k := k) (fun z => z.2.elim (fun y => h53 ((lg_cmp_gt _ _).mpr y)) (fun y => h60 ((lg_cmp_eq _ _).mpr y.1))); exact m_sub ih (by rw [e]; simp [a_sub, nI_succ])) | (rw [nI_leI (by omega) (by omega)] at h66; have e := lb_f (a := a) (u := u) (k := k) (fun z => z.2.elim (fun y => h53 ((lg_cmp_gt _ _).mpr y)) (fun y => absurd h66 (by omega))); exact m_sub ih (by rw [e]; simp [a_sub, nI_succ])) | (rw [nI_leI (by omega) (by omega)] at h66; have e := lb_t (a := a) (u := u) (k := k) ⟨hl True h46, Or.inr ⟨(lg_cmp_eq _ _).mp h60, by omega⟩⟩; exact m_sub ih (by rw [e]; simp [a_sub, nI_succ]))
          · refine r_iload dX5_leavesBefore_63 rfl ?_
            refine r_iload_n dX5_leavesBefore_65 rfl ?_
            refine r_icmp_ge 72 dX5_leavesBefore_66 (by decide) (fun h66 => ?_) (fun h66 => ?_)
            · refine s_iinc dX5_leavesBefore_72 rfl (by decide) rfl ?_
              refine r_goto 14 dX5_leavesBefore_75 (by decide) ?_
              first | (have e := lb_f (a := a) (u := u) (k := k) (fun z => bI_0.mp h46 z.1); exact m_sub ih (by rw [e]; simp [a_sub, nI_succ])) | (have e := lb_t (a := a) (u := u) (k := k) ⟨hl True h46, Or.inl ((lg_cmp_gt _ _).mp h53)⟩; exact m_sub ih (by rw [e]; simp [a_sub, nI_succ])) | (have e := lb_f (a := a) (u := u) (k := k) (fun z => z.2.elim (fun y => h53 ((lg_cmp_gt _ _).mpr y)) (fun y => h60 ((lg_cmp_eq _ _).mpr y.1))); exact m_sub ih (by rw [e]; simp [a_sub, nI_succ])) | (rw [nI_leI (by omega) (by omega)] at h66; have e := lb_f (a := a) (u := u) (k := k) (fun z => z.2.elim (fun y => h53 ((lg_cmp_gt _ _).mpr y)) (fun y => absurd h66 (by omega))); exact m_sub ih (by rw [e]; simp [a_sub, nI_succ])) | (rw [nI_leI (by omega) (by omega)] at h66; have e := lb_t (a := a) (u := u) (k := k) ⟨hl True h46, Or.inr ⟨(lg_cmp_eq _ _).mp h60, by omega⟩⟩; exact m_sub ih (by rw [e]; simp [a_sub, nI_succ]))
            · refine s_iinc dX5_leavesBefore_69 rfl (by decide) rfl ?_
              refine s_iinc dX5_leavesBefore_72 rfl (by decide) rfl ?_
              refine r_goto 14 dX5_leavesBefore_75 (by decide) ?_
              first | (have e := lb_f (a := a) (u := u) (k := k) (fun z => bI_0.mp h46 z.1); exact m_sub ih (by rw [e]; simp [a_sub, nI_succ])) | (have e := lb_t (a := a) (u := u) (k := k) ⟨hl True h46, Or.inl ((lg_cmp_gt _ _).mp h53)⟩; exact m_sub ih (by rw [e]; simp [a_sub, nI_succ])) | (have e := lb_f (a := a) (u := u) (k := k) (fun z => z.2.elim (fun y => h53 ((lg_cmp_gt _ _).mpr y)) (fun y => h60 ((lg_cmp_eq _ _).mpr y.1))); exact m_sub ih (by rw [e]; simp [a_sub, nI_succ])) | (rw [nI_leI (by omega) (by omega)] at h66; have e := lb_f (a := a) (u := u) (k := k) (fun z => z.2.elim (fun y => h53 ((lg_cmp_gt _ _).mpr y)) (fun y => absurd h66 (by omega))); exact m_sub ih (by rw [e]; simp [a_sub, nI_succ])) | (rw [nI_leI (by omega) (by omega)] at h66; have e := lb_t (a := a) (u := u) (k := k) ⟨hl True h46, Or.inr ⟨(lg_cmp_eq _ _).mp h60, by omega⟩⟩; exact m_sub ih (by rw [e]; simp [a_sub, nI_succ]))
  exact m_sub (lp 0 (Nat.zero_le _)) (by simp [a_sub, nI_0, sumI])
theorem c_X5_leafRanked {r : Int32} (hP : PL p) (hQ : QP M p a) (hW : WF T a) : PO yX5_leafRanked I_X5_leafRanked [.ref p, .int r] M L dd (some (.int (lkS a r))) (fun M' L' => Fr (p + 24) (p + 28) M M' ∧ FrL (p + 28) (p + 30) L L') := by
  refine po_mk (fun Q hq => ?_)
  refine a_met (by decide +kernel) rfl rfl (Nat.le_of_ble_eq_true rfl) (by simp [Value.category]) (by decide) rfl ?_
  show AW I_X5_leafRanked 0 [.ref p, .int r, .null] [] (hS M L dd) 0 0 Q
  have wU := hW.1
  have h12 := wU.2.2.1
  refine r_aload_n dX5_leafRanked_0 rfl ?_
  refine m_get 5 4 dX5_leafRanked_1 fl_X5_42 (ob_place hP) rfl ?_
  refine r_aload_n dX5_leafRanked_4 rfl ?_
  refine m_pv1 dX5_leafRanked_5 cv_X5_89 (c_X6_survey hP hQ hW) (ob_scale hP) ⟨_, rfl, rfl⟩ ⟨rfl, rfl⟩ (by decide) (by decide) (Nat.le_of_ble_eq_true rfl) (fun M1 L1 ⟨x1, x2, x3, x4⟩ => ?_)
  refine r_iconst_0 dX5_leafRanked_8 ?_
  refine s_istore_n 2 dX5_leafRanked_9 (by decide) rfl rfl ?_
  have qT := (qp_f2 x1 hQ).1
  have hn := qT.1.trans wU.1
  have lp : ∀ k, k ≤ nu a → fstB (fun u => decide (lfS a u ∧ lbS a u = r)) k = -1 → AW I_X5_leafRanked 10 [.ref p, .int r, .int (nI k)] [] (hS M1 L1 dd) 0 0 Q := by
    refine lp_up _ ?_ ?_
    · intro hz 
      refine r_iload_n dX5_leafRanked_10 rfl ?_
      refine r_aload_n dX5_leafRanked_11 rfl ?_
      refine m_get 5 0 dX5_leafRanked_12 fl_X5_12 (ob_place hP) rfl ?_
      refine m_get 8 0 dX5_leafRanked_15 fl_X5_202 (ob_tree hP) rfl ?_
      refine r_icmp_ge 49 dX5_leafRanked_18 (by decide) (fun _ => ?_) (fun z => absurd (by rw [hn]; exact nI_le (Nat.le_refl _) (by omega)) z)
      refine r_iconst_m1 dX5_leafRanked_49 ?_
      exact e_iret dX5_leafRanked_50 rfl (hq _ _ ⟨x1, x2⟩) hz.symm
    · intro k hk ih hz 
      refine r_iload_n dX5_leafRanked_10 rfl ?_
      refine r_aload_n dX5_leafRanked_11 rfl ?_
      refine m_get 5 0 dX5_leafRanked_12 fl_X5_12 (ob_place hP) rfl ?_
      refine m_get 8 0 dX5_leafRanked_15 fl_X5_202 (ob_tree hP) rfl ?_
      refine r_icmp_ge 49 dX5_leafRanked_18 (by decide) (fun z => absurd z (by rw [hn]; exact nI_ge hk (by omega))) (fun _ => ?_)
      refine r_aload_n dX5_leafRanked_21 rfl ?_
      refine m_get 5 0 dX5_leafRanked_22 fl_X5_12 (ob_place hP) rfl ?_
      refine r_iload_n dX5_leafRanked_25 rfl ?_
      refine m_cv1 dX5_leafRanked_26 cv_X5_203 (c_X8_isLeaf hP qT wU hk) rfl (ob_tree hP) ⟨_, rfl, rfl⟩ ⟨rfl, rfl⟩ (by decide) (by decide) (Nat.le_of_ble_eq_true rfl) ?_
      refine r_if_eq 43 dX5_leafRanked_29 (by decide) (fun h29 => ?_) (fun h29 => ?_)
      · refine s_iinc dX5_leafRanked_43 rfl (by decide) rfl ?_
        refine r_goto 10 dX5_leafRanked_46 (by decide) ?_
        exact m_sub (ih (fstB_s hz (decide_eq_false (by first | (rw [bI_0] at h29; exact fun z => h29 z.1) | exact fun z => h38 z.2)))) (by simp [a_sub, nI_succ])
      · refine r_aload_n dX5_leafRanked_32 rfl ?_
        refine r_iload_n dX5_leafRanked_33 rfl ?_
        refine m_cv1 dX5_leafRanked_34 cv_X5_206 (c_X5_leavesBefore hP qT x3 wU hk) rfl (ob_place hP) ⟨_, rfl, rfl⟩ ⟨rfl, rfl⟩ (by decide) (by decide) (Nat.le_of_ble_eq_true rfl) ?_
        refine r_iload_n dX5_leafRanked_37 rfl ?_
        refine r_icmp_ne 43 dX5_leafRanked_38 (by decide) (fun h38 => ?_) (fun h38 => ?_)
        · refine s_iinc dX5_leafRanked_43 rfl (by decide) rfl ?_
          refine r_goto 10 dX5_leafRanked_46 (by decide) ?_
          exact m_sub (ih (fstB_s hz (decide_eq_false (by first | (rw [bI_0] at h29; exact fun z => h29 z.1) | exact fun z => h38 z.2)))) (by simp [a_sub, nI_succ])
        · refine r_iload_n dX5_leafRanked_41 rfl ?_
          exact e_iret dX5_leafRanked_42 rfl (hq _ _ ⟨x1, x2⟩) (by rw [bI_0, Decidable.not_not] at h29; exact (fstB_at hz (decide_eq_true ⟨h29, h38⟩) hk (by omega)).symm)
  exact m_sub (lp 0 (Nat.zero_le _) rfl) (by simp [a_sub, nI_0])
end TICK2
