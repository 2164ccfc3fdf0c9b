/-- as WF, the bound of the uses by itself -/
def WFB (T B : Nat) (a : Nat → Int32) : Prop := WU a ∧ ((∀ u, u < nu a → a (34 + u) = nI (zN (a (34 + u)))) ∧ sumN (fun u => zN (a (34 + u))) (nu a) ≤ B) ∧ WM a ∧ WJ a ∧ WL a ∧ WS T a
theorem wf_b {T : Nat} {a : Nat → Int32} : WF T a ↔ WFB T (30000 * zN (a 0)) a := Iff.rfl
theorem wfb_le {T B B' : Nat} {a : Nat → Int32} (h : WFB T B a) (hB : B ≤ B') : WFB T B' a := ⟨h.1, ⟨h.2.1.1, Nat.le_trans h.2.1.2 hB⟩, h.2.2⟩
theorem wm_c {a b : Nat → Int32} (h : ∀ i, (i = 5 ∨ 46 ≤ i ∧ i < 58) → b i = a i) (w : WM a) : WM b := by
  have hm : nm b = nm a := congrArg zN (h 5 (by omega))
  have h6 := w.2.1
  unfold WM
  rw [hm, h 5 (by omega)]
  exact ⟨w.1, h6, fun m hm => by rw [h (46 + m) (by omega)]; exact w.2.2.1 m hm, fun m hm => by rw [h (52 + m) (by omega)]; exact w.2.2.2 m hm⟩
theorem wl_c {a b : Nat → Int32} (wU : WU a) (h : TE a b) (h0 : b 0 = a 0) (h2 : ∀ i, (i = 7 ∨ 268 ≤ i) → b i = a i) (w : WL a) : WL b := by
  have hl : nl b = nl a := congrArg zN (h2 7 (by omega))
  have el : ∀ l f, ln b l f = ln a l f := fun l f => h2 _ (by omega)
  unfold WL
  rw [hl, h2 7 (by omega), te_nu h, h0]
  simp only [el, te_lfS h wU.2.2.1]
  exact w
theorem ws_c {T : Nat} {a b : Nat → Int32} (h : ∀ i, i < 4 → b i = a i) (w : WS T a) : WS T b := by
  unfold WS
  rw [h 0 (by omega), h 1 (by omega), h 2 (by omega), h 3 (by omega)]
  exact w
theorem wj_ch2 {a b : Nat → Int32} (wU : WU a) (wJ : WJ a) (h : TE a b) (h5 : b 5 = a 5) (h6 : b 6 = a 6) (j : Nat) (hne : ∀ k g, k ≠ j → g < 7 → jb b k g = jb a k g) (h0 : jb b j 0 = jb a j 0) (h3 : jb b j 3 = 0 ∨ jb b j 3 = 1 ∨ jb b j 3 = 2 ∨ jb b j 3 = 3) (h4 : jb b j 3 = 1 → ∃ m, m < nm a ∧ jb b j 4 = nI m) : WJ b := by
  have hj6 : nj b = nj a := congrArg zN h6
  have hm : nm b = nm a := congrArg zN h5
  unfold WJ
  rw [hj6, te_nu h, hm, h6]
  refine ⟨wJ.1, wJ.2.1, fun k hk => ?_, fun k hk => ?_, fun k hk hs => ?_⟩
  · have e : jb b k 0 = jb a k 0 := by
      by_cases z : k = j
      · rw [z]; exact h0
      · exact hne k 0 z (by omega)
    rw [e]
    obtain ⟨u, u1, u2, u3⟩ := wJ.2.2.1 k hk
    exact ⟨u, u1, u2, (te_lfS h wU.2.2.1 u).mpr u3⟩
  · by_cases z : k = j
    · rw [z]; exact h3
    · rw [hne k 3 z (by omega)]; exact wJ.2.2.2.1 k hk
  · by_cases z : k = j
    · rw [z] at hs ⊢; exact h4 hs
    · rw [hne k 3 z (by omega)] at hs
      rw [hne k 4 z (by omega)]
      exact wJ.2.2.2.2 k hk hs
theorem wj_c {a b : Nat → Int32} (wU : WU a) (h : TE a b) (h5 : b 5 = a 5) (h6 : ∀ i, (i = 6 ∨ 58 ≤ i ∧ i < 268) → b i = a i) (w : WJ a) : WJ b := by
  have hj6 : nj b = nj a := congrArg zN (h6 6 (by omega))
  have hm : nm b = nm a := congrArg zN h5
  have h30 := w.2.1
  have ej : ∀ j g, j < nj a → g < 7 → jb b j g = jb a j g := fun j g hj hg => h6 _ (by omega)
  unfold WJ
  rw [hj6, te_nu h, hm, h6 6 (by omega)]
  refine ⟨w.1, w.2.1, fun k hk => ?_, fun k hk => ?_, fun k hk => ?_⟩
  · rw [ej k 0 hk (by omega)]
    obtain ⟨u, u1, u2, u3⟩ := w.2.2.1 k hk
    exact ⟨u, u1, u2, (te_lfS h wU.2.2.1 u).mpr u3⟩
  · rw [ej k 3 hk (by omega)]; exact w.2.2.2.1 k hk
  · rw [ej k 3 hk (by omega), ej k 4 hk (by omega)]; exact w.2.2.2.2 k hk
theorem wfb_je {T B : Nat} {a b : Nat → Int32} (h : JE a b) (hW : WFB T B a) (hJ : WJ b) : WFB T B b := by
  obtain ⟨wU, wUse, wM, wJ, wL, wS⟩ := hW
  have h12 := wU.2.2.1
  refine ⟨te_WU (je_te h) wU, ?_, wm_c (fun i hi => h i (by omega)) wM, hJ, wl_c wU (je_te h) (h 0 (by omega)) (fun i hi => h i (by omega)) wL, ws_c (fun i hi => h i (by omega)) wS⟩
  rw [te_nu (je_te h), sumN_cong (g := fun u => zN (a (34 + u))) (fun k hk => by rw [h (34 + k) (by omega)])]
  exact ⟨fun u hu => by rw [h (34 + u) (by omega)]; exact wUse.1 u hu, wUse.2⟩
theorem sumN_ch {f g : Nat → Nat} {n j d : Nat} (hj : j < n) (h : ∀ k, k < n → k ≠ j → g k = f k) (hd : g j = f j + d) : sumN g n = sumN f n + d := by
  induction n with
  | zero => omega
  | succ n ih =>
    rw [sumN, sumN]
    by_cases hn : j = n
    · subst hn; rw [sumN_cong (g := f) (fun k hk => h k (by omega) (by omega)), hd]; omega
    · rw [ih (by omega) (fun k hk => h k (by omega)), h n (by omega) (fun z => hn z.symm)]; omega
theorem wfb_use {T B : Nat} {a : Nat → Int32} (hW : WFB T B a) {u : Nat} (hu : u < nu a) (hB : B + 1000 < 2 ^ 31) : WFB T (B + 1000) (upd a (34 + u) (a (34 + u) + 1000)) := by
  obtain ⟨wU, wUse, wM, wJ, wL, wS⟩ := hW
  have h12 := wU.2.2.1
  have h : ∀ i, i ≠ 34 + u → upd a (34 + u) (a (34 + u) + 1000) i = a i := fun i hi => upd_ne hi
  have hte : TE a (upd a (34 + u) (a (34 + u) + 1000)) := fun i hi => h i (by omega)
  have hle : zN (a (34 + u)) ≤ B := Nat.le_trans (sumN_le (f := fun u => zN (a (34 + u))) hu) wUse.2
  have e1 : a (34 + u) + 1000 = nI (zN (a (34 + u)) + 1000) := by
    rw [← nI_add, ← wUse.1 u hu]; rfl
  have e2 : zN (a (34 + u) + 1000) = zN (a (34 + u)) + 1000 := by rw [e1, zN, nI_clamp (by omega)]
  refine ⟨te_WU hte wU, ?_, wm_c (fun i hi => h i (by omega)) wM, wj_c wU hte (h 5 (by omega)) (fun i hi => h i (by omega)) wJ, wl_c wU hte (h 0 (by omega)) (fun i hi => h i (by omega)) wL, ws_c (fun i hi => h i (by omega)) wS⟩
  · rw [te_nu hte]
    refine ⟨fun v hv => ?_, ?_⟩
    · by_cases z : v = u
      · subst z; rw [upd_eq, e2]; exact e1
      · rw [h (34 + v) (by omega)]; exact wUse.1 v hv
    · rw [sumN_ch (f := fun u => zN (a (34 + u))) hu (fun k hk hku => by rw [h (34 + k) (by omega)]) (d := 1000) (by rw [upd_eq]; exact e2)]
      have := wUse.2
      omega
/-! a tick's work -/
def wkStep (a : Nat → Int32) (j : Nat) : Nat → Int32 :=
  if jb a j 3 = 1 then (if jb a j 2 + 1 < jb a j 1 then upd (layJ a j 2 (jb a j 2 + 1)) (34 + zN (jb a j 0)) (a (34 + zN (jb a j 0)) + 1000) else endS (upd (layJ a j 2 (jb a j 2 + 1)) (34 + zN (jb a j 0)) (a (34 + zN (jb a j 0)) + 1000)) j 2)
  else if jb a j 3 = 0 then layJ a j 6 (jb a j 6 + 1) else a
def wkF (a : Nat → Int32) : Nat → (Nat → Int32)
  | 0 => a
  | j + 1 => wkStep (wkF a j) j
def wkS (a : Nat → Int32) : Nat → Int32 := wkF a (nj a)
theorem wfb_lay {T B : Nat} {a : Nat → Int32} (hW : WFB T B a) {j f : Nat} {v : Int32} (hj : j < nj a) (hf : f < 7) (h0 : f ≠ 0) (h3 : f ≠ 3) (h4 : f ≠ 4) : WFB T B (layJ a j f v) := by
  have wJ := hW.2.2.2.1
  have h30 := wJ.2.1
  have hJE : JE a (layJ a j f v) := je_lay je_r (by omega) hf
  have e : ∀ k g, g < 7 → g ≠ f → jb (layJ a j f v) k g = jb a k g := fun k g hg hgf => by rw [jb_lay hf hg, if_neg (fun z => hgf z.2)]
  refine wfb_je hJE hW (wj_ch2 hW.1 wJ (je_te hJE) (hJE 5 (by omega)) (show upd a (58 + 7 * j + f) v 6 = a 6 from upd_ne (by omega)) j (fun k g hk hg => by rw [jb_lay hf hg, if_neg (fun z => hk z.1)]) (e j 0 (by omega) (Ne.symm h0)) ?_ ?_)
  · rw [e j 3 (by omega) (Ne.symm h3)]; exact wJ.2.2.2.1 j hj
  · rw [e j 3 (by omega) (Ne.symm h3), e j 4 (by omega) (Ne.symm h4)]; exact wJ.2.2.2.2 j hj
theorem wfb_end {T B : Nat} {a : Nat → Int32} (hW : WFB T B a) {j : Nat} {s : Int32} (hs : s = 2 ∨ s = 3) (hj : j < nj a) : WFB T B (endS a j s) := by
  have wJ := hW.2.2.2.1
  have h30 := wJ.2.1
  have hJE := je_end (a := a) (j := j) (m := s) (by omega)
  have h03 : jb (endS a j s) j 3 = s := by rw [jb_end (by omega), if_neg (fun z => by omega), if_neg (fun z => by omega), if_pos ⟨rfl, rfl⟩]
  have h6 : endS a j s 6 = a 6 := by unfold endS; exact (upd_ne (by omega)).trans ((upd_ne (by omega)).trans (upd_ne (by omega)))
  refine wfb_je hJE hW (wj_ch2 hW.1 wJ (je_te hJE) (hJE 5 (by omega)) h6 j (fun k g hk hg => ?_) ?_ ?_ ?_)
  · rw [jb_end hg, if_neg (fun z => hk z.1), if_neg (fun z => hk z.1), if_neg (fun z => hk z.1)]
  · rw [jb_end (by omega), if_neg (fun z => by omega), if_neg (fun z => by omega), if_neg (fun z => by omega)]
  · rw [h03]; exact Or.inr (Or.inr hs)
  · intro z; rw [h03] at z; subst z; exact absurd hs (by decide)
theorem nj_use {a : Nat → Int32} {u : Nat} {x : Int32} : nj (upd a (34 + u) x) = nj a := nj_u (by omega)
theorem nu_use {a : Nat → Int32} {u : Nat} {x : Int32} : nu (upd a (34 + u) x) = nu a := congrArg zN (upd_ne (by omega))
theorem nu_lay {a : Nat → Int32} {j f : Nat} {x : Int32} : nu (layJ a j f x) = nu a := congrArg zN (show upd a (58 + 7 * j + f) x 4 = a 4 from upd_ne (by omega))
theorem wkStep_ok {T B : Nat} {a : Nat → Int32} (hW : WFB T B a) (hB : B + 1000 < 2 ^ 31) {j : Nat} (hj : j < nj a) : WFB T (B + 1000) (wkStep a j) ∧ nj (wkStep a j) = nj a := by
  have wJ := hW.2.2.2.1
  have h30 := wJ.2.1
  have h12 := hW.1.2.2.1
  obtain ⟨u, hu, hu2, -⟩ := wJ.2.2.1 j hj
  have zu : zN (jb a j 0) = u := by rw [hu2, zN, nI_clamp (by omega)]
  unfold wkStep
  by_cases h1 : jb a j 3 = 1
  · have w1 : WFB T B (layJ a j 2 (jb a j 2 + 1)) := wfb_lay hW hj (by omega) (by omega) (by omega) (by omega)
    have e : a (34 + u) = layJ a j 2 (jb a j 2 + 1) (34 + u) := (show upd a (58 + 7 * j + 2) (jb a j 2 + 1) (34 + u) = _ from upd_ne (by omega)).symm
    have w2 := wfb_use w1 (u := u) (by rw [nu_lay]; exact hu) hB
    rw [if_pos h1, zu, e]
    by_cases h2 : jb a j 2 + 1 < jb a j 1
    · rw [if_pos h2]; exact ⟨w2, by rw [nj_use, nj_lay]⟩
    · rw [if_neg h2]; exact ⟨wfb_end w2 (Or.inl rfl) (by rw [nj_use, nj_lay]; exact hj), by rw [nj_end, nj_use, nj_lay]⟩
  · rw [if_neg h1]
    by_cases h2 : jb a j 3 = 0
    · rw [if_pos h2]; exact ⟨wfb_le (wfb_lay hW hj (by omega) (by omega) (by omega) (by omega)) (by omega), nj_lay⟩
    · rw [if_neg h2]; exact ⟨wfb_le hW (by omega), rfl⟩
theorem wkF_ok {T B : Nat} {a : Nat → Int32} (hW : WFB T B a) (hB : B + 30000 < 2 ^ 31) : ∀ k, k ≤ nj a → WFB T (B + 1000 * k) (wkF a k) ∧ nj (wkF a k) = nj a := by
  intro k
  have h30 := hW.2.2.2.1.2.1
  induction k with
  | zero => intro _; exact ⟨hW, rfl⟩
  | succ k ih =>
    intro hk
    obtain ⟨h1, h2⟩ := ih (by omega)
    obtain ⟨h3, h4⟩ := wkStep_ok h1 (by omega) (j := k) (by omega)
    exact ⟨wfb_le h3 (by omega), h4.trans h2⟩
section TICK
variable {M : Nat → Nat → Int32} {L : Nat → Nat → Int64} {dd : UInt64} {p T B : Nat} {a : Nat → Int32}
theorem qt_use {u : Nat} {x : Int32} (hT : QT M p a) (hu : u < nu a) (h12 : nu a ≤ 12) : QT (mU M (p + 4) (upd (M (p + 4)) u x)) p (upd a (34 + u) x) := by
  refine ⟨by rw [mU_n (by omega), upd_ne (by omega)]; exact hT.1, fun k hk => ?_⟩
  rw [nu_use] at hk
  obtain ⟨t1, t2, t3⟩ := hT.2 k hk
  rw [mU_n (show p + 2 ≠ p + 4 by omega), mU_n (show p + 3 ≠ p + 4 by omega), mU_s, upd_ne (show 10 + k ≠ 34 + u by omega), upd_ne (show 22 + k ≠ 34 + u by omega)]
  refine ⟨t1, t2, ?_⟩
  by_cases z : k = u
  · subst z; rw [upd_eq, upd_eq]
  · rw [upd_ne z, upd_ne (by omega), t3]
theorem qp_use {u : Nat} {x : Int32} (hQ : QP M p a) (hu : u < nu a) (wU : WU a) (h8 : nl a ≤ 8) (h6 : nm a ≤ 6) (h30 : nj a ≤ 30) : QP (mU M (p + 4) (upd (M (p + 4)) u x)) p (upd a (34 + u) x) := by
  have h12 := wU.2.2.1
  obtain ⟨qT, qB, qL, qM, qJ, qS⟩ := hQ
  have h : ∀ i, i ≠ 34 + u → upd a (34 + u) x i = a i := fun i hi => upd_ne hi
  have f : Fr (p + 4) (p + 5) M (mU M (p + 4) (upd (M (p + 4)) u x)) := fr_u fr_r (by omega)
  exact ⟨qt_use qT hu h12, qb_c (fun i hi => h i (by omega)) wU (qb_f f (by omega) qB), ql_c (fun i hi => h i (by omega)) h8 (ql_f f (by omega) qL), qm_c (fun i hi => h i (by omega)) h6 (qm_f f (by omega) qM), qj_c (fun i hi => h i (by omega)) h30 (qj_f f (by omega) qJ), qs_c (fun i hi => h i (by omega)) (qs_f f (by omega) qS)⟩
/-- the rest of a place when jobs alone have changed -/
theorem qp_jobs {M' : Nat → Nat → Int32} {b : Nat → Int32} (hQ : QP M p a) (hF : Fr (p + 15) (p + 23) M M') (hJ : QJ M' p b) (h : ∀ i, (i < 58 ∨ 268 ≤ i) → b i = a i) (wU : WU a) (h8 : nl a ≤ 8) (h6 : nm a ≤ 6) : QP M' p b := by
  obtain ⟨qT, qB, qL, qM, qJ, qS⟩ := hQ
  exact ⟨qt_c (fun i hi => h i (by omega)) wU.2.2.1 (rt_fr qT hF (by omega)), qb_c (fun i hi => h i (by omega)) wU (qb_f hF (by omega) qB), ql_c (fun i hi => h i (by omega)) h8 (ql_f hF (by omega) qL), qm_c (fun i hi => h i (by omega)) h6 (qm_f hF (by omega) qM), hJ, qs_c (fun i hi => h i (by omega)) (qs_f hF (by omega) qS)⟩
theorem lay_o {j f i : Nat} {v : Int32} (hj : j < 30) (hf : f < 7) (hi : i < 58 ∨ 268 ≤ i) : layJ a j f v i = a i := show upd a (58 + 7 * j + f) v i = a i from upd_ne (by omega)
theorem end_o {j i : Nat} {v : Int32} (hj : j < 30) (hi : i < 58 ∨ 268 ≤ i) : endS a j v i = a i := by
  unfold endS
  rw [lay_o hj (by omega) hi, lay_o hj (by omega) hi, lay_o hj (by omega) hi]
theorem c_X5_workOn (hP : PL p) (hQ : QP M p a) (hW : WFB T B a) (hB : B + 30000 < 2 ^ 31) : PO yX5_workOn I_X5_workOn [.ref p] M L dd none (fun M' L' => L' = L ∧ Fr (p + 1) (p + 23) M M' ∧ QP M' p (wkS a)) := by
  refine po_mk (fun Q hq => ?_)
  refine a_met (by decide +kernel) rfl rfl (Nat.le_of_ble_eq_true rfl) (by simp [Value.category]) (by decide) rfl ?_
  show AW I_X5_workOn 0 [.ref p, .null] [] (hS M L dd) 0 0 Q
  refine r_iconst_0 dX5_workOn_0 ?_
  refine s_istore_n 1 dX5_workOn_1 (by decide) rfl rfl ?_
  have h30 := hW.2.2.2.1.2.1
  have lp : ∀ k, k ≤ nj a → ∀ M' : Nat → Nat → Int32, Fr (p + 1) (p + 23) M M' → QP M' p (wkF a k) → AW I_X5_workOn 2 [.ref p, .int (nI k)] [] (hS M' L dd) 0 0 Q := by
    refine lp_up _ ?_ ?_
    · intro M' f1 g1 
      obtain ⟨w1, w2⟩ := wkF_ok hW hB (nj a) (Nat.le_refl _)
      have hn : M' (p + 15) 0 = nI (nj a) := by rw [g1.2.2.2.2.1.1, w1.2.2.2.1.1, w2]
      refine r_iload_n dX5_workOn_2 rfl ?_
      refine r_aload_n dX5_workOn_3 rfl ?_
      refine m_get 5 3 dX5_workOn_4 fl_X5_35 (ob_place hP) rfl ?_
      refine m_get 1 0 dX5_workOn_7 fl_X5_120 (ob_jobs hP) rfl ?_
      refine r_icmp_ge 123 dX5_workOn_10 (by decide) (fun _ => ?_) (fun z => absurd (by rw [hn]; exact nI_le (Nat.le_refl _) (by omega)) z)
      exact r_vret dX5_workOn_123 rfl (hq _ _ ⟨rfl, f1, g1⟩)
    · intro k hk ih M' f1 g1 
      obtain ⟨w1, w2⟩ := wkF_ok hW hB k (by omega)
      have hn : M' (p + 15) 0 = nI (nj a) := by rw [g1.2.2.2.2.1.1, w1.2.2.2.1.1, w2]
      have e : wkF a (k + 1) = wkStep (wkF a k) k := rfl
      generalize wkF a k = b at *
      have hkb : k < nj b := by omega
      have wJ := w1.2.2.2.1
      have h30' := wJ.2.1
      have h12 := w1.1.2.2.1
      have h6 := w1.2.2.1.2.1
      have h8 := w1.2.2.2.2.1.2.1
      obtain ⟨u, hu, hu2, -⟩ := wJ.2.2.1 k hkb
      have zu : zN (jb b k 0) = u := by rw [hu2, zN, nI_clamp (by omega)]
      have qJ := g1.2.2.2.2.1
      obtain ⟨t0, t1, t2, t3, t4, t5, t6⟩ := qJ.2 k hkb
      refine r_iload_n dX5_workOn_2 rfl ?_
      refine r_aload_n dX5_workOn_3 rfl ?_
      refine m_get 5 3 dX5_workOn_4 fl_X5_35 (ob_place hP) rfl ?_
      refine m_get 1 0 dX5_workOn_7 fl_X5_120 (ob_jobs hP) rfl ?_
      refine r_icmp_ge 123 dX5_workOn_10 (by decide) (fun z => absurd z (by rw [hn]; exact nI_ge hk (by omega))) (fun _ => ?_)
      refine r_aload_n dX5_workOn_13 rfl ?_
      refine m_get 5 3 dX5_workOn_14 fl_X5_35 (ob_place hP) rfl ?_
      refine m_get 1 4 dX5_workOn_17 fl_X5_121 (ob_jobs hP) rfl ?_
      refine r_iload_n dX5_workOn_20 rfl ?_
      refine m_iald k dX5_workOn_21 (ai_state hP) rfl (by omega) (by first | decide | assumption) ?_
      rw [t3]
      refine r_iconst_1 dX5_workOn_22 ?_
      refine r_icmp_ne 92 dX5_workOn_23 (by decide) (fun h23 => ?_) (fun h23 => ?_)
      · refine r_aload_n dX5_workOn_92 rfl ?_
        refine m_get 5 3 dX5_workOn_93 fl_X5_35 (ob_place hP) rfl ?_
        refine m_get 1 4 dX5_workOn_96 fl_X5_121 (ob_jobs hP) rfl ?_
        refine r_iload_n dX5_workOn_99 rfl ?_
        refine m_iald k dX5_workOn_100 (ai_state hP) rfl (by omega) (by first | decide | assumption) ?_
        rw [t3]
        refine r_if_ne 117 dX5_workOn_101 (by decide) (fun h101 => ?_) (fun h101 => ?_)
        · have e2 : wkF a (k + 1) = b := by rw [e, wkStep, if_neg h23, if_neg h101]
          refine s_iinc dX5_workOn_117 rfl (by decide) rfl ?_
          refine r_goto 2 dX5_workOn_120 (by decide) ?_
          exact m_sub (ih M' f1 (by rw [e2]; exact g1)) (by simp [a_sub, nI_succ])
        · have e2 : wkF a (k + 1) = layJ b k 6 (jb b k 6 + 1) := by rw [e, wkStep, if_neg h23, if_pos h101]
          refine r_aload_n dX5_workOn_104 rfl ?_
          refine m_get 5 3 dX5_workOn_105 fl_X5_35 (ob_place hP) rfl ?_
          refine m_get 1 7 dX5_workOn_108 fl_X5_199 (ob_jobs hP) rfl ?_
          refine r_iload_n dX5_workOn_111 rfl ?_
          refine r_dup2 dX5_workOn_112 rfl rfl ?_
          refine m_iald k dX5_workOn_113 (ai_waited hP) rfl (by omega) (by first | decide | assumption) ?_
          refine r_iconst_1 dX5_workOn_114 ?_
          refine r_iadd dX5_workOn_115 ?_
          refine m_iast k dX5_workOn_116 (ai_waited hP) rfl (by omega) (by first | decide | assumption) ?_
          refine s_iinc dX5_workOn_117 rfl (by decide) rfl ?_
          refine r_goto 2 dX5_workOn_120 (by decide) ?_
          refine m_sub (ih _ (fr_u f1 (by omega)) ?_) (by simp [a_sub, nI_succ])
          rw [e2, t6]
          exact qp_jobs g1 (fr_u fr_r (by omega)) (qj_lay 6 qJ hkb h30' (by omega)) (fun i hi => lay_o (by omega) (by omega) hi) w1.1 h8 h6
      · refine r_aload_n dX5_workOn_26 rfl ?_
        refine m_get 5 3 dX5_workOn_27 fl_X5_35 (ob_place hP) rfl ?_
        refine m_get 1 3 dX5_workOn_30 fl_X5_148 (ob_jobs hP) rfl ?_
        refine r_iload_n dX5_workOn_33 rfl ?_
        refine r_dup2 dX5_workOn_34 rfl rfl ?_
        refine m_iald k dX5_workOn_35 (ai_work hP) rfl (by omega) (by first | decide | assumption) ?_
        refine r_iconst_1 dX5_workOn_36 ?_
        refine r_iadd dX5_workOn_37 ?_
        refine m_iast k dX5_workOn_38 (ai_work hP) rfl (by omega) (by first | decide | assumption) ?_
        rw [t2]
        have q1 := qp_jobs g1 (fr_u fr_r (by omega)) (qj_lay 2 (v := jb b k 2 + 1) qJ hkb h30' (by omega)) (fun i hi => lay_o (by omega) (by omega) hi) w1.1 h8 h6
        refine m_abs (fun M1 => Fr (p + 1) (p + 23) M M1 ∧ QP M1 p (layJ b k 2 (jb b k 2 + 1))) ⟨fr_u f1 (by omega), q1⟩ (fun M1 ⟨f2, g2⟩ => ?_)
        have hkb2 : k < nj (layJ b k 2 (jb b k 2 + 1)) := by rw [nj_lay]; exact hkb
        have wU2 : WU (layJ b k 2 (jb b k 2 + 1)) := te_WU (fun i hi => lay_o (by omega) (by omega) (by omega)) w1.1
        have hu3 : u < nu (layJ b k 2 (jb b k 2 + 1)) := by rw [nu_lay]; exact hu
        refine r_aload_n dX5_workOn_39 rfl ?_
        refine m_get 5 0 dX5_workOn_40 fl_X5_12 (ob_place hP) rfl ?_
        refine r_aload_n dX5_workOn_43 rfl ?_
        refine m_get 5 3 dX5_workOn_44 fl_X5_35 (ob_place hP) rfl ?_
        refine m_get 1 1 dX5_workOn_47 fl_X5_124 (ob_jobs hP) rfl ?_
        refine r_iload_n dX5_workOn_50 rfl ?_
        refine m_iald k dX5_workOn_51 (ai_leaf hP) rfl (by omega) (by first | decide | assumption) ?_
        rw [(g2.2.2.2.2.1.2 k hkb2).1, show jb (layJ b k 2 (jb b k 2 + 1)) k 0 = nI u from by rw [jb_lay (by omega) (by omega), if_neg (fun z => by omega), hu2]]
        refine m_pv1 dX5_workOn_52 cv_X5_189 (c_X8_addUse hP g2.1 wU2 hu3) (ob_tree hP) ⟨_, rfl, rfl⟩ ⟨rfl, rfl⟩ (by decide) (by decide) (Nat.le_of_ble_eq_true rfl) (fun M2 L2 ⟨x1, x2⟩ => ?_)
        subst x1
        have g3 := qp_use (x := M1 (p + 4) u + 1000) g2 hu3 wU2 (by show zN (layJ _ _ _ _ 7) ≤ 8; rw [lay_o (by omega) (by omega) (by omega)]; exact h8) (by show zN (layJ _ _ _ _ 5) ≤ 6; rw [lay_o (by omega) (by omega) (by omega)]; exact h6) (by rw [nj_lay]; exact h30')
        rw [← x2, (g2.1.2 u hu3).2.2, lay_o (by omega) (by omega) (by omega)] at g3
        have f3 : Fr (p + 1) (p + 23) M M2 := by rw [x2]; exact fr_u f2 (by omega)
        generalize hc : upd (layJ b k 2 (jb b k 2 + 1)) (34 + u) (b (34 + u) + 1000) = c at g3
        have ej : ∀ g, g < 7 → jb c k g = if g = 2 then jb b k 2 + 1 else jb b k g := fun g hg => by rw [← hc, jb_u (by omega), jb_lay (by omega) hg]; simp
        have hkc : k < nj c := by rw [← hc, nj_use, nj_lay]; exact hkb
        have h30c : nj c ≤ 30 := by rw [← hc, nj_use, nj_lay]; exact h30'
        obtain ⟨s0, s1, s2, s3, s4, s5, s6⟩ := g3.2.2.2.2.1.2 k hkc
        refine r_aload_n dX5_workOn_55 rfl ?_
        refine m_get 5 3 dX5_workOn_56 fl_X5_35 (ob_place hP) rfl ?_
        refine m_get 1 3 dX5_workOn_59 fl_X5_148 (ob_jobs hP) rfl ?_
        refine r_iload_n dX5_workOn_62 rfl ?_
        refine m_iald k dX5_workOn_63 (ai_work hP) rfl (by omega) (by first | decide | assumption) ?_
        refine r_aload_n dX5_workOn_64 rfl ?_
        refine m_get 5 3 dX5_workOn_65 fl_X5_35 (ob_place hP) rfl ?_
        refine m_get 1 2 dX5_workOn_68 fl_X5_192 (ob_jobs hP) rfl ?_
        refine r_iload_n dX5_workOn_71 rfl ?_
        refine m_iald k dX5_workOn_72 (ai_length hP) rfl (by omega) (by first | decide | assumption) ?_
        rw [s1, s2, (ej 1 (by omega)).trans (if_neg (by decide)), (ej 2 (by omega)).trans (if_pos rfl)]
        refine r_icmp_lt 117 dX5_workOn_73 (by decide) (fun h73 => ?_) (fun h73 => ?_)
        · have e2 : wkF a (k + 1) = c := by rw [e, wkStep, if_pos h23, if_pos h73, zu, hc]
          refine s_iinc dX5_workOn_117 rfl (by decide) rfl ?_
          refine r_goto 2 dX5_workOn_120 (by decide) ?_
          exact m_sub (ih M2 f3 (by rw [e2]; exact g3)) (by simp [a_sub, nI_succ])
        · have e2 : wkF a (k + 1) = endS c k 2 := by rw [e, wkStep, if_pos h23, if_neg h73, zu, hc]
          refine r_aload_n dX5_workOn_76 rfl ?_
          refine m_get 5 3 dX5_workOn_77 fl_X5_35 (ob_place hP) rfl ?_
          refine r_iload_n dX5_workOn_80 rfl ?_
          refine r_iconst_2 dX5_workOn_81 ?_
          refine r_aload_n dX5_workOn_82 rfl ?_
          refine m_get 5 6 dX5_workOn_83 fl_X5_66 (ob_place hP) rfl ?_
          refine m_pv3 dX5_workOn_86 cv_X5_195 (c_X1_end hP g3.2.2.2.2.1 (by rw [← hc]; show upd _ _ _ 6 = nI (nj (upd _ _ _)); rw [nj_use, nj_lay, upd_ne (by omega), lay_o (by omega) (by omega) (by omega)]; exact wJ.1) h30c hkc g3.2.2.2.2.2.2.2.2.1) (ob_jobs hP) ⟨_, rfl, rfl⟩ ⟨rfl, rfl⟩ (by decide) (by decide) (Nat.le_of_ble_eq_true rfl) (fun M3 L3 ⟨y1, y2, y3⟩ => ?_)
          subst y1
          refine r_goto 117 dX5_workOn_89 (by decide) ?_
          refine s_iinc dX5_workOn_117 rfl (by decide) rfl ?_
          refine r_goto 2 dX5_workOn_120 (by decide) ?_
          refine m_sub (ih M3 (fr_t f3 (fr_w y2 (by omega) (by omega))) ?_) (by simp [a_sub, nI_succ])
          rw [e2]
          have wUc : WU c := by rw [← hc]; exact te_WU (fun i hi => upd_ne (by omega)) wU2
          exact qp_jobs g3 y2 y3 (fun i hi => end_o (by omega) hi) wUc (by rw [← hc]; show zN (upd _ _ _ 7) ≤ 8; rw [upd_ne (by omega), lay_o (by omega) (by omega) (by omega)]; exact h8) (by rw [← hc]; show zN (upd _ _ _ 5) ≤ 6; rw [upd_ne (by omega), lay_o (by omega) (by omega) (by omega)]; exact h6)
  exact m_sub (lp 0 (Nat.zero_le _) M fr_r hQ) (by simp [a_sub, nI_0])
end TICK
