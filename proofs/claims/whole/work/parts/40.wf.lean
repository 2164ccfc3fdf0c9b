/-! rows after a change are rows again -/
section WFC
variable {a : Row} {T B : Nat}
theorem chS_ad {q s : Int32} (wU : WU a) (u : Int32) : chS (adU a q s) u = chS a u + (if q = u then 1 else 0) := by
  unfold chS
  rw [nu_adU wU, sumI]
  have h12 := wU.2.2.1
  have e1 : adU a q s (10 + nu a) = q := by
    unfold adU
    rw [upd_ne (by omega), upd_ne (by omega), upd_ne (by omega), upd_eq]
  rw [e1]
  congr 1
  refine sumI_cong fun k hk => ?_
  unfold adU
  rw [upd_ne (by omega), upd_ne (by omega), upd_ne (by omega), upd_ne (by omega)]
theorem chS_nn {u : Int32} : ∃ n, n ≤ nu a ∧ chS a u = nI n := by
  refine ⟨sumN (fun k => if a (10 + k) = u then 1 else 0) (nu a), ?_, sumI_nat (fun k hk => ?_)⟩
  · have := sumN_mul (f := fun k => if a (10 + k) = u then 1 else 0) (n := nu a) (b := 1) (fun k hk => by by_cases h : a (10 + k) = u <;> simp [h])
    omega
  · by_cases h : a (10 + k) = u
    · rw [if_pos h, if_pos h]; rfl
    · rw [if_neg h, if_neg h]; rfl
theorem ad_o {q s : Int32} {i : Nat} (h12 : nu a ≤ 12) (h1 : i ≠ 4) (h2 : i ≠ 10 + nu a) (h3 : i ≠ 22 + nu a) (h4 : i ≠ 34 + nu a) : adU a q s i = a i := by
  unfold adU
  rw [upd_ne h1, upd_ne h4, upd_ne h3, upd_ne h2]
theorem lf_ad {q : Nat} {s : Int32} (wU : WU a) {u : Nat} (hu : u ≠ q) (hq : q < 12) (hu2 : u < 12) (h : lfS a u) : lfS (adU a (nI q) s) u := by
  unfold lfS
  rw [chS_ad wU, if_neg (fun z => hu ((nI_eq (by omega) (by omega)).mp z).symm)]
  rw [show chS a (nI u) = 0 from h]
  rfl
theorem wu_ad {q s : Nat} (wU : WU a) (hn : nu a < 12) (hq : q < nu a) (h1 : 1 ≤ s) (h2 : s ≤ 99) : WU (adU a (nI q) (nI s)) := by
  obtain ⟨w1, w2, w3, w4, w5, w6⟩ := wU
  have hU : WU a := ⟨w1, w2, w3, w4, w5, w6⟩
  have e4 : adU a (nI q) (nI s) 4 = nI (nu a + 1) := by
    unfold adU
    rw [upd_eq, ← nI_1, ← w1]
  have e10 : adU a (nI q) (nI s) (10 + nu a) = nI q := by
    unfold adU
    rw [upd_ne (by omega), upd_ne (by omega), upd_ne (by omega), upd_eq]
  have e22 : adU a (nI q) (nI s) (22 + nu a) = nI s := by
    unfold adU
    rw [upd_ne (by omega), upd_ne (by omega), upd_eq]
  unfold WU
  rw [nu_adU hU]
  refine ⟨e4, by omega, by omega, by rw [ad_o w3 (by omega) (by omega) (by omega) (by omega)]; exact w4, fun u hu hu2 => ?_, fun u hu hu2 => ?_⟩
  · by_cases z : u = nu a
    · subst z; exact ⟨q, hq, e10⟩
    · rw [ad_o w3 (by omega) (by omega) (by omega) (by omega)]; exact w5 u hu (by omega)
  · by_cases z : u = nu a
    · subst z; exact ⟨s, h1, h2, e22⟩
    · rw [ad_o w3 (by omega) (by omega) (by omega) (by omega)]; exact w6 u hu (by omega)
theorem wf_ad {q s : Nat} (hW : WF T a) (hn : nu a < 12) (hq : q < nu a) (h1 : 1 ≤ s) (h2 : s ≤ 99) (hJ : anJ a (nI q) = false) (hL : anL a (nI q) = false) : WF T (adU a (nI q) (nI s)) := by
  obtain ⟨wU, wUse, wM, wJ, wL, wS⟩ := hW
  have h12 := wU.2.2.1
  have ho : ∀ i, i ≠ 4 → (i < 10 ∨ 46 ≤ i) → adU a (nI q) (nI s) i = a i := fun i h1 h2 => ad_o h12 h1 (by omega) (by omega) (by omega)
  have hnu := nu_adU (q := nI q) (s := nI s) wU
  have e34 : adU a (nI q) (nI s) (34 + nu a) = 0 := by
    unfold adU
    rw [upd_ne (by omega), upd_eq]
  have ej : nj (adU a (nI q) (nI s)) = nj a := congrArg zN (ho 6 (by omega) (by omega))
  have em : nm (adU a (nI q) (nI s)) = nm a := congrArg zN (ho 5 (by omega) (by omega))
  have el : nl (adU a (nI q) (nI s)) = nl a := congrArg zN (ho 7 (by omega) (by omega))
  have gj : ∀ j f, jb (adU a (nI q) (nI s)) j f = jb a j f := fun j f => ho _ (by omega) (by omega)
  have gl : ∀ j f, ln (adU a (nI q) (nI s)) j f = ln a j f := fun j f => ho _ (by omega) (by omega)
  refine ⟨wu_ad wU hn hq h1 h2, ?_, wm_c (fun i hi => ho i (by omega) (by omega)) wM, ?_, ?_, ws_c (fun i hi => ho i (by omega) (by omega)) wS⟩
  · unfold WUse
    rw [hnu, ho 0 (by omega) (by omega)]
    refine ⟨fun u hu => ?_, ?_⟩
    · by_cases z : u = nu a
      · subst z; rw [e34]; rfl
      · rw [ad_o h12 (by omega) (by omega) (by omega) (by omega)]; exact wUse.1 u (by omega)
    · rw [sumN, e34, sumN_cong (g := fun u => zN (a (34 + u))) (fun k hk => by rw [ad_o h12 (by omega) (by omega) (by omega) (by omega)])]
      exact wUse.2
  · unfold WJ
    rw [ej, em, hnu, ho 6 (by omega) (by omega)]
    refine ⟨wJ.1, wJ.2.1, fun j hj => ?_, fun j hj => by rw [gj]; exact wJ.2.2.2.1 j hj, fun j hj => by rw [gj, gj]; exact wJ.2.2.2.2 j hj⟩
    obtain ⟨u, u1, u2, u3⟩ := wJ.2.2.1 j hj
    have hne : u ≠ q := fun z => by
      have := anyB_f hJ hj
      rw [decide_eq_false_iff_not] at this
      exact this (by rw [u2, z])
    exact ⟨u, by omega, by rw [gj]; exact u2, lf_ad wU hne (by omega) (by omega) u3⟩
  · unfold WL
    rw [el, hnu, ho 7 (by omega) (by omega), ho 0 (by omega) (by omega)]
    refine ⟨wL.1, wL.2.1, fun l hl => ?_, fun l hl => by rw [gl]; exact wL.2.2.2 l hl⟩
    obtain ⟨f, t, b, p, w4, w5, w1, w6, w7, w2, w3, w8⟩ := wL.2.2.1 l hl
    have hne := anyB_f hL hl
    rw [decide_eq_false_iff_not] at hne
    have hf : f ≠ q := fun z => hne (Or.inl (by rw [w2, z]))
    have ht : t ≠ q := fun z => hne (Or.inr (by rw [w3, z]))
    exact ⟨f, t, b, p, by omega, by omega, w1, lf_ad wU hf (by omega) (by omega) w6, lf_ad wU ht (by omega) (by omega) w7, by rw [gl]; exact w2, by rw [gl]; exact w3, by rw [gl, gl]; exact w8⟩
theorem wv_ad {q s : Int32} (h : WV a) (h12 : nu a < 12) : WV (adU a q s) := by
  have ho : ∀ i, i ≠ 4 → (i < 10 ∨ 46 ≤ i) → adU a q s i = a i := by
    intro i h1 h2
    exact ad_o (by omega) h1 (by omega) (by omega) (by omega)
  intro j m hj h3 hm h4
  rw [show nj (adU a q s) = nj a from congrArg zN (ho 6 (by omega) (by omega))] at hj
  rw [show nm (adU a q s) = nm a from congrArg zN (ho 5 (by omega) (by omega))] at hm
  rw [show jb (adU a q s) j 3 = jb a j 3 from ho _ (by omega) (by omega)] at h3
  rw [show jb (adU a q s) j 4 = jb a j 4 from ho _ (by omega) (by omega)] at h4
  rw [ho (52 + m) (by omega) (by omega)]
  exact h j m hj h3 hm h4
/-- other shares -/
theorem wf_sh {u s : Nat} (hW : WF T a) (hu : u < nu a) (h1 : 1 ≤ s) (h2 : s ≤ 99) : WF T (upd a (22 + u) (nI s)) := by
  obtain ⟨wU, wUse, wM, wJ, wL, wS⟩ := hW
  have h12 := wU.2.2.1
  have ho : ∀ i, i ≠ 22 + u → upd a (22 + u) (nI s) i = a i := fun i hi => upd_ne hi
  have hnu : nu (upd a (22 + u) (nI s)) = nu a := congrArg zN (ho 4 (by omega))
  have ech : ∀ v, chS (upd a (22 + u) (nI s)) v = chS a v := fun v => by
    unfold chS
    rw [hnu]
    exact sumI_cong fun k hk => by rw [ho (10 + k) (by omega)]
  have ej : nj (upd a (22 + u) (nI s)) = nj a := congrArg zN (ho 6 (by omega))
  have em : nm (upd a (22 + u) (nI s)) = nm a := congrArg zN (ho 5 (by omega))
  have el : nl (upd a (22 + u) (nI s)) = nl a := congrArg zN (ho 7 (by omega))
  have gj : ∀ j f, jb (upd a (22 + u) (nI s)) j f = jb a j f := fun j f => ho _ (by omega)
  have gl : ∀ j f, ln (upd a (22 + u) (nI s)) j f = ln a j f := fun j f => ho _ (by omega)
  refine ⟨?_, ?_, wm_c (fun i hi => ho i (by omega)) wM, ?_, ?_, ws_c (fun i hi => ho i (by omega)) wS⟩
  · unfold WU
    rw [hnu, ho 4 (by omega), ho 10 (by omega)]
    refine ⟨wU.1, wU.2.1, h12, wU.2.2.2.1, fun v hv hv2 => by rw [ho (10 + v) (by omega)]; exact wU.2.2.2.2.1 v hv hv2, fun v hv hv2 => ?_⟩
    by_cases z : v = u
    · subst z; rw [upd_eq]; exact ⟨s, h1, h2, rfl⟩
    · rw [ho (22 + v) (by omega)]; exact wU.2.2.2.2.2 v hv hv2
  · unfold WUse
    rw [hnu, ho 0 (by omega), sumN_cong (g := fun u => zN (a (34 + u))) (fun k hk => by rw [ho (34 + k) (by omega)])]
    exact ⟨fun v hv => by rw [ho (34 + v) (by omega)]; exact wUse.1 v hv, wUse.2⟩
  · unfold WJ
    rw [ej, em, hnu, ho 6 (by omega)]
    simp only [gj, lfS, ech]
    exact wJ
  · unfold WL
    rw [el, hnu, ho 7 (by omega), ho 0 (by omega)]
    simp only [gl, lfS, ech]
    exact wL
/-- one more loan -/
theorem wl_ad {f t s q : Nat} (hW : WF T a) (h8 : nl a < 8) (hf : f < nu a) (ht : t < nu a) (hft : f ≠ t) (lf : lfS a f) (lt : lfS a t) (hs1 : 1 ≤ s) (hs2 : s ≤ 500000) (hq1 : 1 ≤ q) (hq2 : q ≤ 50) : WF T (adL a (nI f) (nI t) (nI s) (nI q)) := by
  obtain ⟨wU, wUse, wM, wJ, wL, wS⟩ := hW
  have h12 := wU.2.2.1
  have ho : ∀ i, i ≠ 7 → (i < 268 ∨ 308 ≤ i) → adL a (nI f) (nI t) (nI s) (nI q) i = a i := fun i h1 h2 => by
    unfold adL
    rw [upd_ne h1]
    simp only [layL]
    rw [upd_ne (by omega), upd_ne (by omega), upd_ne (by omega), upd_ne (by omega), upd_ne (by omega)]
  have hte : TE a (adL a (nI f) (nI t) (nI s) (nI q)) := fun i hi => ho i (by omega) (by omega)
  have e7 : adL a (nI f) (nI t) (nI s) (nI q) 7 = nI (nl a + 1) := by
    unfold adL
    rw [upd_eq, ← nI_1, ← wL.1]
  have enl : nl (adL a (nI f) (nI t) (nI s) (nI q)) = nl a + 1 := by rw [nl, e7, zN, nI_clamp (by omega)]
  have g : ∀ l k, l < 8 → k < 5 → ln (adL a (nI f) (nI t) (nI s) (nI q)) l k = if l = nl a then [nI f, nI t, nI s, a 0, nI q].getD k 0 else ln a l k := by
    intro l k hl hk
    show adL a (nI f) (nI t) (nI s) (nI q) (268 + 5 * l + k) = _
    unfold adL
    rw [upd_ne (by omega)]
    simp only [layL]
    by_cases hkn : l = nl a
    · subst hkn
      rw [if_pos rfl]
      rcases k with _ | _ | _ | _ | _ | k
      · rw [upd_ne (by omega), upd_ne (by omega), upd_ne (by omega), upd_ne (by omega), upd_eq]; rfl
      · rw [upd_ne (by omega), upd_ne (by omega), upd_ne (by omega), upd_eq]; rfl
      · rw [upd_ne (by omega), upd_ne (by omega), upd_eq]; rfl
      · rw [upd_ne (by omega), upd_eq]; rfl
      · rw [upd_eq]; rfl
      · omega
    · rw [if_neg hkn, upd_ne (by omega), upd_ne (by omega), upd_ne (by omega), upd_ne (by omega), upd_ne (by omega)]
  refine ⟨te_WU hte wU, ?_, wm_c (fun i hi => ho i (by omega) (by omega)) wM, wj_c wU hte (ho 5 (by omega) (by omega)) (fun i hi => ho i (by omega) (by omega)) wJ, ?_, ws_c (fun i hi => ho i (by omega) (by omega)) wS⟩
  · unfold WUse
    rw [te_nu hte, ho 0 (by omega) (by omega), sumN_cong (g := fun u => zN (a (34 + u))) (fun k hk => by rw [ho (34 + k) (by omega) (by omega)])]
    exact ⟨fun v hv => by rw [ho (34 + v) (by omega) (by omega)]; exact wUse.1 v hv, wUse.2⟩
  · unfold WL
    rw [enl, e7, te_nu hte, ho 0 (by omega) (by omega)]
    refine ⟨rfl, by omega, fun l hl => ?_, fun l hl => ?_⟩
    · rw [g l 0 (by omega) (by omega), g l 1 (by omega) (by omega), g l 3 (by omega) (by omega), g l 4 (by omega) (by omega)]
      simp only [te_lfS hte h12]
      by_cases z : l = nl a
      · subst z
        simp only [if_pos]
        exact ⟨f, t, zN (a 0), q, hf, ht, hft, lf, lt, rfl, rfl, wS.1, Nat.le_refl _, rfl, hq1, hq2⟩
      · simp only [if_neg z]
        exact wL.2.2.1 l (by omega)
    · rw [g l 2 (by omega) (by omega)]
      by_cases z : l = nl a
      · rw [if_pos z]; exact ⟨s, hs1, hs2, rfl⟩
      · rw [if_neg z]; exact wL.2.2.2 l (by omega)
/-- one more job -/
theorem wf_aj {u s : Nat} (hW : WF T a) (h30 : nj a < 30) (hu : u < nu a) (lf : lfS a u) : WF T (adJ a (nI u) (nI s)) ∧ (WV a → WV (adJ a (nI u) (nI s))) := by
  have wJ := hW.2.2.2.1
  have ho : ∀ i, i ≠ 6 → (i < 58 ∨ 268 ≤ i) → adJ a (nI u) (nI s) i = a i := fun i h1 h2 => by
    unfold adJ
    rw [upd_ne h1, lay_o h30 (by omega) h2, lay_o h30 (by omega) h2, lay_o h30 (by omega) h2, lay_o h30 (by omega) h2, lay_o h30 (by omega) h2, lay_o h30 (by omega) h2, lay_o h30 (by omega) h2]
  have hJE : ∀ i, (i = 4 ∨ 10 ≤ i ∧ i < 34) → adJ a (nI u) (nI s) i = a i := fun i hi => ho i (by omega) (by omega)
  have e6 : adJ a (nI u) (nI s) 6 = nI (nj a + 1) := by
    unfold adJ
    rw [upd_eq, ← nI_1, ← wJ.1]
  have enj : nj (adJ a (nI u) (nI s)) = nj a + 1 := by rw [nj, e6, zN, nI_clamp (by omega)]
  have em : nm (adJ a (nI u) (nI s)) = nm a := congrArg zN (ho 5 (by omega) (by omega))
  have g : ∀ j f, j < 30 → f < 7 → jb (adJ a (nI u) (nI s)) j f = if j = nj a then [nI u, nI s, 0, 0, -1, -1, 0].getD f 0 else jb a j f := by
    intro j f hj hf
    unfold adJ
    rw [show jb (upd (layJ (layJ (layJ (layJ (layJ (layJ (layJ a (nj a) 0 (nI u)) (nj a) 1 (nI s)) (nj a) 2 0) (nj a) 3 0) (nj a) 4 (-1)) (nj a) 5 (-1)) (nj a) 6 0) 6 (a 6 + 1)) j f = _ from upd_ne (by omega)]
    show jb (layJ (layJ (layJ (layJ (layJ (layJ (layJ a (nj a) 0 (nI u)) (nj a) 1 (nI s)) (nj a) 2 0) (nj a) 3 0) (nj a) 4 (-1)) (nj a) 5 (-1)) (nj a) 6 0) j f = _
    rw [jb_lay (by omega) hf, jb_lay (by omega) hf, jb_lay (by omega) hf, jb_lay (by omega) hf, jb_lay (by omega) hf, jb_lay (by omega) hf, jb_lay (by omega) hf]
    by_cases z : j = nj a
    · subst z
      rcases f with _ | _ | _ | _ | _ | _ | _ | f
      · simp
      · simp
      · simp
      · simp
      · simp
      · simp
      · simp
      · omega
    · simp [z]
  have h12 := hW.1.2.2.1
  have h6 := hW.2.2.1.2.1
  refine ⟨⟨te_WU hJE hW.1, ?_, wm_c (fun i hi => ho i (by omega) (by omega)) hW.2.2.1, ?_, wl_c hW.1 hJE (ho 0 (by omega) (by omega)) (fun i hi => ho i (by omega) (by omega)) hW.2.2.2.2.1, ws_c (fun i hi => ho i (by omega) (by omega)) hW.2.2.2.2.2⟩, fun hV => ?_⟩
  · unfold WUse
    rw [te_nu hJE, ho 0 (by omega) (by omega), sumN_cong (g := fun u => zN (a (34 + u))) (fun k hk => by rw [ho (34 + k) (by omega) (by omega)])]
    exact ⟨fun v hv => by rw [ho (34 + v) (by omega) (by omega)]; exact hW.2.1.1 v hv, hW.2.1.2⟩
  · unfold WJ
    rw [enj, e6, te_nu hJE, em]
    refine ⟨rfl, by omega, fun j hj => ?_, fun j hj => ?_, fun j hj => ?_⟩
    · rw [g j 0 (by omega) (by omega)]
      simp only [te_lfS hJE h12]
      by_cases z : j = nj a
      · rw [if_pos z]; exact ⟨u, hu, rfl, lf⟩
      · rw [if_neg z]; exact wJ.2.2.1 j (by omega)
    · rw [g j 3 (by omega) (by omega)]
      by_cases z : j = nj a
      · rw [if_pos z]; exact Or.inl rfl
      · rw [if_neg z]; exact wJ.2.2.2.1 j (by omega)
    · rw [g j 3 (by omega) (by omega), g j 4 (by omega) (by omega)]
      by_cases z : j = nj a
      · rw [if_pos z, if_pos z]; intro y; exact absurd (show (0 : Int32) = 1 from y) (by decide)
      · rw [if_neg z, if_neg z]; exact wJ.2.2.2.2 j (by omega)
  · intro j m hj h3 hm h4
    rw [enj] at hj
    rw [em] at hm
    rw [g j 3 (by omega) (by omega)] at h3
    rw [g j 4 (by omega) (by omega)] at h4
    rw [ho (52 + m) (by omega) (by omega)]
    by_cases z : j = nj a
    · rw [if_pos z] at h3; exact absurd (show (0 : Int32) = 1 from h3) (by decide)
    · rw [if_neg z] at h3 h4; exact hV j m (by omega) h3 hm h4
/-- a setting -/
def leS (k : Nat) : Nat := if k = 1 then 0 else 1
def moS (k : Nat) : Nat := if k = 0 then 50 else if k = 1 then 400 else 20
theorem wf_st {k v : Nat} (hW : WF T a) (hk : k < 3) (h1 : leS k ≤ v) (h2 : v ≤ moS k) : WF T (upd a (1 + k) (nI v)) ∧ (WV a → WV (upd a (1 + k) (nI v))) := by
  have hm : moS k ≤ 400 := by unfold moS; by_cases z : k = 0; · simp [z]
                              · by_cases y : k = 1 <;> simp [z, y]
  have ho : ∀ i, i ≠ 1 + k → upd a (1 + k) (nI v) i = a i := fun i hi => upd_ne hi
  have hte : TE a (upd a (1 + k) (nI v)) := fun i hi => ho i (by omega)
  obtain ⟨wU, wUse, wM, wJ, wL, wS⟩ := hW
  refine ⟨⟨te_WU hte wU, ?_, wm_c (fun i hi => ho i (by omega)) wM, wj_c wU hte (ho 5 (by omega)) (fun i hi => ho i (by omega)) wJ, wl_c wU hte (ho 0 (by omega)) (fun i hi => ho i (by omega)) wL, ?_⟩, fun hV => ?_⟩
  · unfold WUse
    rw [te_nu hte, ho 0 (by omega), sumN_cong (g := fun u => zN (a (34 + u))) (fun k hk => by rw [ho (34 + k) (by omega)])]
    exact ⟨fun v hv => by rw [ho (34 + v) (by omega)]; exact wUse.1 v hv, wUse.2⟩
  · obtain ⟨s1, s2, s3, s4, s5, s6, s7, s8, s9, s10, s11⟩ := wS
    have hz : zN (nI v) = v := nI_clamp (by omega)
    unfold WS
    rw [ho 0 (by omega)]
    refine ⟨s1, s2, s3, ?_⟩
    rcases (show k = 0 ∨ k = 1 ∨ k = 2 by omega) with z | z | z
    · subst z
      have e1 : upd a (1 + 0) (nI v) 1 = nI v := upd_eq
      rw [e1, hz, ho 2 (by omega), ho 3 (by omega)]
      exact ⟨rfl, by simpa [leS] using h1, by simpa [moS] using h2, s7, s8, s9, s10, s11⟩
    · subst z
      have e1 : upd a (1 + 1) (nI v) 2 = nI v := upd_eq
      rw [e1, hz, ho 1 (by omega), ho 3 (by omega)]
      exact ⟨s4, s5, s6, rfl, by simpa [moS] using h2, s9, s10, s11⟩
    · subst z
      have e1 : upd a (1 + 2) (nI v) 3 = nI v := upd_eq
      rw [e1, hz, ho 1 (by omega), ho 2 (by omega)]
      exact ⟨s4, s5, s6, s7, s8, rfl, by simpa [leS] using h1, by simpa [moS] using h2⟩
  · intro j m hj h3 hm h4
    rw [show nj (upd a (1 + k) (nI v)) = nj a from congrArg zN (ho 6 (by omega))] at hj
    rw [show nm (upd a (1 + k) (nI v)) = nm a from congrArg zN (ho 5 (by omega))] at hm
    rw [show jb (upd a (1 + k) (nI v)) j 3 = jb a j 3 from ho _ (by omega)] at h3
    rw [show jb (upd a (1 + k) (nI v)) j 4 = jb a j 4 from ho _ (by omega)] at h4
    rw [ho (52 + m) (by omega)]
    exact hV j m hj h3 hm h4
end WFC
