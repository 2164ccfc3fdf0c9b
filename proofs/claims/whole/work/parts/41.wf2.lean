/-! ticks: what stays true of the machines, how many jobs a tick ends, cancelled jobs -/
section WF2
variable {a b : Row} {T B : Nat}
theorem wv_sh {u : Nat} {x : Int32} (hV : WV a) (hu : u < 12) : WV (upd a (22 + u) x) := by
  intro j m hj h3 hm h4
  rw [show nj (upd a (22 + u) x) = nj a from nj_u (by omega)] at hj
  rw [show nm (upd a (22 + u) x) = nm a from congrArg zN (upd_ne (by omega))] at hm
  rw [jb_u (by omega)] at h3 h4
  rw [upd_ne (by omega)]
  exact hV j m hj h3 hm h4
/-- rows that agree on jobs and machines -/
theorem wv_c (h : ∀ i, (i = 5 ∨ i = 6 ∨ 52 ≤ i ∧ i < 268) → b i = a i) (h6 : nm a ≤ 6) (h30 : nj a ≤ 30) (hV : WV a) : WV b := by
  intro j m hj h3 hm h4
  rw [show nj b = nj a from congrArg zN (h 6 (by omega))] at hj
  rw [show nm b = nm a from congrArg zN (h 5 (by omega))] at hm
  rw [show jb b j 3 = jb a j 3 from h _ (by omega)] at h3
  rw [show jb b j 4 = jb a j 4 from h _ (by omega)] at h4
  rw [h (52 + m) (by omega)]
  exact hV j m hj h3 hm h4
theorem wv_al {u v t q : Int32} (hW : WF T a) (h8 : nl a < 8) (hV : WV a) : WV (adL a u v t q) := by
  refine wv_c (fun i hi => ?_) hW.2.2.1.2.1 hW.2.2.2.1.2.1 hV
  unfold adL
  rw [upd_ne (by omega)]
  simp only [layL]
  rw [upd_ne (by omega), upd_ne (by omega), upd_ne (by omega), upd_ne (by omega), upd_ne (by omega)]
theorem wv_end {j : Nat} {s : Int32} (hV : WV a) (hs : s = 2 ∨ s = 3) (hj : j < 30) (h6 : nm a ≤ 6) : WV (endS a j s) := by
  have hJE := je_end (a := a) (j := j) (m := s) hj
  intro k m' hk h3 hm' h4
  rw [nj_end] at hk
  rw [show nm (endS a j s) = nm a from congrArg zN (hJE 5 (by omega))] at hm'
  rw [hJE (52 + m') (by omega)]
  by_cases z : k = j
  · subst z
    rw [jb_end (by omega), if_neg (fun y => by omega), if_neg (fun y => by omega), if_pos ⟨rfl, rfl⟩] at h3
    rcases hs with rfl | rfl <;> exact absurd h3 (by decide)
  · rw [jb_end (by omega), if_neg (fun y => z y.1), if_neg (fun y => z y.1), if_neg (fun y => z y.1)] at h3 h4
    exact hV k m' hk h3 hm' h4
theorem wk_jb {j k g : Nat} (hg : g = 3 ∨ g = 4) (hu : zN (jb a j 0) < 12) : jb (wkStep a j) k g = if k = j ∧ jb a j 3 = 1 ∧ ¬ jb a j 2 + 1 < jb a j 1 then (if g = 3 then 2 else -1) else jb a k g := by
  unfold wkStep
  by_cases h1 : jb a j 3 = 1
  · by_cases h2 : jb a j 2 + 1 < jb a j 1
    · rw [if_pos h1, if_pos h2, jb_u (by omega), jb_lay (by omega) (by omega), if_neg (show ¬ (k = j ∧ g = 2) by omega), if_neg (fun z => z.2.2 h2)]
    · rw [if_pos h1, if_neg h2, jb_end (by omega), jb_u (by omega), jb_lay (by omega) (by omega)]
      by_cases z : k = j
      · rcases hg with rfl | rfl <;> simp [z, h1, h2]
      · rcases hg with rfl | rfl <;> simp [z]
  · rw [if_neg h1, if_neg (show ¬ (k = j ∧ jb a j 3 = 1 ∧ ¬ jb a j 2 + 1 < jb a j 1) from fun z => h1 z.2.1)]
    by_cases h2 : jb a j 3 = 0
    · rw [if_pos h2, jb_lay (by omega) (by omega), if_neg (show ¬ (k = j ∧ g = 6) by omega)]
    · rw [if_neg h2]
theorem wk_u (wU : WU a) (wJ : WJ a) {j : Nat} (hj : j < nj a) : zN (jb a j 0) < 12 := by
  obtain ⟨u, h1, h2, -⟩ := wJ.2.2.1 j hj
  have h12 := wU.2.2.1
  rw [h2, zN, nI_clamp (by omega)]
  omega
theorem wv_wk (hW : WFB T B a) (hB : B + 30000 < 2 ^ 31) (hV : WV a) : ∀ k, k ≤ nj a → WV (wkF a k) := by
  intro k
  induction k with
  | zero => intro _; exact hV
  | succ k ih =>
    intro hk
    have hv := ih (by omega)
    obtain ⟨w1, w2⟩ := wkF_ok hW hB k (by omega)
    have h30 := w1.2.2.2.1.2.1
    have h6 := w1.2.2.1.2.1
    have hu := wk_u w1.1 w1.2.2.2.1 (show k < nj (wkF a k) by omega)
    have h30' : k < 30 := by omega
    rw [wkF]
    have o := fun i hi => wkStep_o (a := wkF a k) (i := i) h30' hi hu
    intro j m hj h3 hm h4
    rw [(wkStep_ok w1 (by have := hW.2.2.2.1.2.1; omega) (show k < nj (wkF a k) by omega)).2] at hj
    rw [show nm (wkStep (wkF a k) k) = nm (wkF a k) from congrArg zN (o 5 (by omega))] at hm
    rw [o (52 + m) (by omega)]
    rw [wk_jb (Or.inl rfl) hu] at h3
    rw [wk_jb (Or.inr rfl) hu] at h4
    by_cases z : j = k ∧ jb (wkF a k) k 3 = 1 ∧ ¬ jb (wkF a k) k 2 + 1 < jb (wkF a k) k 1
    · rw [if_pos z, if_pos rfl] at h3; exact absurd h3 (by decide)
    · rw [if_neg z] at h3 h4; exact hv j m hj h3 hm h4
theorem wv_hv (hW : WFB T B a) (hV : WV a) : WV (hvS a) := by
  have h12 := hW.1.2.2.1
  exact wv_c (fun i hi => hv_o (by omega) h12) hW.2.2.1.2.1 hW.2.2.2.1.2.1 hV
theorem wv_dr (hW : WFB T B a) (hV : WV a) : WV (drS a) := by
  have wL := hW.2.2.2.2.1
  have d3 := (drS_ok wL.1 wL.2.1).2.2
  exact wv_c (fun i hi => d3 i (by omega) (by omega)) hW.2.2.1.2.1 hW.2.2.2.1.2.1 hV
theorem wv_tick (hW : WF T a) (hT : T < 10399) (hV : WV a) : WV (hvS (wkS (upd a 0 (a 0 + 1)))) ∧ WV (tkOne a) := by
  obtain ⟨w1, w2, w3⟩ := wf_t0 hW hT
  have ht := hW.2.2.2.2.2.2.1
  have hB : 30000 * zN (a 0) + 30000 < 2 ^ 31 := by omega
  have v0 : WV (upd a 0 (a 0 + 1)) := wv_c (fun i hi => w3 i (by omega)) hW.2.2.1.2.1 hW.2.2.2.1.2.1 hV
  obtain ⟨v1, v2⟩ := wkF_ok w1 hB _ (Nat.le_refl _)
  have h30 := w1.2.2.2.1.2.1
  have e1 : WV (hvS (wkS (upd a 0 (a 0 + 1)))) := wv_hv v1 (wv_wk w1 hB v0 _ (Nat.le_refl _))
  have e2 : WV (tkB a) := wv_dr (wfb_hv v1 (by omega)) e1
  obtain ⟨wt, et⟩ := wf_tkB hW hT
  have e3 : WV (fiS (tkB a)) := wv_fi 30 _ wt e2
  exact ⟨e1, wv_pr (wf_fi wt) e3 _ (Nat.le_refl _)⟩
/-- counts of states -/
theorem in_ch {w : Int32} (hn : nj b = nj a) {j : Nat} (hj : j < nj a) (h : ∀ k, k ≠ j → jb b k 3 = jb a k 3) : inS b w = inS a w - (if jb a j 3 = w then 1 else 0) + (if jb b j 3 = w then 1 else 0) := by
  unfold inS
  rw [hn]
  exact cnt_ch (P := fun k => jb a k 3 = w) (R := fun k => jb b k 3 = w) hj (fun k hk => by rw [h k hk])
theorem in_eq {w : Int32} (hn : nj b = nj a) (h : ∀ k, k < nj a → jb b k 3 = jb a k 3) : inS b w = inS a w := by
  unfold inS
  rw [hn]
  exact sumI_cong fun k hk => by rw [h k hk]
/-- jobs cancelled afterwards were cancelled before, no job is new, so many are finished more -/
def Sd (a b : Row) (d : Int32) : Prop := nj b = nj a ∧ (∀ j, j < nj a → jb b j 3 = 3 → jb a j 3 = 3) ∧ inS b 2 = inS a 2 + d
theorem sd_r : Sd a a 0 := ⟨rfl, fun _ _ h => h, by rw [Int32.add_zero]⟩
theorem sd_t {c : Row} {d e : Int32} (h : Sd a b d) (h2 : Sd b c e) : Sd a c (d + e) := ⟨h2.1.trans h.1, fun j hj h3 => h.2.1 j hj (h2.2.1 j (by rw [h.1]; exact hj) h3), by rw [h2.2.2, h.2.2, Int32.add_assoc]⟩
theorem sd_t0 {c : Row} {d : Int32} (h : Sd a b d) (h2 : Sd b c 0) : Sd a c d := by
  have := sd_t h h2
  rwa [Int32.add_zero] at this
theorem sd_e (hn : nj b = nj a) (h : ∀ k, k < nj a → jb b k 3 = jb a k 3) : Sd a b 0 := ⟨hn, fun j hj h3 => by rw [← h j hj]; exact h3, by rw [in_eq hn h, Int32.add_zero]⟩
theorem sd_ch {s : Int32} (hn : nj b = nj a) {j : Nat} (hj : j < nj a) (h : ∀ k, k ≠ j → jb b k 3 = jb a k 3) (h2 : jb a j 3 ≠ 2) (hs : jb b j 3 = s) (h3 : s ≠ 2) (h4 : s ≠ 3) : Sd a b 0 := by
  refine ⟨hn, fun k hk h5 => ?_, ?_⟩
  · by_cases z : k = j
    · subst z; exact absurd (hs.symm.trans h5) h4
    · rw [← h k z]; exact h5
  · rw [in_ch hn hj h, if_neg h2, hs, if_neg h3, Int32.sub_zero, Int32.add_zero]
theorem sd_wk (hW : WFB T B a) (hB : B + 30000 < 2 ^ 31) : ∀ k, k ≤ nj a → Sd a (wkF a k) (fnF a k) := by
  intro k
  induction k with
  | zero => intro _; exact sd_r
  | succ k ih =>
    intro hk
    have hv := ih (by omega)
    obtain ⟨w1, w2⟩ := wkF_ok hW hB k (by omega)
    have hu := wk_u w1.1 w1.2.2.2.1 (show k < nj (wkF a k) by omega)
    have en := (wkStep_ok w1 (by have := hW.2.2.2.1.2.1; omega) (show k < nj (wkF a k) by omega)).2
    rw [wkF, fnF]
    refine sd_t hv ⟨en, fun j hj h3 => ?_, ?_⟩
    · rw [wk_jb (Or.inl rfl) hu] at h3
      by_cases z : j = k ∧ jb (wkF a k) k 3 = 1 ∧ ¬ jb (wkF a k) k 2 + 1 < jb (wkF a k) k 1
      · rw [if_pos z, if_pos rfl] at h3; exact absurd h3 (by decide)
      · rw [if_neg z] at h3; exact h3
    · rw [in_ch en (show k < nj (wkF a k) by omega) (fun j hj => by rw [wk_jb (Or.inl rfl) hu, if_neg (fun z => hj z.1)]), wk_jb (Or.inl rfl) hu]
      by_cases z : jb (wkF a k) k 3 = 1 ∧ ¬ jb (wkF a k) k 2 + 1 < jb (wkF a k) k 1
      · rw [if_pos z, if_pos (show k = k ∧ jb (wkF a k) k 3 = 1 ∧ ¬ jb (wkF a k) k 2 + 1 < jb (wkF a k) k 1 from ⟨rfl, z⟩), if_pos rfl, if_neg (show ¬ jb (wkF a k) k 3 = 2 by rw [z.1]; decide), Int32.sub_zero, if_pos rfl]
      · rw [if_neg z, if_neg (show ¬ (k = k ∧ jb (wkF a k) k 3 = 1 ∧ ¬ jb (wkF a k) k 2 + 1 < jb (wkF a k) k 1) from fun y => z y.2)]
        generalize inS (wkF a k) 2 = x0
        by_cases y : jb (wkF a k) k 3 = 2
        · rw [if_pos y, Int32.sub_add_cancel, Int32.add_zero]
        · rw [if_neg y, Int32.sub_zero]
theorem sd_run {j : Nat} {m : Int32} (hj : j < nj a) (h0 : jb a j 3 = 0) : Sd a (runS a j m) 0 :=
  sd_ch (s := 1) nj_run hj (fun k hk => by rw [jb_run (by omega), if_neg (fun z => hk z.1), if_neg (fun z => hk z.1)]) (by rw [h0]; decide) (by rw [jb_run (by omega), if_neg (fun z => by omega), if_pos ⟨rfl, rfl⟩]) (by decide) (by decide)
theorem sd_int {j : Nat} (hj : j < nj a) (h0 : jb a j 3 = 1) : Sd a (intS a j) 0 :=
  sd_ch (s := 0) nj_int hj (fun k hk => by rw [jb_int (by omega), if_neg (fun z => hk z.1), if_neg (fun z => hk z.1), if_neg (fun z => hk z.1)]) (by rw [h0]; decide) (by rw [jb_int (by omega), if_neg (fun z => by omega), if_pos ⟨rfl, rfl⟩]) (by decide) (by decide)
theorem sd_fi : ∀ n a, WF T a → Sd a (fiF n a) 0 := by
  intro n
  induction n with
  | zero => intro a _; exact sd_r
  | succ n ih =>
    intro a hW
    rw [fiF]
    by_cases h1 : fmS a = -1
    · rw [if_pos h1]; exact sd_r
    · rw [if_neg h1]
      by_cases h2 : bwS a = -1
      · rw [if_pos h2]; exact sd_r
      · rw [if_neg h2]
        have h30 := hW.2.2.2.1.2.1
        have h6 := hW.2.2.1.2.1
        obtain ⟨m, hm, em, hup, -⟩ := (fmS_ok hW.2.2.1).resolve_left (fun z => h1 z.1)
        obtain ⟨j, hj, ej, hj3⟩ := (bwS_ok hW.2.2.2.1).resolve_left (fun z => h2 z.1)
        rw [ej, em, zN, nI_clamp (by omega)]
        exact sd_t0 (sd_run hj hj3) (ih _ (wf_run hW hj hm))
theorem sd_pr (hW : WF T a) : ∀ k, k ≤ nm a → Sd a (prF a k) 0 := by
  intro k
  induction k with
  | zero => intro _; exact sd_r
  | succ k ih =>
    intro hk
    obtain ⟨w1, w2, w3⟩ := prF_ok hW k (by omega)
    rw [prF]
    refine sd_t0 (ih (by omega)) ?_
    rcases pr_ok w1 (m := k) (by omega) with z | ⟨b, r, hb, hr, -, -, -, -, hr3, hr4, hb0, e, -, -, -⟩
    · rw [z]; exact sd_r
    · rw [e]; exact sd_t0 (sd_int hr hr3) (sd_run (by rw [nj_int]; exact hb) hb0)
abbrev fnT (a : Row) : Int32 := fnF (upd a 0 (a 0 + 1)) (nj a)
theorem sd_tick (hW : WF T a) (hT : T < 10399) : Sd a (tkOne a) (fnT a) := by
  obtain ⟨w1, w2, w3⟩ := wf_t0 hW hT
  have ht := hW.2.2.2.2.2.2.1
  have hB : 30000 * zN (a 0) + 30000 < 2 ^ 31 := by omega
  have enj : nj (upd a 0 (a 0 + 1)) = nj a := nj_u (by omega)
  obtain ⟨v1, v2⟩ := wkF_ok w1 hB _ (Nat.le_refl _)
  have h12 := v1.1.2.2.1
  have h30 := w1.2.2.2.1.2.1
  have wh : WFB _ _ (hvS (wkS (upd a 0 (a 0 + 1)))) := wfb_hv v1 (by omega)
  have h30' := wh.2.2.2.1.2.1
  have wL := wh.2.2.2.2.1
  have d3 := (drS_ok wL.1 wL.2.1).2.2
  have e0 : Sd a (upd a 0 (a 0 + 1)) 0 := sd_e enj (fun k _ => jb_u (by omega))
  have e1 := sd_wk w1 hB _ (Nat.le_refl _)
  have e2 : Sd (wkF (upd a 0 (a 0 + 1)) (nj (upd a 0 (a 0 + 1)))) (hvS (wkS (upd a 0 (a 0 + 1)))) 0 := sd_e (congrArg zN (hv_o (i := 6) (by omega) h12)) (fun k hk => hv_o (by omega) h12)
  have e3 : Sd (hvS (wkS (upd a 0 (a 0 + 1)))) (tkB a) 0 := sd_e (congrArg zN (d3 6 (by omega) (by omega))) (fun k hk => d3 _ (by omega) (by omega))
  obtain ⟨wt, et⟩ := wf_tkB hW hT
  have e4 : Sd (tkB a) (fiS (tkB a)) 0 := sd_fi 30 _ wt
  have e5 := sd_pr (wf_fi wt) _ (Nat.le_refl _)
  rw [enj] at e1
  have e6 := sd_t e0 e1
  rw [Int32.zero_add] at e6
  rw [enj] at e2
  exact sd_t0 (sd_t0 (sd_t0 (sd_t0 e6 e2) e3) e4) e5
/-- so many ticks -/
def tkN (a : Row) : Nat → Row
  | 0 => a
  | n + 1 => tkOne (tkN a n)
def fnN (a : Row) : Nat → Int32
  | 0 => 0
  | n + 1 => fnN a n + fnT (tkN a n)
theorem tkN_ok (hW : WF T a) (hV : WV a) : ∀ n, T + n ≤ 10399 → WF (T + n) (tkN a n) ∧ WV (tkN a n) ∧ Sd a (tkN a n) (fnN a n) := by
  intro n
  induction n with
  | zero => intro _; exact ⟨hW, hV, sd_r⟩
  | succ n ih =>
    intro h
    obtain ⟨h1, h2, h3⟩ := ih (by omega)
    exact ⟨(wf_tick h1 (by omega) : WF (T + n + 1) _), (wv_tick h1 (by omega) h2).2, sd_t h3 (sd_tick h1 (by omega))⟩
theorem wf_le {T' : Nat} (hW : WF T a) (h : T ≤ T') (h2 : T' ≤ 10399) : WF T' a := ⟨hW.1, hW.2.1, hW.2.2.1, hW.2.2.2.1, hW.2.2.2.2.1, hW.2.2.2.2.2.1, Nat.le_trans hW.2.2.2.2.2.2.1 h, h2, hW.2.2.2.2.2.2.2.2⟩
theorem wf_lo (hW : WF T a) : WF (zN (a 0)) a := ⟨hW.1, hW.2.1, hW.2.2.1, hW.2.2.2.1, hW.2.2.2.2.1, hW.2.2.2.2.2.1, Nat.le_refl _, Nat.le_trans hW.2.2.2.2.2.2.1 hW.2.2.2.2.2.2.2.1, hW.2.2.2.2.2.2.2.2⟩
theorem fi_o {i : Nat} (hi : i = 8 ∨ i = 9) : ∀ n a, WF T a → fiF n a i = a i := by
  intro n
  induction n with
  | zero => intro a _; rfl
  | succ n ih =>
    intro a hW
    rw [fiF]
    by_cases h1 : fmS a = -1
    · rw [if_pos h1]
    · rw [if_neg h1]
      by_cases h2 : bwS a = -1
      · rw [if_pos h2]
      · rw [if_neg h2]
        have h30 := hW.2.2.2.1.2.1
        have h6 := hW.2.2.1.2.1
        obtain ⟨m, hm, em, hup, -⟩ := (fmS_ok hW.2.2.1).resolve_left (fun z => h1 z.1)
        obtain ⟨j, hj, ej, hj3⟩ := (bwS_ok hW.2.2.2.1).resolve_left (fun z => h2 z.1)
        rw [ej, em, zN, nI_clamp (by omega), ih _ (wf_run hW hj hm)]
        unfold runS
        rw [lay_o (by omega) (by omega) (by omega), lay_o (by omega) (by omega) (by omega)]
theorem wv_sw {m : Nat} {b : Int32} (hW : WF T a) (hV : WV a) (hm : m < nm a) : WV (swS a m b) := by
  have h6 := hW.2.2.1.2.1
  have h30 := hW.2.2.2.1.2.1
  have wu := wf_up (b := b) hW hm
  have o : ∀ i, i ≠ 52 + m → upS a m b i = a i := fun i hi => upd_ne hi
  have ej : nj (upS a m b) = nj a := congrArg zN (o 6 (by omega))
  have em : nm (upS a m b) = nm a := congrArg zN (o 5 (by omega))
  have ejb : ∀ j f, jb (upS a m b) j f = jb a j f := fun j f => o _ (by omega)
  unfold swS
  by_cases h : b = 0
  · rw [if_pos h]
    obtain ⟨w1, w2, w3⟩ := swF_ok wu (m := m) (nj (upS a m b)) (Nat.le_refl _)
    rw [ej] at w1 w2 w3
    refine wv_fi 30 _ w1 ?_
    have key : ∀ k, k ≤ nj a → ∀ j m', j < nj a → m' < nm a → jb (swF m k (upS a m b)) j 3 = 1 → jb (swF m k (upS a m b)) j 4 = nI m' → (m' = m ∧ k ≤ j) ∨ upS a m b (52 + m') = 1 := by
      intro k
      induction k with
      | zero =>
        intro _ j m' hj hm' h3 h4
        by_cases z : m' = m
        · exact Or.inl ⟨z, Nat.zero_le _⟩
        · refine Or.inr ?_
          rw [o _ (by omega)]
          simp only [swF] at h3 h4
          rw [ejb] at h3 h4
          exact hV j m' hj h3 hm' h4
      | succ k ih =>
        intro hk j m' hj hm' h3 h4
        rw [swF] at h3 h4
        by_cases z : jb (swF m k (upS a m b)) k 3 = 1 ∧ jb (swF m k (upS a m b)) k 4 = nI m
        · rw [if_pos z] at h3 h4
          by_cases y : j = k
          · subst y
            rw [jb_int (by omega), if_neg (fun y => by omega), if_pos ⟨rfl, rfl⟩] at h3
            exact absurd h3 (by decide)
          · rw [jb_int (by omega), if_neg (fun z => y z.1), if_neg (fun z => y z.1), if_neg (fun z => y z.1)] at h3 h4
            rcases ih (by omega) j m' hj hm' h3 h4 with ⟨e1, e2⟩ | e
            · exact Or.inl ⟨e1, by omega⟩
            · exact Or.inr e
        · rw [if_neg z] at h3 h4
          rcases ih (by omega) j m' hj hm' h3 h4 with ⟨e1, e2⟩ | e
          · by_cases y : j = k
            · subst y; subst e1; exact absurd ⟨h3, h4⟩ z
            · exact Or.inl ⟨e1, by omega⟩
          · exact Or.inr e
    intro j m' hj h3 hm' h4
    rw [w2] at hj
    rw [show nm (swF m (nj a) (upS a m b)) = nm a from (congrArg zN (w3 5 (by omega))).trans em] at hm'
    rw [w3 (52 + m') (by omega)]
    rcases key _ (Nat.le_refl _) j m' hj hm' h3 h4 with ⟨e1, e2⟩ | e
    · omega
    · exact e
  · rw [if_neg h]
    refine wv_fi 30 _ wu (fun j m' hj h3 hm' h4 => ?_)
    rw [ej] at hj
    rw [em] at hm'
    rw [ejb] at h3 h4
    by_cases z : m' = m
    · subst z
      show upd a (52 + m') (if b = 0 then 0 else 1) (52 + m') = 1
      rw [upd_eq, if_neg h]
    · rw [o _ (by omega)]
      exact hV j m' hj h3 hm' h4
theorem wf_sw {m : Nat} {b : Int32} (hW : WF T a) (hm : m < nm a) : WF T (swS a m b) := by
  have wu := wf_up (b := b) hW hm
  unfold swS
  by_cases h : b = 0
  · rw [if_pos h]
    have ej : nj (upS a m b) = nj a := congrArg zN (upd_ne (by omega))
    exact wf_fi (swF_ok wu (m := m) (nj a) (by omega)).1
  · rw [if_neg h]; exact wf_fi wu
theorem fi_2F {k : Nat} : ∀ n a, WF T a → jb (fiF n a) k 2 = jb a k 2 := by
  intro n
  induction n with
  | zero => intro a _; rfl
  | succ n ih =>
    intro a hW
    rw [fiF]
    by_cases h1 : fmS a = -1
    · rw [if_pos h1]
    · rw [if_neg h1]
      by_cases h2 : bwS a = -1
      · rw [if_pos h2]
      · rw [if_neg h2]
        have h30 := hW.2.2.2.1.2.1
        have h6 := hW.2.2.1.2.1
        obtain ⟨m, hm, em, hup, -⟩ := (fmS_ok hW.2.2.1).resolve_left (fun z => h1 z.1)
        obtain ⟨j, hj, ej, hj3⟩ := (bwS_ok hW.2.2.2.1).resolve_left (fun z => h2 z.1)
        rw [ej, em, zN, nI_clamp (by omega), ih _ (wf_run hW hj hm), jb_run (by omega), if_neg (by omega), if_neg (by omega)]
theorem fi_2 {k : Nat} (hW : WF T a) : jb (fiS a) k 2 = jb a k 2 := fi_2F 30 a hW
/-- one more machine -/
theorem wf_am {s : Nat} (hW : WF T a) (hV : WV a) (h6 : nm a < 6) (h1 : 1 ≤ s) (h2 : s ≤ 4) : WF T (adM a (nI s)) ∧ WV (adM a (nI s)) := by
  obtain ⟨wU, wUse, wM, wJ, wL, wS⟩ := hW
  have h12 := wU.2.2.1
  have h30 := wJ.2.1
  have ho : ∀ i, i ≠ 5 → i ≠ 46 + nm a → i ≠ 52 + nm a → adM a (nI s) i = a i := fun i z1 z2 z3 => by
    unfold adM
    rw [upd_ne z1, upd_ne z3, upd_ne z2]
  have e46 : adM a (nI s) (46 + nm a) = nI s := by
    unfold adM
    rw [upd_ne (by omega), upd_ne (by omega), upd_eq]
  have e52 : adM a (nI s) (52 + nm a) = 1 := by
    unfold adM
    rw [upd_ne (by omega), upd_eq]
  have hte : TE a (adM a (nI s)) := fun i hi => ho i (by omega) (by omega) (by omega)
  have e5 : adM a (nI s) 5 = nI (nm a + 1) := by
    unfold adM
    rw [upd_eq, ← nI_1, ← wM.1]
  have enm : nm (adM a (nI s)) = nm a + 1 := by rw [nm, e5, zN, nI_clamp (by omega)]
  have ej : nj (adM a (nI s)) = nj a := congrArg zN (ho 6 (by omega) (by omega) (by omega))
  have gj : ∀ j f, jb (adM a (nI s)) j f = jb a j f := fun j f => ho _ (by omega) (by omega) (by omega)
  refine ⟨⟨te_WU hte wU, ?_, ?_, ?_, wl_c wU hte (ho 0 (by omega) (by omega) (by omega)) (fun i hi => ho i (by omega) (by omega) (by omega)) wL, ws_c (fun i hi => ho i (by omega) (by omega) (by omega)) wS⟩, ?_⟩
  · unfold WUse
    rw [te_nu hte, ho 0 (by omega) (by omega) (by omega), sumN_cong (g := fun u => zN (a (34 + u))) (fun k hk => by rw [ho (34 + k) (by omega) (by omega) (by omega)])]
    exact ⟨fun v hv => by rw [ho (34 + v) (by omega) (by omega) (by omega)]; exact wUse.1 v hv, wUse.2⟩
  · unfold WM
    rw [enm, e5]
    refine ⟨rfl, by omega, fun m hm => ?_, fun m hm => ?_⟩
    · by_cases z : m = nm a
      · subst z; exact ⟨s, h1, h2, e46⟩
      · rw [ho (46 + m) (by omega) (by omega) (by omega)]; exact wM.2.2.1 m (by omega)
    · by_cases z : m = nm a
      · subst z; exact Or.inr e52
      · rw [ho (52 + m) (by omega) (by omega) (by omega)]; exact wM.2.2.2 m (by omega)
  · unfold WJ
    rw [ej, enm, te_nu hte, ho 6 (by omega) (by omega) (by omega)]
    refine ⟨wJ.1, h30, fun j hj => ?_, fun j hj => by rw [gj]; exact wJ.2.2.2.1 j hj, fun j hj h3 => ?_⟩
    · rw [gj]
      simp only [te_lfS hte h12]
      exact wJ.2.2.1 j hj
    · rw [gj] at h3 ⊢
      obtain ⟨m, hm, e⟩ := wJ.2.2.2.2 j hj h3
      exact ⟨m, by omega, e⟩
  · intro j m hj h3 hm h4
    rw [ej] at hj
    rw [gj] at h3 h4
    obtain ⟨m', hm', e⟩ := wJ.2.2.2.2 j hj h3
    rw [enm] at hm
    rw [e, nI_eq (by omega) (by omega)] at h4
    subst h4
    rw [ho (52 + m') (by omega) (by omega) (by omega)]
    exact hV j m' hj h3 hm' e
end WF2
