def fstB (P : Nat → Bool) : Nat → Int32
  | 0 => -1
  | n + 1 => if fstB P n = -1 then (if P n = true then nI n else -1) else fstB P n
theorem nI_m1 {n : Nat} (h : n < 2 ^ 31) : ¬ nI n = -1 := fun z => by
  have := congrArg Int32.toInt z
  rw [nI_toInt h, show (-1 : Int32).toInt = -1 from by decide] at this
  omega
theorem fstB_at {P : Nat → Bool} {n k : Nat} (h : fstB P k = -1) (hP : P k = true) (hk : k < n) (hn : n < 2 ^ 31) : fstB P n = nI k := by
  induction n with
  | zero => omega
  | succ n ih =>
    rw [fstB]
    by_cases e : k = n
    · subst e; rw [if_pos h, if_pos hP]
    · rw [ih (by omega) (by omega), if_neg (nI_m1 (by omega))]
theorem fstB_s {P : Nat → Bool} {k : Nat} (h : fstB P k = -1) (hP : P k = false) : fstB P (k + 1) = -1 := by
  rw [fstB, if_pos h, hP]; rfl
theorem fstB_ok (P : Nat → Bool) (n : Nat) (hn : n < 2 ^ 31) : (fstB P n = -1 ∧ ∀ k, k < n → P k = false) ∨ ∃ k, k < n ∧ fstB P n = nI k ∧ P k = true := by
  induction n with
  | zero => exact Or.inl ⟨rfl, fun k h => by omega⟩
  | succ n ih =>
    rw [fstB]
    rcases ih (by omega) with ⟨h1, h2⟩ | ⟨k, h1, h2, h3⟩
    · rw [if_pos h1]
      cases e : P n with
      | true => exact Or.inr ⟨n, by omega, by simp, e⟩
      | false => exact Or.inl ⟨by simp, fun k hk => by
          by_cases z : k = n
          · subst z; exact e
          · exact h2 k (by omega)⟩
    · rw [h2, if_neg (nI_m1 (by omega))]; exact Or.inr ⟨k, by omega, rfl, h3⟩
def bwF (W : Nat → Int64) (S : Nat → Bool) : Nat → Int32 × Int64
  | 0 => (-1, 0)
  | n + 1 => if S n = true then (if (bwF W S n).1 = -1 ∨ (bwF W S n).2 < W n then (nI n, W n) else bwF W S n) else bwF W S n
def lrF (W : Nat → Int64) (S : Nat → Bool) : Nat → Int32 × Int64
  | 0 => (-1, 0)
  | n + 1 => if S n = true then (if (lrF W S n).1 = -1 ∨ W n ≤ (lrF W S n).2 then (nI n, W n) else lrF W S n) else lrF W S n
theorem bwF_ok (W : Nat → Int64) (S : Nat → Bool) (n : Nat) (hn : n < 2 ^ 31) : ((bwF W S n).1 = -1 ∧ ∀ k, k < n → S k = false) ∨ ∃ k, k < n ∧ (bwF W S n).1 = nI k ∧ S k = true := by
  induction n with
  | zero => exact Or.inl ⟨rfl, fun k h => by omega⟩
  | succ n ih =>
    rw [bwF]
    cases e : S n with
    | true =>
      rw [if_pos rfl]
      by_cases z : (bwF W S n).1 = -1 ∨ (bwF W S n).2 < W n
      · rw [if_pos z]; exact Or.inr ⟨n, by omega, rfl, e⟩
      · rw [if_neg z]
        rcases ih (by omega) with ⟨h1, h2⟩ | ⟨k, h1, h2, h3⟩
        · exact absurd (Or.inl h1) z
        · exact Or.inr ⟨k, by omega, h2, h3⟩
    | false =>
      rw [if_neg (by simp)]
      rcases ih (by omega) with ⟨h1, h2⟩ | ⟨k, h1, h2, h3⟩
      · exact Or.inl ⟨h1, fun k hk => by
          by_cases z : k = n
          · subst z; exact e
          · exact h2 k (by omega)⟩
      · exact Or.inr ⟨k, by omega, h2, h3⟩
theorem lrF_ok (W : Nat → Int64) (S : Nat → Bool) (n : Nat) (hn : n < 2 ^ 31) : ((lrF W S n).1 = -1 ∧ ∀ k, k < n → S k = false) ∨ ∃ k, k < n ∧ (lrF W S n).1 = nI k ∧ S k = true := by
  induction n with
  | zero => exact Or.inl ⟨rfl, fun k h => by omega⟩
  | succ n ih =>
    rw [lrF]
    cases e : S n with
    | true =>
      rw [if_pos rfl]
      by_cases z : (lrF W S n).1 = -1 ∨ W n ≤ (lrF W S n).2
      · rw [if_pos z]; exact Or.inr ⟨n, by omega, rfl, e⟩
      · rw [if_neg z]
        rcases ih (by omega) with ⟨h1, h2⟩ | ⟨k, h1, h2, h3⟩
        · exact absurd (Or.inl h1) z
        · exact Or.inr ⟨k, by omega, h2, h3⟩
    | false =>
      rw [if_neg (by simp)]
      rcases ih (by omega) with ⟨h1, h2⟩ | ⟨k, h1, h2, h3⟩
      · exact Or.inl ⟨h1, fun k hk => by
          by_cases z : k = n
          · subst z; exact e
          · exact h2 k (by omega)⟩
      · exact Or.inr ⟨k, by omega, h2, h3⟩
abbrev bwP (a : Nat → Int32) (n : Nat) : Int32 × Int64 := bwF (fun j => wnS a (zN (jb a j 0))) (fun j => decide (jb a j 3 = 0)) n
abbrev lrP (a : Nat → Int32) (m : Nat) (n : Nat) : Int32 × Int64 := lrF (fun j => wwS a (zN (jb a j 0))) (fun j => decide (jb a j 3 = 1 ∧ jb a j 4 = nI m)) n
def bwS (a : Nat → Int32) : Int32 := (bwP a (nj a)).1
def lrS (a : Nat → Int32) (m : Nat) : Int32 := (lrP a m (nj a)).1
def fmS (a : Nat → Int32) : Int32 := fstB (fun m => decide (a (52 + m) = 1 ∧ buS a m < a (46 + m))) (nm a)
def fsS (a : Nat → Int32) : Int32 := sumI (fun m => if a (52 + m) = 1 then a (46 + m) - buS a m else 0) (nm a)
def fiF : Nat → (Nat → Int32) → (Nat → Int32)
  | 0, a => a
  | n + 1, a => if fmS a = -1 then a else if bwS a = -1 then a else fiF n (runS a (zN (bwS a)) (fmS a))
def fiS (a : Nat → Int32) : Nat → Int32 := fiF 30 a
def ouS (a : Nat → Int32) (b r : Nat) : Prop := (100 + (a 2).toInt64) * wwS a (zN (jb a r 0)) < 100 * wnS a (zN (jb a b 0))
theorem bwS_ok {a : Nat → Int32} (hJ : WJ a) : (bwS a = -1 ∧ ∀ k, k < nj a → ¬ jb a k 3 = 0) ∨ ∃ k, k < nj a ∧ bwS a = nI k ∧ jb a k 3 = 0 := by
  have h30 := hJ.2.1
  rcases bwF_ok (fun j => wnS a (zN (jb a j 0))) (fun j => decide (jb a j 3 = 0)) (nj a) (by omega) with ⟨h1, h2⟩ | ⟨k, h1, h2, h3⟩
  · exact Or.inl ⟨h1, fun k hk => of_decide_eq_false (h2 k hk)⟩
  · exact Or.inr ⟨k, h1, h2, of_decide_eq_true h3⟩
theorem lrS_ok {a : Nat → Int32} (hJ : WJ a) (m : Nat) : (lrS a m = -1 ∧ ∀ k, k < nj a → ¬ (jb a k 3 = 1 ∧ jb a k 4 = nI m)) ∨ ∃ k, k < nj a ∧ lrS a m = nI k ∧ jb a k 3 = 1 ∧ jb a k 4 = nI m := by
  have h30 := hJ.2.1
  rcases lrF_ok (fun j => wwS a (zN (jb a j 0))) (fun j => decide (jb a j 3 = 1 ∧ jb a j 4 = nI m)) (nj a) (by omega) with ⟨h1, h2⟩ | ⟨k, h1, h2, h3⟩
  · exact Or.inl ⟨h1, fun k hk => of_decide_eq_false (h2 k hk)⟩
  · exact Or.inr ⟨k, h1, h2, of_decide_eq_true h3⟩
theorem fmS_ok {a : Nat → Int32} (hM : WM a) : (fmS a = -1 ∧ ∀ k, k < nm a → ¬ (a (52 + k) = 1 ∧ buS a k < a (46 + k))) ∨ ∃ k, k < nm a ∧ fmS a = nI k ∧ a (52 + k) = 1 ∧ buS a k < a (46 + k) := by
  have h30 := hM.2.1
  rcases fstB_ok (fun m => decide (a (52 + m) = 1 ∧ buS a m < a (46 + m))) (nm a) (by omega) with ⟨h1, h2⟩ | ⟨k, h1, h2, h3⟩
  · exact Or.inl ⟨h1, fun k hk => of_decide_eq_false (h2 k hk)⟩
  · exact Or.inr ⟨k, h1, h2, of_decide_eq_true h3⟩
/-! rows that differ in jobs alone -/
def JE (a b : Nat → Int32) : Prop := ∀ i, (i < 8 ∨ 10 ≤ i ∧ i < 58 ∨ 268 ≤ i) → b i = a i
theorem je_te {a b : Nat → Int32} (h : JE a b) : TE a b := fun i hi => h i (by omega)
theorem je_r {a : Nat → Int32} : JE a a := fun _ _ => rfl
theorem je_t {a b c : Nat → Int32} (h : JE a b) (h2 : JE b c) : JE a c := fun i hi => (h2 i hi).trans (h i hi)
theorem je_lay {a b : Nat → Int32} {j f : Nat} {v : Int32} (h : JE a b) (hj : j < 30) (hf : f < 7) : JE a (layJ b j f v) := fun i hi => (upd_ne (by omega)).trans (h i hi)
theorem je_ln {a b : Nat → Int32} (h : JE a b) (l f : Nat) : ln b l f = ln a l f := h _ (by omega)
theorem wf_je {T : Nat} {a b : Nat → Int32} (h : JE a b) (hW : WF T a) (hJ : WJ b) : WF T b := by
  obtain ⟨wU, wUse, wM, wJ, wL, wS⟩ := hW
  have hu : nu b = nu a := te_nu (je_te h)
  have hm : nm b = nm a := congrArg zN (h 5 (by omega))
  have hl : nl b = nl a := congrArg zN (h 7 (by omega))
  have h12 := wU.2.2.1
  have h6 := wM.2.1
  refine ⟨te_WU (je_te h) wU, ?_, ?_, hJ, ?_, ?_⟩
  · unfold WUse
    rw [hu, h 0 (by omega), sumN_cong (g := fun u => zN (a (34 + u))) (fun k hk => by rw [h (34 + k) (by omega)])]
    exact ⟨fun u hu => by rw [h (34 + u) (by omega)]; exact wUse.1 u hu, wUse.2⟩
  · unfold WM
    rw [hm, h 5 (by omega)]
    exact ⟨wM.1, h6, fun m hm => by rw [h (46 + m) (by omega)]; exact wM.2.2.1 m hm, fun m hm => by rw [h (52 + m) (by omega)]; exact wM.2.2.2 m hm⟩
  · unfold WL
    rw [hl, h 7 (by omega), hu, h 0 (by omega)]
    refine ⟨wL.1, wL.2.1, fun l hl => ?_, fun l hl => ?_⟩
    · obtain ⟨f, t, b', q, w⟩ := wL.2.2.1 l hl
      refine ⟨f, t, b', q, ?_⟩
      rw [je_ln h, je_ln h, je_ln h, je_ln h, te_lfS (je_te h) h12, te_lfS (je_te h) h12]
      exact w
    · rw [je_ln h]; exact wL.2.2.2 l hl
  · unfold WS
    rw [h 0 (by omega), h 1 (by omega), h 2 (by omega), h 3 (by omega)]
    exact wS
theorem tk_je {a b : Nat → Int32} (h : JE a b) (wU : WU a) {u : Nat} (hu : u < nu a) : tkS b u = tkS a u := by
  have e : tkR b u = tkR a u := by
    unfold tkR itS
    rw [show nl b = nl a from congrArg zN (h 7 (by omega)), show bse b u = bse a u from te_bse (je_te h) wU u u hu]
    simp only [duS, je_ln h, h 0 (by omega)]
  unfold tkS
  rw [e]
theorem jb_lay {a : Nat → Int32} {j f k g : Nat} {v : Int32} (hf : f < 7) (hg : g < 7) : jb (layJ a j f v) k g = if k = j ∧ g = f then v else jb a k g := by
  show upd a (58 + 7 * j + f) v (58 + 7 * k + g) = _
  by_cases h : k = j ∧ g = f
  · rw [if_pos h, h.1, h.2, upd_eq]
  · rw [if_neg h, upd_ne (by omega)]
theorem jb_u {a : Nat → Int32} {i k g : Nat} {v : Int32} (hi : i < 58) : jb (upd a i v) k g = jb a k g := upd_ne (by omega)
theorem jb_run {a : Nat → Int32} {j k g : Nat} {m : Int32} (hg : g < 7) : jb (runS a j m) k g = if k = j ∧ g = 4 then m else if k = j ∧ g = 3 then 1 else jb a k g := by
  unfold runS
  rw [jb_lay (by omega) hg, jb_lay (by omega) hg]
theorem jb_int {a : Nat → Int32} {j k g : Nat} (hg : g < 7) : jb (intS a j) k g = if k = j ∧ g = 4 then -1 else if k = j ∧ g = 3 then 0 else if k = j ∧ g = 2 then jb a j 2 - jb a j 2 % a 3 else jb a k g := by
  unfold intS
  rw [jb_u (by omega), jb_u (by omega), jb_lay (by omega) hg, jb_lay (by omega) hg, jb_lay (by omega) hg]
theorem jb_end {a : Nat → Int32} {j k g : Nat} {s : Int32} (hg : g < 7) : jb (endS a j s) k g = if k = j ∧ g = 5 then a 0 else if k = j ∧ g = 4 then -1 else if k = j ∧ g = 3 then s else jb a k g := by
  unfold endS
  rw [jb_lay (by omega) hg, jb_lay (by omega) hg, jb_lay (by omega) hg]
theorem nj_run {a : Nat → Int32} {j : Nat} {m : Int32} : nj (runS a j m) = nj a := by unfold runS; rw [nj_lay, nj_lay]
theorem nj_end {a : Nat → Int32} {j : Nat} {m : Int32} : nj (endS a j m) = nj a := by unfold endS; rw [nj_lay, nj_lay, nj_lay]
theorem nj_u {a : Nat → Int32} {i : Nat} {v : Int32} (h : i ≠ 6) : nj (upd a i v) = nj a := congrArg zN (upd_ne (Ne.symm h))
theorem nj_int {a : Nat → Int32} {j : Nat} : nj (intS a j) = nj a := by unfold intS; rw [nj_u (by omega), nj_u (by omega), nj_lay, nj_lay, nj_lay]
theorem je_run {a : Nat → Int32} {j : Nat} {m : Int32} (hj : j < 30) : JE a (runS a j m) := je_lay (je_lay je_r hj (by omega)) hj (by omega)
theorem je_end {a : Nat → Int32} {j : Nat} {m : Int32} (hj : j < 30) : JE a (endS a j m) := je_lay (je_lay (je_lay je_r hj (by omega)) hj (by omega)) hj (by omega)
theorem je_int {a : Nat → Int32} {j : Nat} (hj : j < 30) : JE a (intS a j) := fun i hi => (upd_ne (by omega)).trans ((upd_ne (by omega)).trans (je_lay (je_lay (je_lay je_r hj (by omega)) hj (by omega)) hj (by omega) i hi))
/-- jobs stay in order when one of them changes its state -/
theorem wj_ch {a b : Nat → Int32} (wU : WU a) (wJ : WJ a) (h : JE a b) (h6 : b 6 = a 6) (j : Nat) (hne : ∀ k g, k ≠ j → g < 7 → jb b k g = jb a k g) (h0 : jb b j 0 = jb a j 0) (h3 : jb b j 3 = 0 ∨ jb b j 3 = 1 ∨ jb b j 3 = 2 ∨ jb b j 3 = 3) (h4 : jb b j 3 = 1 → ∃ m, m < nm a ∧ jb b j 4 = nI m) (hM : nm a ≤ 6) : WJ b := by
  have hj6 : nj b = nj a := congrArg zN h6
  have hu : nu b = nu a := te_nu (je_te h)
  have hm : nm b = nm a := congrArg zN (h 5 (by omega))
  unfold WJ
  rw [hj6, hu, hm, h6]
  refine ⟨wJ.1, wJ.2.1, fun k hk => ?_, fun k hk => ?_, fun k hk hs => ?_⟩
  · have e : jb b k 0 = jb a k 0 := by
      by_cases z : k = j
      · rw [z]; exact h0
      · exact hne k 0 z (by omega)
    rw [e]
    obtain ⟨u, u1, u2, u3⟩ := wJ.2.2.1 k hk
    exact ⟨u, u1, u2, (te_lfS (je_te h) wU.2.2.1 u).mpr u3⟩
  · by_cases z : k = j
    · rw [z]; exact h3
    · rw [hne k 3 z (by omega)]; exact wJ.2.2.2.1 k hk
  · by_cases z : k = j
    · rw [z] at hs ⊢
      exact h4 hs
    · rw [hne k 3 z (by omega)] at hs
      rw [hne k 4 z (by omega)]
      exact wJ.2.2.2.2 k hk hs
theorem wf_run {T : Nat} {a : Nat → Int32} (hW : WF T a) {j m : Nat} (hj : j < nj a) (hm : m < nm a) : WF T (runS a j (nI m)) := by
  have h30 := hW.2.2.2.1.2.1
  have hJE := je_run (a := a) (j := j) (m := nI m) (by omega)
  refine wf_je hJE hW (wj_ch hW.1 hW.2.2.2.1 hJE (hJE 6 (by omega)) j (fun k g hk hg => ?_) ?_ ?_ ?_ hW.2.2.1.2.1)
  · rw [jb_run hg, if_neg (fun z => hk z.1), if_neg (fun z => hk z.1)]
  · rw [jb_run (by omega), if_neg (fun z => by omega), if_neg (fun z => by omega)]
  · rw [jb_run (by omega), if_neg (fun z => by omega), if_pos ⟨rfl, rfl⟩]; exact Or.inr (Or.inl rfl)
  · intro _; exact ⟨m, hm, by rw [jb_run (by omega), if_pos ⟨rfl, rfl⟩]⟩
theorem wf_int {T : Nat} {a : Nat → Int32} (hW : WF T a) {j : Nat} (hj : j < nj a) : WF T (intS a j) := by
  have h30 := hW.2.2.2.1.2.1
  have hJE := je_int (a := a) (j := j) (by omega)
  have h03 : jb (intS a j) j 3 = 0 := by rw [jb_int (by omega), if_neg (fun z => by omega), if_pos ⟨rfl, rfl⟩]
  refine wf_je hJE hW (wj_ch hW.1 hW.2.2.2.1 hJE (hJE 6 (by omega)) j (fun k g hk hg => ?_) ?_ ?_ ?_ hW.2.2.1.2.1)
  · rw [jb_int hg, if_neg (fun z => hk z.1), if_neg (fun z => hk z.1), if_neg (fun z => hk z.1)]
  · rw [jb_int (by omega), if_neg (fun z => by omega), if_neg (fun z => by omega), if_neg (fun z => by omega)]
  · exact Or.inl h03
  · intro z; rw [h03] at z; exact absurd z (by decide)
theorem wf_end {T : Nat} {a : Nat → Int32} (hW : WF T a) {j : Nat} {s : Int32} (hs : s = 2 ∨ s = 3) (hj : j < nj a) : WF T (endS a j s) := by
  have h30 := hW.2.2.2.1.2.1
  have hJE := je_end (a := a) (j := j) (m := s) (by omega)
  have h03 : jb (endS a j s) j 3 = s := by rw [jb_end (by omega), if_neg (fun z => by omega), if_neg (fun z => by omega), if_pos ⟨rfl, rfl⟩]
  refine wf_je hJE hW (wj_ch hW.1 hW.2.2.2.1 hJE (hJE 6 (by omega)) j (fun k g hk hg => ?_) ?_ ?_ ?_ hW.2.2.1.2.1)
  · rw [jb_end hg, if_neg (fun z => hk z.1), if_neg (fun z => hk z.1), if_neg (fun z => hk z.1)]
  · rw [jb_end (by omega), if_neg (fun z => by omega), if_neg (fun z => by omega), if_neg (fun z => by omega)]
  · rw [h03]; exact Or.inr (Or.inr hs)
  · intro z; rw [h03] at z; subst z; exact absurd hs (by decide)
/-! counts when one job changes -/
theorem cnt_ch {n j : Nat} {P R : Nat → Prop} [DecidablePred P] [DecidablePred R] (hj : j < n) (h : ∀ k, k ≠ j → (R k ↔ P k)) : sumI (fun k => if R k then 1 else 0) n = sumI (fun k => if P k then 1 else 0) n - (if P j then 1 else 0) + (if R j then 1 else 0) := by
  refine sumI_ch hj (fun k hk hkj => ?_)
  by_cases z : P k
  · rw [if_pos z, if_pos ((h k hkj).mpr z)]
  · rw [if_neg z, if_neg (fun y => z ((h k hkj).mp y))]
theorem lo_run {a : Nat → Int32} {j u v : Nat} {m : Int32} (hj : j < nj a) (h3 : jb a j 3 = 0) (hu : jb a j 0 = nI u) (hu2 : u < 12) (hv : v < 12) : loS (runS a j m) v = if v = u then loS a v + 1 else loS a v := by
  unfold loS
  rw [nj_run, cnt_ch (P := fun j => jb a j 3 = 1 ∧ jb a j 0 = nI v) hj (fun k hk => by rw [jb_run (by omega), jb_run (by omega)]; simp [hk])]
  have e1 : jb (runS a j m) j 3 = 1 := by rw [jb_run (by omega), if_neg (fun z => by omega), if_pos ⟨rfl, rfl⟩]
  have e2 : jb (runS a j m) j 0 = nI u := by rw [jb_run (by omega), if_neg (fun z => by omega), if_neg (fun z => by omega), hu]
  rw [if_neg (fun z => absurd (h3.symm.trans z.1) (by decide)), e1, e2]
  have e : nI u = nI v ↔ u = v := nI_eq (by omega) (by omega)
  by_cases h : v = u
  · subst h; simp
  · simp [e, Ne.symm h, h]
theorem bu_run {a : Nat → Int32} {j m v : Nat} (hj : j < nj a) (h3 : jb a j 3 = 0) (hm : m < 6) (hv : v < 6) : buS (runS a j (nI m)) v = if v = m then buS a v + 1 else buS a v := by
  unfold buS
  rw [nj_run, cnt_ch (P := fun j => jb a j 3 = 1 ∧ jb a j 4 = nI v) hj (fun k hk => by rw [jb_run (by omega), jb_run (by omega)]; simp [hk])]
  have e1 : jb (runS a j (nI m)) j 3 = 1 := by rw [jb_run (by omega), if_neg (fun z => by omega), if_pos ⟨rfl, rfl⟩]
  have e2 : jb (runS a j (nI m)) j 4 = nI m := by rw [jb_run (by omega), if_pos ⟨rfl, rfl⟩]
  rw [if_neg (fun z => absurd (h3.symm.trans z.1) (by decide)), e1, e2]
  have e : nI m = nI v ↔ m = v := nI_eq (by omega) (by omega)
  by_cases h : v = m
  · subst h; simp
  · simp [e, Ne.symm h, h]
theorem lo_int {a : Nat → Int32} {j u v : Nat} (hj : j < nj a) (h3 : jb a j 3 = 1) (hu : jb a j 0 = nI u) (hu2 : u < 12) (hv : v < 12) : loS (intS a j) v = if v = u then loS a v + -1 else loS a v := by
  unfold loS
  rw [nj_int, cnt_ch (P := fun j => jb a j 3 = 1 ∧ jb a j 0 = nI v) hj (fun k hk => by rw [jb_int (by omega), jb_int (by omega)]; simp [hk])]
  have e1 : jb (intS a j) j 3 = 0 := by rw [jb_int (by omega), if_neg (fun z => by omega), if_pos ⟨rfl, rfl⟩]
  rw [if_neg (c := jb (intS a j) j 3 = 1 ∧ _) (fun z => absurd (e1.symm.trans z.1) (by decide)), h3, hu]
  have e : nI u = nI v ↔ u = v := nI_eq (by omega) (by omega)
  by_cases h : v = u
  · subst h; simp [Int32.sub_eq_add_neg]
  · simp [e, Ne.symm h, h]
theorem bu_int {a : Nat → Int32} {j m v : Nat} (hj : j < nj a) (h3 : jb a j 3 = 1) (hmj : jb a j 4 = nI m) (hm : m < 6) (hv : v < 6) : buS (intS a j) v = if v = m then buS a v + -1 else buS a v := by
  unfold buS
  rw [nj_int, cnt_ch (P := fun j => jb a j 3 = 1 ∧ jb a j 4 = nI v) hj (fun k hk => by rw [jb_int (by omega), jb_int (by omega)]; simp [hk])]
  have e1 : jb (intS a j) j 3 = 0 := by rw [jb_int (by omega), if_neg (fun z => by omega), if_pos ⟨rfl, rfl⟩]
  rw [if_neg (c := jb (intS a j) j 3 = 1 ∧ _) (fun z => absurd (e1.symm.trans z.1) (by decide)), h3, hmj]
  have e : nI m = nI v ↔ m = v := nI_eq (by omega) (by omega)
  by_cases h : v = m
  · subst h; simp [Int32.sub_eq_add_neg]
  · simp [e, Ne.symm h, h]
