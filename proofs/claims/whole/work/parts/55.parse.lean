/-! PARSING as a function: bytes g of which n count -/
abbrev cLt (c : Int32) : Bool := decide (97 ≤ c ∧ c ≤ 122)
abbrev cDg (c : Int32) : Bool := decide (48 ≤ c ∧ c ≤ 57)
abbrev cSp (c : Int32) : Bool := decide (c = 32)
def enF (P : Int32 → Bool) (g : Nat → Int32) (n : Nat) : Nat → Nat → Nat
  | 0, i => i
  | f + 1, i => if i < n ∧ P (g i) = true then enF P g n f (i + 1) else i
/-- where a run of such bytes ends -/
def en (P : Int32 → Bool) (g : Nat → Int32) (n i : Nat) : Nat := enF P g n (n - i) i
section EN
variable {P : Int32 → Bool} {g : Nat → Int32} {n i : Nat}
theorem en_y (h : i < n) (hP : P (g i) = true) : en P g n i = en P g n (i + 1) := by
  unfold en
  rw [show n - i = (n - (i + 1)) + 1 by omega, enF, if_pos ⟨h, hP⟩]
theorem en_n (h : ¬ (i < n ∧ P (g i) = true)) : en P g n i = i := by
  unfold en
  by_cases z : i < n
  · rw [show n - i = (n - (i + 1)) + 1 by omega, enF, if_neg h]
  · rw [show n - i = 0 by omega, enF]
theorem en_all : ∀ d i, n - i = d → (i ≤ n → i ≤ en P g n i ∧ en P g n i ≤ n) ∧ ¬ (en P g n i < n ∧ P (g (en P g n i)) = true) ∧ ∀ k, i ≤ k → k < en P g n i → P (g k) = true := by
  intro d
  induction d with
  | zero =>
    intro i hd
    have e : en P g n i = i := en_n (fun z => by omega)
    rw [e]
    exact ⟨fun h => ⟨Nat.le_refl _, h⟩, fun z => by omega, fun k h1 h2 => by omega⟩
  | succ d ih =>
    intro i hd
    by_cases z : P (g i) = true
    · have e : en P g n i = en P g n (i + 1) := en_y (by omega) z
      have h := ih (i + 1) (by omega)
      rw [e]
      refine ⟨fun h2 => ⟨?_, (h.1 (by omega)).2⟩, h.2.1, fun k h1 h2 => ?_⟩
      · have := (h.1 (by omega)).1; omega
      · by_cases y : k = i
        · subst y; exact z
        · exact h.2.2 k (by omega) h2
    · have e : en P g n i = i := en_n (fun y => z y.2)
      rw [e]
      exact ⟨fun h => ⟨Nat.le_refl _, h⟩, fun y => z y.2, fun k h1 h2 => by omega⟩
theorem en_b (h : i ≤ n) : i ≤ en P g n i ∧ en P g n i ≤ n := (en_all _ i rfl).1 h
theorem en_e : ¬ (en P g n i < n ∧ P (g (en P g n i)) = true) := (en_all _ i rfl).2.1
theorem en_m {k : Nat} (h1 : i ≤ k) (h2 : k < en P g n i) : P (g k) = true := (en_all _ i rfl).2.2 k h1 h2
theorem en_i : en P g n (en P g n i) = en P g n i := en_n en_e
end EN
abbrev skp (g : Nat → Int32) (n i : Nat) : Nat := en cSp g n i
/-- the number that digits say, at most 10000 -/
abbrev dgN (c : Int32) : Nat := c.toNatClampNeg - 48
def dvF (g : Nat → Int32) (b : Nat) : Nat → Nat
  | 0 => 0
  | k + 1 => min 10000 (10 * dvF g b k + dgN (g (b + k)))
def dwF (g : Nat → Int32) (b : Nat) : Nat → Nat
  | 0 => 0
  | k + 1 => if dwF g b k < 10000 then 10 * dwF g b k + dgN (g (b + k)) else dwF g b k
theorem cDg_of {c : Int32} (h : cDg c = true) : c = nI (48 + dgN c) ∧ dgN c ≤ 9 := by
  have h2 := of_decide_eq_true h
  obtain ⟨j, hj, e⟩ := nI_of (x := c) (fun z => absurd (Int32.lt_of_le_of_lt h2.1 z) (by decide))
  subst e
  have h3 : 48 ≤ j := (nI_leI (by decide) hj).mp h2.1
  have h4 : j ≤ 57 := (nI_leI hj (by decide)).mp h2.2
  simp only [dgN, nI_clamp hj]
  exact ⟨by rw [show 48 + (j - 48) = j by omega], by omega⟩
theorem dv_le (g : Nat → Int32) (b : Nat) : ∀ k, dvF g b k ≤ 10000 := by
  intro k
  cases k with
  | zero => simp [dvF]
  | succ k => rw [dvF]; omega
theorem dw_ok (g : Nat → Int32) (b : Nat) : ∀ k, (∀ j, j < k → cDg (g (b + j)) = true) → dwF g b k ≤ 100000 ∧ dvF g b k = min 10000 (dwF g b k) := by
  intro k
  induction k with
  | zero => intro _; exact ⟨by simp [dwF], by simp [dwF, dvF]⟩
  | succ k ih =>
    intro h
    obtain ⟨h1, h2⟩ := ih (fun j hj => h j (by omega))
    have h9 := (cDg_of (h k (by omega))).2
    rw [dwF, dvF]
    split
    · refine ⟨by omega, by omega⟩
    · refine ⟨by omega, by omega⟩
/-- how far reading came: the row, the position, the error and where -/
abbrev PS : Type := Row × Nat × Int32 × Int32
abbrev PS.ra (s : PS) : Row := s.1
abbrev PS.po (s : PS) : Nat := s.2.1
abbrev PS.er (s : PS) : Int32 := s.2.2.1
abbrev PS.ea (s : PS) : Int32 := s.2.2.2
def flP (c : Int32) (p : Nat) (s : PS) : PS := if s.er = 0 then ⟨s.ra, s.po, c, nI p⟩ else s
abbrev evP (g : Nat → Int32) (n : Nat) (s : PS) : Nat := en cDg g n (skp g n s.po)
abbrev dvP (g : Nat → Int32) (n : Nat) (s : PS) : Int32 := nI (dvF g (skp g n s.po) (evP g n s - skp g n s.po))
def rdN (g : Nat → Int32) (n : Nat) (lo hi : Int32) (s : PS) : Int32 × PS :=
  if s.er = 0 then
    (if evP g n s = skp g n s.po then (dvP g n s, ⟨s.ra, evP g n s, -2, nI (skp g n s.po)⟩)
    else if dvP g n s < lo ∨ ¬ dvP g n s ≤ hi then (dvP g n s, ⟨s.ra, evP g n s, -3, nI (skp g n s.po)⟩)
    else (dvP g n s, ⟨s.ra, evP g n s, 0, s.ea⟩))
  else (-1, s)
def q1P (full : Bool) (st : Nat) (s : PS) : PS := if full = true then flP (-4) st s else s
def q3P (g : Nat → Int32) (n : Nat) (t : Int32 → Bool) (s1 : PS) (v : Int32 × PS) : PS := if v.2.er = 0 ∧ t v.1 = true then flP (-3) (skp g n s1.po) v.2 else v.2
def q5P (f : Int32 → Row) (v : Int32 × PS) : PS := if v.2.er = 0 then ⟨f v.1, v.2.po, v.2.er, v.2.ea⟩ else v.2
def rdP (g : Nat → Int32) (n : Nat) (full : Bool) (st : Nat) (t : Int32 → Bool) (h1 h2 : Int32) (f : Int32 → Int32 → Row) (s : PS) : PS :=
  q5P (f (rdN g n 0 h1 (q1P full st s)).1) (rdN g n 1 h2 (q3P g n t (q1P full st s) (rdN g n 0 h1 (q1P full st s))))
def rdUs (g : Nat → Int32) (n st : Nat) (s : PS) : PS := rdP g n (decide (12 ≤ nu s.ra)) st (fun v => anJ s.ra v) (s.ra 4 - 1) 99 (fun v w => adU s.ra v w) s
def rdJs (g : Nat → Int32) (n st : Nat) (s : PS) : PS := rdP g n (decide (30 ≤ nj s.ra)) st (fun v => decide (¬ lfS s.ra (zN v))) (s.ra 4 - 1) 60 (fun v w => adJ s.ra v w) s
def rdMs (g : Nat → Int32) (n st : Nat) (s : PS) : PS := q5P (fun v => adM s.ra v) (rdN g n 1 4 (q1P (decide (6 ≤ nm s.ra)) st s))
def rdSs (g : Nat → Int32) (n k : Nat) (s : PS) : PS := q5P (fun v => upd s.ra (1 + k) v) (rdN g n ((a_sv 1).getD k 0) ((a_sv 2).getD k 0) s)
def rdC (g : Nat → Int32) (n : Nat) (s : PS) : PS := if s.er = 0 then (if skp g n s.po < n ∧ g (skp g n s.po) = 59 then ⟨s.ra, skp g n s.po + 1, 0, s.ea⟩ else ⟨s.ra, skp g n s.po, -2, nI (skp g n s.po)⟩) else s
abbrev isW (g : Nat → Int32) (st ee k : Nat) : Prop := ee = st + kl k ∧ ∀ i, i < kl k → g (st + i) = kc k i
def stB (g : Nat → Int32) (n st : Nat) (s : PS) : PS :=
  if isW g st s.po 0 then rdUs g n st s else if isW g st s.po 1 then rdMs g n st s else if isW g st s.po 2 then rdJs g n st s else if isW g st s.po 3 then rdSs g n 0 s else if isW g st s.po 4 then rdSs g n 1 s else if isW g st s.po 5 then rdSs g n 2 s else flP (-2) st s
def stm (g : Nat → Int32) (n : Nat) (s : PS) : PS := rdC g n (stB g n s.po ⟨s.ra, en cLt g n s.po, s.er, s.ea⟩)
def prs (g : Nat → Int32) (n : Nat) : Nat → PS → PS
  | 0, s => s
  | f + 1, s => if s.er = 0 then (if skp g n s.po < n then prs g n f (stm g n ⟨s.ra, skp g n s.po, s.er, s.ea⟩) else ⟨s.ra, skp g n s.po, s.er, s.ea⟩) else s
def PI (n : Nat) (s : PS) : Prop := s.po ≤ n ∧ WF 9999 s.ra ∧ WV s.ra ∧ nl s.ra = 0
section PARSE
variable {g : Nat → Int32} {n st : Nat} {s : PS}
theorem fl_c {c : Int32} {p : Nat} (hc : c ≠ 0) : (flP c p s).ra = s.ra ∧ (flP c p s).po = s.po ∧ (flP c p s).er ≠ 0 := by
  unfold flP
  split
  · exact ⟨rfl, rfl, hc⟩
  · rename_i h; exact ⟨rfl, rfl, h⟩
theorem rdN_c {lo hi : Int32} (hp : s.po ≤ n) : (rdN g n lo hi s).2.ra = s.ra ∧ (s.po ≤ (rdN g n lo hi s).2.po ∧ (rdN g n lo hi s).2.po ≤ n) ∧ ((rdN g n lo hi s).2.er = 0 → s.er = 0 ∧ s.po < (rdN g n lo hi s).2.po ∧ ∃ k, k ≤ 10000 ∧ (rdN g n lo hi s).1 = nI k ∧ ¬ nI k < lo ∧ nI k ≤ hi) := by
  have b1 : s.po ≤ skp g n s.po ∧ skp g n s.po ≤ n := en_b hp
  have b2 : skp g n s.po ≤ evP g n s ∧ evP g n s ≤ n := en_b b1.2
  unfold rdN
  by_cases h : s.er = 0
  · rw [if_pos h]
    by_cases h2 : evP g n s = skp g n s.po
    · rw [if_pos h2]
      exact ⟨rfl, ⟨by show s.po ≤ evP g n s; omega, b2.2⟩, fun z => absurd z (show ¬ (-2 : Int32) = 0 by decide)⟩
    · rw [if_neg h2]
      by_cases h3 : dvP g n s < lo ∨ ¬ dvP g n s ≤ hi
      · rw [if_pos h3]
        exact ⟨rfl, ⟨by show s.po ≤ evP g n s; omega, b2.2⟩, fun z => absurd z (show ¬ (-3 : Int32) = 0 by decide)⟩
      · rw [if_neg h3]
        exact ⟨rfl, ⟨by show s.po ≤ evP g n s; omega, b2.2⟩, fun _ => ⟨h, by show s.po < evP g n s; omega, _, dv_le _ _ _, rfl, fun z => h3 (Or.inl z), by
          by_cases y : dvP g n s ≤ hi
          · exact y
          · exact absurd (Or.inr y) h3⟩⟩
  · rw [if_neg h]
    exact ⟨rfl, ⟨Nat.le_refl _, hp⟩, fun z => absurd z h⟩
theorem q1_c {full : Bool} : (q1P full st s).ra = s.ra ∧ (q1P full st s).po = s.po ∧ ((q1P full st s).er = 0 → s.er = 0 ∧ full = false) := by
  unfold q1P
  cases full with
  | true =>
    rw [if_pos rfl]
    have h := fl_c (s := s) (c := -4) (p := st) (by decide)
    exact ⟨h.1, h.2.1, fun z => absurd z h.2.2⟩
  | false =>
    rw [if_neg (by decide)]
    exact ⟨rfl, rfl, fun z => ⟨z, rfl⟩⟩
theorem q3_c {t : Int32 → Bool} {s1 : PS} {v : Int32 × PS} : (q3P g n t s1 v).ra = v.2.ra ∧ (q3P g n t s1 v).po = v.2.po ∧ ((q3P g n t s1 v).er = 0 → v.2.er = 0 ∧ t v.1 = false ∧ q3P g n t s1 v = v.2) := by
  unfold q3P
  by_cases h : v.2.er = 0 ∧ t v.1 = true
  · rw [if_pos h]
    have h := fl_c (s := v.2) (c := -3) (p := skp g n s1.po) (by decide)
    exact ⟨h.1, h.2.1, fun z => absurd z h.2.2⟩
  · rw [if_neg h]
    exact ⟨rfl, rfl, fun z => ⟨z, by
      cases y : t v.1 with
      | false => rfl
      | true => exact absurd ⟨z, y⟩ h, rfl⟩⟩
theorem q5_c {f : Int32 → Row} {v : Int32 × PS} : (q5P f v).po = v.2.po ∧ (q5P f v).er = v.2.er ∧ (v.2.er = 0 → (q5P f v).ra = f v.1) ∧ (v.2.er ≠ 0 → (q5P f v).ra = v.2.ra) := by
  unfold q5P
  by_cases h : v.2.er = 0
  · rw [if_pos h]; exact ⟨rfl, rfl, fun _ => rfl, fun z => absurd h z⟩
  · rw [if_neg h]; exact ⟨rfl, rfl, fun z => absurd z h, fun _ => rfl⟩
theorem rdP_c {full : Bool} {t : Int32 → Bool} {h1 h2 : Int32} {f : Int32 → Int32 → Row} (hp : s.po ≤ n) : (s.po ≤ (rdP g n full st t h1 h2 f s).po ∧ (rdP g n full st t h1 h2 f s).po ≤ n) ∧ (((rdP g n full st t h1 h2 f s).er ≠ 0 ∧ (rdP g n full st t h1 h2 f s).ra = s.ra) ∨ ((rdP g n full st t h1 h2 f s).er = 0 ∧ s.po < (rdP g n full st t h1 h2 f s).po ∧ full = false ∧ s.er = 0 ∧ ∃ k1 k2, k1 ≤ 10000 ∧ k2 ≤ 10000 ∧ nI k1 ≤ h1 ∧ t (nI k1) = false ∧ ¬ nI k2 < 1 ∧ nI k2 ≤ h2 ∧ (rdP g n full st t h1 h2 f s).ra = f (nI k1) (nI k2))) := by
  unfold rdP
  have a1 := q1_c (s := s) (st := st) (full := full)
  have a2 := rdN_c (g := g) (n := n) (lo := 0) (hi := h1) (s := q1P full st s) (by rw [a1.2.1]; exact hp)
  have a3 := q3_c (g := g) (n := n) (t := t) (s1 := q1P full st s) (v := rdN g n 0 h1 (q1P full st s))
  have a4 := rdN_c (g := g) (n := n) (lo := 1) (hi := h2) (s := q3P g n t (q1P full st s) (rdN g n 0 h1 (q1P full st s))) (by rw [a3.2.1]; exact a2.2.1.2)
  have a5 := q5_c (f := f (rdN g n 0 h1 (q1P full st s)).1) (v := rdN g n 1 h2 (q3P g n t (q1P full st s) (rdN g n 0 h1 (q1P full st s))))
  generalize q5P (f (rdN g n 0 h1 (q1P full st s)).1) (rdN g n 1 h2 (q3P g n t (q1P full st s) (rdN g n 0 h1 (q1P full st s)))) = r at *
  generalize rdN g n 1 h2 (q3P g n t (q1P full st s) (rdN g n 0 h1 (q1P full st s))) = v2 at *
  generalize q3P g n t (q1P full st s) (rdN g n 0 h1 (q1P full st s)) = s3 at *
  generalize rdN g n 0 h1 (q1P full st s) = v1 at *
  generalize q1P full st s = s1 at *
  obtain ⟨b1, b2, b3⟩ := a1
  obtain ⟨c1, c2, c3⟩ := a2
  obtain ⟨d1, d2, d3⟩ := a3
  obtain ⟨e1, e2, e3⟩ := a4
  obtain ⟨f1, f2, f3, f4⟩ := a5
  refine ⟨⟨by omega, by omega⟩, ?_⟩
  by_cases h : v2.2.er = 0
  · obtain ⟨g1, g2, k2, g3, g4, g5, g6⟩ := e3 h
    obtain ⟨i1, i2, i3⟩ := d3 g1
    obtain ⟨j1, j2, k1, j3, j4, j5, j6⟩ := c3 i1
    obtain ⟨l1, l2⟩ := b3 j1
    exact Or.inr ⟨f2.trans h, by omega, l2, l1, k1, k2, j3, g3, j6, by rw [← j4]; exact i2, g5, g6, by rw [f3 h, g4, j4]⟩
  · exact Or.inl ⟨by rw [f2]; exact h, by rw [f4 h, e1, d1, c1, b1]⟩
theorem nl_o {a b : Row} (h : b 7 = a 7) : nl b = nl a := by unfold nl; rw [h]
theorem rdU_c (h : PI n s) : PI n (rdUs g n st s) ∧ s.po ≤ (rdUs g n st s).po ∧ ((rdUs g n st s).er = 0 → s.po < (rdUs g n st s).po ∧ s.er = 0) := by
  obtain ⟨p1, p2, p3, p4⟩ := h
  have wU := p2.1
  obtain ⟨w1, w2, w3, -⟩ := wU
  have k := rdP_c (g := g) (n := n) (st := st) (full := decide (12 ≤ nu s.ra)) (t := fun v => anJ s.ra v) (h1 := s.ra 4 - 1) (h2 := 99) (f := fun v w => adU s.ra v w) (s := s) p1
  unfold rdUs
  generalize rdP g n (decide (12 ≤ nu s.ra)) st (fun v => anJ s.ra v) (s.ra 4 - 1) 99 (fun v w => adU s.ra v w) s = r at k ⊢
  rcases k with ⟨b, ⟨k1, k2⟩ | ⟨k1, k2, k3, k4, q, z, k5, k6, k7, k8, k9, k10, k11⟩⟩
  · exact ⟨⟨b.2, by rw [k2]; exact p2, by rw [k2]; exact p3, by rw [k2]; exact p4⟩, b.1, fun y => absurd y k1⟩
  · have h12 : nu s.ra < 12 := Nat.not_le.mp (of_decide_eq_false k3)
    rw [w1, show (1 : Int32) = nI 1 from rfl, pk_sub w2] at k7
    have hq : q ≤ nu s.ra - 1 := (nI_leI (by omega) (by omega)).mp k7
    have hz1 : 1 ≤ z := by
      by_cases y : 1 ≤ z
      · exact y
      · exact absurd (show nI z < nI 1 from nI_lt (by omega) (by decide)) k9
    have hz2 : z ≤ 99 := (nI_leI (by omega) (by decide)).mp (show nI z ≤ nI 99 from k10)
    have hL : anL s.ra (nI q) = false := by
      show anyB _ (nl s.ra) = false
      rw [p4]; rfl
    refine ⟨⟨b.2, ?_, ?_, ?_⟩, b.1, fun _ => ⟨k2, k4⟩⟩
    · rw [k11]; exact wf_ad p2 h12 (by omega) hz1 hz2 k8 hL
    · rw [k11]; exact wv_ad p3 h12
    · rw [k11, nl_o (ad_o (by omega) (by omega) (by omega) (by omega) (by omega))]; exact p4
theorem rdJ_c (h : PI n s) : PI n (rdJs g n st s) ∧ s.po ≤ (rdJs g n st s).po ∧ ((rdJs g n st s).er = 0 → s.po < (rdJs g n st s).po ∧ s.er = 0) := by
  obtain ⟨p1, p2, p3, p4⟩ := h
  have wU := p2.1
  obtain ⟨w1, w2, w3, -⟩ := wU
  have k := rdP_c (g := g) (n := n) (st := st) (full := decide (30 ≤ nj s.ra)) (t := fun v => decide (¬ lfS s.ra (zN v))) (h1 := s.ra 4 - 1) (h2 := 60) (f := fun v w => adJ s.ra v w) (s := s) p1
  unfold rdJs
  generalize rdP g n (decide (30 ≤ nj s.ra)) st (fun v => decide (¬ lfS s.ra (zN v))) (s.ra 4 - 1) 60 (fun v w => adJ s.ra v w) s = r at k ⊢
  rcases k with ⟨b, ⟨k1, k2⟩ | ⟨k1, k2, k3, k4, q, z, k5, k6, k7, k8, k9, k10, k11⟩⟩
  · exact ⟨⟨b.2, by rw [k2]; exact p2, by rw [k2]; exact p3, by rw [k2]; exact p4⟩, b.1, fun y => absurd y k1⟩
  · have h30 : nj s.ra < 30 := Nat.not_le.mp (of_decide_eq_false k3)
    rw [w1, show (1 : Int32) = nI 1 from rfl, pk_sub w2] at k7
    have hq : q ≤ nu s.ra - 1 := (nI_leI (by omega) (by omega)).mp k7
    have lf : lfS s.ra q := by
      have := of_decide_eq_false k8
      rw [zN, nI_clamp (by omega)] at this
      exact Decidable.not_not.mp this
    have hw := wf_aj (s := z) p2 h30 (show q < nu s.ra by omega) lf
    refine ⟨⟨b.2, ?_, ?_, ?_⟩, b.1, fun _ => ⟨k2, k4⟩⟩
    · rw [k11]; exact hw.1
    · rw [k11]; exact hw.2 p3
    · rw [k11, nl_o (a := s.ra) (by
        unfold adJ layJ
        rw [upd_ne (by omega), upd_ne (by omega), upd_ne (by omega), upd_ne (by omega), upd_ne (by omega), upd_ne (by omega), upd_ne (by omega), upd_ne (by omega)])]; exact p4
theorem rdM_c (h : PI n s) : PI n (rdMs g n st s) ∧ s.po ≤ (rdMs g n st s).po ∧ ((rdMs g n st s).er = 0 → s.po < (rdMs g n st s).po ∧ s.er = 0) := by
  obtain ⟨p1, p2, p3, p4⟩ := h
  unfold rdMs
  have a1 := q1_c (s := s) (st := st) (full := decide (6 ≤ nm s.ra))
  have a2 := rdN_c (g := g) (n := n) (lo := 1) (hi := 4) (s := q1P (decide (6 ≤ nm s.ra)) st s) (by rw [a1.2.1]; exact p1)
  have a5 := q5_c (f := fun v => adM s.ra v) (v := rdN g n 1 4 (q1P (decide (6 ≤ nm s.ra)) st s))
  generalize q5P (fun v => adM s.ra v) (rdN g n 1 4 (q1P (decide (6 ≤ nm s.ra)) st s)) = r at *
  generalize rdN g n 1 4 (q1P (decide (6 ≤ nm s.ra)) st s) = v at *
  generalize q1P (decide (6 ≤ nm s.ra)) st s = s1 at *
  obtain ⟨b1, b2, b3⟩ := a1
  obtain ⟨c1, c2, c3⟩ := a2
  obtain ⟨f1, f2, f3, f4⟩ := a5
  by_cases h : v.2.er = 0
  · obtain ⟨j1, j2, z, j3, j4, j5, j6⟩ := c3 h
    obtain ⟨l1, l2⟩ := b3 j1
    have h6 : nm s.ra < 6 := Nat.not_le.mp (of_decide_eq_false l2)
    have hz1 : 1 ≤ z := by
      by_cases y : 1 ≤ z
      · exact y
      · exact absurd (show nI z < nI 1 from nI_lt (by omega) (by decide)) j5
    have hz2 : z ≤ 4 := (nI_leI (by omega) (by decide)).mp (show nI z ≤ nI 4 from j6)
    have hw := wf_am (s := z) p2 p3 h6 hz1 hz2
    have hr : r.ra = adM s.ra (nI z) := by rw [f3 h, j4]
    refine ⟨⟨by omega, ?_, ?_, ?_⟩, by omega, fun _ => ⟨by omega, l1⟩⟩
    · rw [hr]; exact hw.1
    · rw [hr]; exact hw.2
    · rw [hr, nl_o (a := s.ra) (by unfold adM; rw [upd_ne (by omega), upd_ne (by omega), upd_ne (by omega)])]; exact p4
  · have hr : r.ra = s.ra := by rw [f4 h, c1, b1]
    exact ⟨⟨by omega, by rw [hr]; exact p2, by rw [hr]; exact p3, by rw [hr]; exact p4⟩, by omega, fun z => absurd (f2.symm.trans z) h⟩
theorem rdS_c {k : Nat} (hk : k < 3) (h : PI n s) : PI n (rdSs g n k s) ∧ s.po ≤ (rdSs g n k s).po ∧ ((rdSs g n k s).er = 0 → s.po < (rdSs g n k s).po ∧ s.er = 0) := by
  obtain ⟨p1, p2, p3, p4⟩ := h
  unfold rdSs
  have a2 := rdN_c (g := g) (n := n) (lo := (a_sv 1).getD k 0) (hi := (a_sv 2).getD k 0) (s := s) p1
  have a5 := q5_c (f := fun v => upd s.ra (1 + k) v) (v := rdN g n ((a_sv 1).getD k 0) ((a_sv 2).getD k 0) s)
  generalize q5P (fun v => upd s.ra (1 + k) v) (rdN g n ((a_sv 1).getD k 0) ((a_sv 2).getD k 0) s) = r at *
  generalize rdN g n ((a_sv 1).getD k 0) ((a_sv 2).getD k 0) s = v at *
  obtain ⟨c1, c2, c3⟩ := a2
  obtain ⟨f1, f2, f3, f4⟩ := a5
  by_cases h : v.2.er = 0
  · obtain ⟨j1, j2, z, j3, j4, j5, j6⟩ := c3 h
    have hz : leS k ≤ z ∧ z ≤ moS k := by
      have e1 : (a_sv 1).getD k 0 = nI (leS k) ∧ leS k ≤ 100 ∧ (a_sv 2).getD k 0 = nI (moS k) ∧ moS k ≤ 400 := by
        rcases (show k = 0 ∨ k = 1 ∨ k = 2 by omega) with y | y | y <;> subst y <;> decide
      rw [e1.1] at j5
      rw [e1.2.2.1] at j6
      refine ⟨?_, (nI_leI (by omega) (by omega)).mp j6⟩
      by_cases y : leS k ≤ z
      · exact y
      · exact absurd (nI_lt (by omega) (by omega)) j5
    have hw := wf_st p2 hk hz.1 hz.2
    have hr : r.ra = upd s.ra (1 + k) (nI z) := by rw [f3 h, j4]
    refine ⟨⟨by omega, ?_, ?_, ?_⟩, by omega, fun _ => ⟨by omega, j1⟩⟩
    · rw [hr]; exact hw.1
    · rw [hr]; exact hw.2 p3
    · rw [hr, nl_o (a := s.ra) (upd_ne (by omega))]; exact p4
  · have hr : r.ra = s.ra := by rw [f4 h, c1]
    exact ⟨⟨by omega, by rw [hr]; exact p2, by rw [hr]; exact p3, by rw [hr]; exact p4⟩, by omega, fun z => absurd (f2.symm.trans z) h⟩
theorem rdC_c (h : PI n s) : PI n (rdC g n s) ∧ s.po ≤ (rdC g n s).po ∧ ((rdC g n s).er = 0 → s.er = 0 ∧ s.po < (rdC g n s).po) := by
  have b1 : s.po ≤ skp g n s.po ∧ skp g n s.po ≤ n := en_b h.1
  unfold rdC
  split
  · rename_i h0
    split
    · rename_i h1; exact ⟨⟨h1.1, h.2⟩, by show s.po ≤ skp g n s.po + 1; omega, fun _ => ⟨h0, by show s.po < skp g n s.po + 1; omega⟩⟩
    · exact ⟨⟨b1.2, h.2⟩, b1.1, fun z => absurd z (show ¬ (-2 : Int32) = 0 by decide)⟩
  · exact ⟨h, Nat.le_refl _, fun z => by rename_i h0; exact absurd z h0⟩
theorem stB_c (h : PI n s) : PI n (stB g n st s) ∧ s.po ≤ (stB g n st s).po ∧ ((stB g n st s).er = 0 → s.po < (stB g n st s).po ∧ s.er = 0) := by
  unfold stB
  split; · exact rdU_c h
  split; · exact rdM_c h
  split; · exact rdJ_c h
  split; · exact rdS_c (by omega) h
  split; · exact rdS_c (by omega) h
  split; · exact rdS_c (by omega) h
  have k := fl_c (s := s) (c := -2) (p := st) (by decide)
  exact ⟨⟨by rw [k.2.1]; exact h.1, by rw [k.1]; exact h.2.1, by rw [k.1]; exact h.2.2.1, by rw [k.1]; exact h.2.2.2⟩, by rw [k.2.1]; exact Nat.le_refl _, fun z => absurd z k.2.2⟩
theorem stm_c (h : PI n s) : PI n (stm g n s) ∧ ((stm g n s).er = 0 → s.po < (stm g n s).po) := by
  have b1 := en_b (P := cLt) (g := g) h.1
  unfold stm
  have k1 := stB_c (g := g) (st := s.po) (s := ⟨s.ra, en cLt g n s.po, s.er, s.ea⟩) (n := n) ⟨b1.2, h.2⟩
  have k2 := rdC_c (g := g) k1.1
  refine ⟨k2.1, fun z => ?_⟩
  have := k2.2.2 z
  have k3 := k1.2.1
  change en cLt g n s.po ≤ _ at k3
  omega
theorem prs_c : ∀ f (s : PS), PI n s → PI n (prs g n f s) := by
  intro f
  induction f with
  | zero => exact fun s h => h
  | succ f ih =>
    intro s h
    have b1 : s.po ≤ skp g n s.po ∧ skp g n s.po ≤ n := en_b h.1
    rw [prs]
    split
    · split
      · exact ih _ (stm_c (s := ⟨s.ra, skp g n s.po, s.er, s.ea⟩) ⟨b1.2, h.2⟩).1
      · exact ⟨b1.2, h.2⟩
    · exact h
theorem ini_wf : WF 9999 iniS ∧ WV iniS ∧ nl iniS = 0 ∧ nj iniS = 0 := by
  have e1 : nu iniS = 1 := rfl
  have e2 : nm iniS = 0 := rfl
  have e3 : nj iniS = 0 := rfl
  have e4 : nl iniS = 0 := rfl
  refine ⟨⟨⟨rfl, by rw [e1]; decide, by rw [e1]; decide, rfl, fun u h1 h2 => by omega, fun u h1 h2 => by omega⟩, ⟨fun u hu => ?_, ?_⟩, ⟨rfl, by rw [e2]; decide, fun m hm => by omega, fun m hm => by omega⟩, ⟨rfl, by rw [e3]; decide, fun m hm => by omega, fun m hm => by omega, fun m hm => by omega⟩, ⟨rfl, by rw [e4]; decide, fun m hm => by omega, fun m hm => by omega⟩, ⟨rfl, by decide, by decide, rfl, by decide, by decide, rfl, by decide, rfl, by decide, by decide⟩⟩, fun j m hj => by omega, e4, e3⟩
  · rw [e1] at hu
    have : u = 0 := by omega
    subst this; rfl
  · rw [e1]; decide
end PARSE
