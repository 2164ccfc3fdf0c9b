/-! THE CLASS READS A TEXT: statements -/
section TEXT2
variable {M : Nat → Nat → Int32} {L : Nat → Nat → Int64} {dd : UInt64} {n st : Nat} {s : PS} {Q : a_Q} {g : Nat → Int32} {a b : Row} {p T : Nat}
theorem w_rdN {lo hi : Int32} (hg : M 314 = g) (hn : n ≤ 600) (h : TX M n s) (hp : s.po ≤ n) : PO yX7_readNumber I_X7_readNumber [.ref 313, .int lo, .int hi] M L dd (some (.int (rdN g n lo hi s).1)) (fun M' L' => L' = L ∧ Ft M M' ∧ TX M' n (rdN g n lo hi s).2 ∧ (s.er = 0 → M' 313 6 = nI (skp g n s.po))) := by
  subst hg; exact c_X7_readNumber hn h hp
theorem w_rdC (hg : M 314 = g) (hn : n ≤ 600) (h : TX M n s) (hp : s.po ≤ n) : PO yX7_readSemicolon I_X7_readSemicolon [.ref 313] M L dd none (fun M' L' => L' = L ∧ Ft M M' ∧ TX M' n (rdC g n s)) := by
  subst hg; exact c_X7_readSemicolon hn h hp
theorem w_over (hg : M 314 = g) (hn : n ≤ 600) (h : TX M n s) (hp : s.po ≤ n) : PO yX7_isOver I_X7_isOver [.ref 313] M L dd (some (.int (bI (n ≤ skp g n s.po)))) (fun M' L' => L' = L ∧ Ft M M' ∧ TX M' n ⟨s.ra, skp g n s.po, s.er, s.ea⟩) := by
  subst hg; exact c_X7_isOver hn h hp
theorem w_word (hg : M 314 = g) (hn : n ≤ 600) (h : TX M n s) (hp : s.po ≤ n) : PO yX7_skipWord I_X7_skipWord [.ref 313] M L dd none (fun M' L' => L' = L ∧ Ft M M' ∧ TX M' n ⟨s.ra, en cLt g n s.po, s.er, s.ea⟩ ∧ M' 313 6 = M 313 6) := by
  subst hg; exact c_X7_skipWord hn h hp
theorem w_isW {k : Nat} (hg : M 314 = g) (hk : k < 6) (hn : n ≤ 600) (h : TX M n s) (hp : s.po ≤ n) (hs : st ≤ s.po) : AD yX7_isWord I_X7_isWord [.ref 313, .ref (5010 + k), .int (nI st)] (hS M L dd) (.inl (some (.int (bI (isW g st s.po k))))) (hS M L dd) := by
  subst hg; exact c_X7_isWord hk hn h hp hs
def Fp (M M' : Nat → Nat → Int32) : Prop := (∀ c, ¬ (32 ≤ c ∧ c < 63) → c ≠ 313 → M' c = M c) ∧ M' 313 0 = M 313 0
theorem fp_r : Fp M M := ⟨fun _ _ _ => rfl, rfl⟩
theorem fp_t {M1 M2 : Nat → Nat → Int32} (h : Fp M M1) (h2 : Fp M1 M2) : Fp M M2 := ⟨fun c g1 g2 => (h2.1 c g1 g2).trans (h.1 c g1 g2), h2.2.trans h.2⟩
theorem fp_x {M1 : Nat → Nat → Int32} (h : Ft M M1) : Fp M M1 := ⟨fun c _ g2 => h.1 c g2, h.2⟩
theorem fp_p {M1 : Nat → Nat → Int32} {lo hi : Nat} (h : Fr lo hi M M1) (h1 : 32 ≤ lo) (h2 : hi ≤ 63) : Fp M M1 := ⟨fun c g1 _ => h c (by omega), by rw [h 313 (by omega)]⟩
theorem tx_f {M1 : Nat → Nat → Int32} (h : M1 313 = M 313) (t : TX M n s) : TX M1 n s := by unfold TX; rw [h]; exact t
theorem qp_x {M1 : Nat → Nat → Int32} (h : Ft M M1) (hQ : QP M 32 a) : QP M1 32 a := qp_f (lo := 313) (hi := 314) (fun c hc => h.1 c (by omega)) (Or.inl (by omega)) hQ
theorem qp_mach {M' : Nat → Nat → Int32} (hQ : QP M p a) (hF : Fr (p + 12) (p + 15) M M') (hM : QM M' p b) (h : ∀ i, i ≠ 5 → (i < 46 ∨ 58 ≤ i) → b i = a i) (hW : WF T a) : QP M' p b := by
  obtain ⟨q1, q2, q3, q4, q5, q6⟩ := hQ
  exact ⟨rt_fr (qt_c (fun i hi => h i (by omega) (by omega)) hW.1.2.2.1 q1) hF (by omega), qb_f hF (by omega) (qb_c (fun i hi => h i (by omega) (by omega)) hW.1 q2), ql_f hF (by omega) (ql_c (fun i hi => h i (by omega) (by omega)) hW.2.2.2.2.1.2.1 q3), hM, qj_f hF (by omega) (qj_c (fun i hi => h i (by omega) (by omega)) hW.2.2.2.1.2.1 q5), qs_f hF (by omega) (qs_c (fun i hi => h i (by omega) (by omega)) q6)⟩
theorem nI_ge1 {k : Nat} (hk : k ≤ 10000) (h : ¬ nI k < 1) : 1 ≤ k := by
  by_cases y : 1 ≤ k
  · exact y
  · exact absurd (show nI k < nI 1 from nI_lt (by omega) (by decide)) h
theorem nI_pre {k m : Nat} {x : Int32} (hx : x = nI m) (h1 : 1 ≤ m) (h12 : m ≤ 12) (hk : k ≤ 10000) (h : nI k ≤ x - 1) : k < m := by
  rw [hx, show (1 : Int32) = nI 1 from rfl, pk_sub h1, nI_leI (by omega) (by omega)] at h
  omega
theorem c_X7_readUser (hg : M 314 = g) (hn : n ≤ 600) (h : TX M n s) (hI : PI n s) (hQ : QP M 32 s.ra) : PO yX7_readUser I_X7_readUser [.ref 313, .ref 32, .int (nI st)] M L dd none (fun M' L' => L' = L ∧ Fp M M' ∧ TX M' n (rdUs g n st s) ∧ QP M' 32 (rdUs g n st s).ra) := by
  have hp := hI.1
  have hW := hI.2.1
  have wU := hI.2.1.1
  have wJ := hW.2.2.2.1
  have w3 := wU.2.2.1
  have a1 := q1_c (s := s) (st := st) (full := decide (12 ≤ nu s.ra))
  have a2 := rdN_c (g := g) (n := n) (lo := 0) (hi := s.ra 4 - 1) (s := q1P (decide (12 ≤ nu s.ra)) st s) (by rw [a1.2.1]; exact hp)
  have a3 := q3_c (g := g) (n := n) (t := fun v => anJ s.ra v) (s1 := q1P (decide (12 ≤ nu s.ra)) st s) (v := rdN g n 0 (s.ra 4 - 1) (q1P (decide (12 ≤ nu s.ra)) st s))
  have a4 := rdN_c (g := g) (n := n) (lo := 1) (hi := 99) (s := q3P g n (fun v => anJ s.ra v) (q1P (decide (12 ≤ nu s.ra)) st s) (rdN g n 0 (s.ra 4 - 1) (q1P (decide (12 ≤ nu s.ra)) st s))) (by rw [a3.2.1]; exact a2.2.1.2)
  unfold rdUs rdP
  generalize hs1 : q1P (decide (12 ≤ nu s.ra)) st s = s1 at *
  generalize hv1 : rdN g n 0 (s.ra 4 - 1) s1 = v1 at *
  generalize hs3 : q3P g n (fun v => anJ s.ra v) s1 v1 = s3 at *
  generalize hv2 : rdN g n 1 99 s3 = v2 at *
  refine po_mk (fun Q hq => ?_)
  refine a_met (by decide +kernel) rfl rfl (Nat.le_of_ble_eq_true rfl) (by simp [Value.category]) (by decide) rfl ?_
  show AW I_X7_readUser 0 [.ref 313, .ref 32, .int (nI st), .null, .null] [] (hS M L dd) 0 0 Q
  have c60 : ∀ M3 : Nat → Nat → Int32, Fp M M3 → TX M3 n s3 → QP M3 32 s.ra → AW I_X7_readUser 60 [.ref 313, .ref 32, .int (nI st), .int v1.1, .null] [] (hS M3 L dd) 0 0 Q := by
    intro M3 f3 t3 q3
    refine r_aload_n dX7_readUser_60 rfl ?_
    refine r_iconst_1 dX7_readUser_61 ?_
    refine r_bipush 99 dX7_readUser_62 (by decide) ?_
    refine m_pv2 dX7_readUser_64 cv_X7_104 (w_rdN ((f3.1 314 (by omega) (by omega)).trans hg) hn t3 (by rw [a3.2.1]; exact a2.2.1.2)) ob_text ⟨_, rfl, rfl⟩ ⟨rfl, rfl⟩ (by decide) (by decide) (Nat.le_of_ble_eq_true rfl) (fun M4 L4 ⟨z1, z2, z3, z4⟩ => ?_)
    subst z1
    rw [hv2] at z3 ⊢
    have q4 : QP M4 32 s.ra := qp_x z2 q3
    refine s_istore dX7_readUser_67 (by decide) rfl ?_
    refine r_aload_n dX7_readUser_69 rfl ?_
    refine m_get 7 1 dX7_readUser_70 fl_X7_34 ob_text rfl ?_
    rw [show M4 313 1 = v2.2.er from z3.2.2.1]
    refine r_if_ne 86 dX7_readUser_73 (by decide) (fun h73 => ?_) (fun h73 => ?_)
    · exact r_vret dX7_readUser_86 rfl (hq _ _ ⟨rfl, fp_t f3 (fp_x z2), by rw [q5P, if_neg h73]; exact z3, by rw [q5P, if_neg h73, a4.1, a3.1, a2.1, a1.1]; exact q4⟩)
    · obtain ⟨g1, g2, k2, g3, g4, g5, g6⟩ := a4.2.2 h73
      obtain ⟨i1, i2, i3⟩ := a3.2.2 g1
      obtain ⟨j1, j2, k1, j3, j4, j5, j6⟩ := a2.2.2 i1
      obtain ⟨l1, l2⟩ := a1.2.2 j1
      have hlt : nu s.ra < 12 := Nat.not_le.mp (of_decide_eq_false l2)
      have hk1 : k1 < nu s.ra := nI_pre wU.1 wU.2.1 w3 j3 j6
      have hz1 : 1 ≤ k2 := nI_ge1 g3 g5
      have hz2 : k2 ≤ 99 := (nI_leI (by omega) (by decide)).mp (show nI k2 ≤ nI 99 from g6)
      rw [j4, g4]
      refine r_aload_n dX7_readUser_76 rfl ?_
      refine m_get 5 0 dX7_readUser_77 fl_X7_92 (ob_place pl32) rfl ?_
      refine r_iload_n dX7_readUser_80 rfl ?_
      refine r_iload dX7_readUser_81 rfl ?_
      refine m_pv2 dX7_readUser_83 cv_X7_120 (c_X8_add pl32 q4.1 q4.2.1 wU (wu_ad wU hlt hk1 hz1 hz2) hlt hk1) (ob_tree pl32) ⟨_, rfl, rfl⟩ ⟨rfl, rfl⟩ (by decide) (by decide) (Nat.le_of_ble_eq_true rfl) (fun M5 L5 ⟨y1, y2, y3, y4⟩ => ?_)
      subst y1
      have q5 : QP M5 32 (adU s.ra (nI k1) (nI k2)) := qp_tree q4 y2 y3 y4 (fun i h1 h2 => ad_o (by omega) h1 (by omega) (by omega) (by omega)) hW
      exact r_vret dX7_readUser_86 rfl (hq _ _ ⟨rfl, fp_t f3 (fp_t (fp_x z2) (fp_p y2 (by omega) (by omega))), by rw [q5P, if_pos h73]; exact tx_f (y2 313 (by omega)) z3, by rw [q5P, if_pos h73]; show QP M5 32 (adU s.ra v1.1 v2.1); rw [j4, g4]; exact q5⟩)
  have c17 : ∀ M1 : Nat → Nat → Int32, Fp M M1 → TX M1 n s1 → QP M1 32 s.ra → AW I_X7_readUser 17 [.ref 313, .ref 32, .int (nI st), .null, .null] [] (hS M1 L dd) 0 0 Q := by
    intro M1 f1 t1 q1
    refine r_aload_n dX7_readUser_17 rfl ?_
    refine r_iconst_0 dX7_readUser_18 ?_
    refine r_aload_n dX7_readUser_19 rfl ?_
    refine m_get 5 0 dX7_readUser_20 fl_X7_92 (ob_place pl32) rfl ?_
    refine m_get 8 0 dX7_readUser_23 fl_X7_101 (ob_tree pl32) rfl ?_
    refine r_iconst_1 dX7_readUser_26 ?_
    refine r_isub dX7_readUser_27 ?_
    rw [show M1 (32 + 1) 0 = s.ra 4 from q1.1.1]
    refine m_pv2 dX7_readUser_28 cv_X7_104 (w_rdN ((f1.1 314 (by omega) (by omega)).trans hg) hn t1 (by rw [a1.2.1]; exact hp)) ob_text ⟨_, rfl, rfl⟩ ⟨rfl, rfl⟩ (by decide) (by decide) (Nat.le_of_ble_eq_true rfl) (fun M2 L2 ⟨z1, z2, z3, z4⟩ => ?_)
    subst z1
    rw [hv1] at z3 ⊢
    have q2 : QP M2 32 s.ra := qp_x z2 q1
    have f2 : Fp M M2 := fp_t f1 (fp_x z2)
    refine s_istore_n 3 dX7_readUser_31 (by decide) rfl rfl ?_
    refine r_aload_n dX7_readUser_32 rfl ?_
    refine m_get 7 1 dX7_readUser_33 fl_X7_34 ob_text rfl ?_
    rw [show M2 313 1 = v1.2.er from z3.2.2.1]
    refine r_if_ne 60 dX7_readUser_36 (by decide) (fun h36 => ?_) (fun h36 => ?_)
    · exact c60 M2 f2 (by rw [← hs3, q3P, if_neg (fun z => h36 z.1)]; exact z3) q2
    · refine r_aload_n dX7_readUser_39 rfl ?_
      refine m_get 5 3 dX7_readUser_40 fl_X7_107 (ob_place pl32) rfl ?_
      refine r_iload_n dX7_readUser_43 rfl ?_
      refine m_cv1 dX7_readUser_44 cv_X7_111 (c_X1_anyOf pl32 q2.2.2.2.2.1 wJ.1 wJ.2.1) rfl (ob_jobs pl32) ⟨_, rfl, rfl⟩ ⟨rfl, rfl⟩ (by decide) (by decide) (Nat.le_of_ble_eq_true rfl) ?_
      refine r_if_eq 60 dX7_readUser_47 (by decide) (fun h47 => ?_) (fun h47 => ?_)
      · rw [bI_0] at h47
        exact c60 M2 f2 (by rw [← hs3, q3P, if_neg (fun z => h47 z.2)]; exact z3) q2
      · rw [bI_0, Decidable.not_not] at h47
        refine r_aload_n dX7_readUser_50 rfl ?_
        refine r_bipush (-3) dX7_readUser_51 (by decide) ?_
        refine r_aload_n dX7_readUser_53 rfl ?_
        refine m_get 7 6 dX7_readUser_54 fl_X7_117 ob_text rfl ?_
        refine m_pv2 dX7_readUser_57 cv_X7_85 (c_X7_fail (z4 (a2.2.2 h36).1) z3) ob_text ⟨_, rfl, rfl⟩ ⟨rfl, rfl⟩ (by decide) (by decide) (Nat.le_of_ble_eq_true rfl) (fun M3 L3 ⟨u1, u2, u3, u4⟩ => ?_)
        subst u1
        exact c60 M3 (fp_t f2 (fp_x u2)) (by rw [← hs3, q3P, if_pos ⟨h36, h47⟩]; exact u3) (qp_x u2 q2)
  have hfull : (12 : Int32) ≤ M (32 + 1) 0 ↔ 12 ≤ nu s.ra := by rw [show M (32 + 1) 0 = s.ra 4 from hQ.1.1, wU.1, show (12 : Int32) = nI 12 from rfl, nI_leI (by decide) (by omega)]
  refine r_aload_n dX7_readUser_0 rfl ?_
  refine m_get 5 0 dX7_readUser_1 fl_X7_92 (ob_place pl32) rfl ?_
  refine m_cv0 dX7_readUser_4 cv_X7_96 (c_X8_isFull pl32) rfl (ob_tree pl32) ⟨_, rfl, rfl⟩ ⟨rfl, rfl⟩ (by decide) (by decide) (Nat.le_of_ble_eq_true rfl) ?_
  refine r_if_eq 17 dX7_readUser_7 (by decide) (fun h7 => ?_) (fun h7 => ?_)
  · rw [bI_0, hfull] at h7
    exact c17 M fp_r (by rw [← hs1, q1P, if_neg (fun z => h7 (of_decide_eq_true z))]; exact h) hQ
  · rw [bI_0, Decidable.not_not, hfull] at h7
    refine r_aload_n dX7_readUser_10 rfl ?_
    refine r_bipush (-4) dX7_readUser_11 (by decide) ?_
    refine r_iload_n dX7_readUser_13 rfl ?_
    refine m_pv2 dX7_readUser_14 cv_X7_85 (c_X7_fail rfl h) ob_text ⟨_, rfl, rfl⟩ ⟨rfl, rfl⟩ (by decide) (by decide) (Nat.le_of_ble_eq_true rfl) (fun M1 L1 ⟨u1, u2, u3, u4⟩ => ?_)
    subst u1
    exact c17 M1 (fp_x u2) (by rw [← hs1, q1P, if_pos (decide_eq_true h7)]; exact u3) (qp_x u2 hQ)
theorem c_X7_readJob (hg : M 314 = g) (hn : n ≤ 600) (h : TX M n s) (hI : PI n s) (hQ : QP M 32 s.ra) : PO yX7_readJob I_X7_readJob [.ref 313, .ref 32, .int (nI st)] M L dd none (fun M' L' => L' = L ∧ Fp M M' ∧ TX M' n (rdJs g n st s) ∧ QP M' 32 (rdJs g n st s).ra) := by
  have hp := hI.1
  have hW := hI.2.1
  have wU := hI.2.1.1
  have wJ := hW.2.2.2.1
  have w3 := wU.2.2.1
  have a1 := q1_c (s := s) (st := st) (full := decide (30 ≤ nj s.ra))
  have a2 := rdN_c (g := g) (n := n) (lo := 0) (hi := s.ra 4 - 1) (s := q1P (decide (30 ≤ nj s.ra)) st s) (by rw [a1.2.1]; exact hp)
  have a3 := q3_c (g := g) (n := n) (t := fun v => decide (¬ lfS s.ra (zN v))) (s1 := q1P (decide (30 ≤ nj s.ra)) st s) (v := rdN g n 0 (s.ra 4 - 1) (q1P (decide (30 ≤ nj s.ra)) st s))
  have a4 := rdN_c (g := g) (n := n) (lo := 1) (hi := 60) (s := q3P g n (fun v => decide (¬ lfS s.ra (zN v))) (q1P (decide (30 ≤ nj s.ra)) st s) (rdN g n 0 (s.ra 4 - 1) (q1P (decide (30 ≤ nj s.ra)) st s))) (by rw [a3.2.1]; exact a2.2.1.2)
  unfold rdJs rdP
  generalize hs1 : q1P (decide (30 ≤ nj s.ra)) st s = s1 at *
  generalize hv1 : rdN g n 0 (s.ra 4 - 1) s1 = v1 at *
  generalize hs3 : q3P g n (fun v => decide (¬ lfS s.ra (zN v))) s1 v1 = s3 at *
  generalize hv2 : rdN g n 1 60 s3 = v2 at *
  refine po_mk (fun Q hq => ?_)
  refine a_met (by decide +kernel) rfl rfl (Nat.le_of_ble_eq_true rfl) (by simp [Value.category]) (by decide) rfl ?_
  show AW I_X7_readJob 0 [.ref 313, .ref 32, .int (nI st), .null, .null] [] (hS M L dd) 0 0 Q
  have c60 : ∀ (x : Int32) (M3 : Nat → Nat → Int32), x = v1.1 → Fp M M3 → TX M3 n s3 → QP M3 32 s.ra → AW I_X7_readJob 60 [.ref 313, .ref 32, .int (nI st), .int x, .null] [] (hS M3 L dd) 0 0 Q := by
    intro x M3 ex f3 t3 q3
    subst ex
    refine r_aload_n dX7_readJob_60 rfl ?_
    refine r_iconst_1 dX7_readJob_61 ?_
    refine r_bipush 60 dX7_readJob_62 (by decide) ?_
    refine m_pv2 dX7_readJob_64 cv_X7_104 (w_rdN ((f3.1 314 (by omega) (by omega)).trans hg) hn t3 (by rw [a3.2.1]; exact a2.2.1.2)) ob_text ⟨_, rfl, rfl⟩ ⟨rfl, rfl⟩ (by decide) (by decide) (Nat.le_of_ble_eq_true rfl) (fun M4 L4 ⟨z1, z2, z3, z4⟩ => ?_)
    subst z1
    rw [hv2] at z3 ⊢
    have q4 : QP M4 32 s.ra := qp_x z2 q3
    refine s_istore dX7_readJob_67 (by decide) rfl ?_
    refine r_aload_n dX7_readJob_69 rfl ?_
    refine m_get 7 1 dX7_readJob_70 fl_X7_34 ob_text rfl ?_
    rw [show M4 313 1 = v2.2.er from z3.2.2.1]
    refine r_if_ne 86 dX7_readJob_73 (by decide) (fun h73 => ?_) (fun h73 => ?_)
    · exact r_vret dX7_readJob_86 rfl (hq _ _ ⟨rfl, fp_t f3 (fp_x z2), by rw [q5P, if_neg h73]; exact z3, by rw [q5P, if_neg h73, a4.1, a3.1, a2.1, a1.1]; exact q4⟩)
    · obtain ⟨g1, g2, k2, g3, g4, g5, g6⟩ := a4.2.2 h73
      obtain ⟨i1, i2, i3⟩ := a3.2.2 g1
      obtain ⟨j1, j2, k1, j3, j4, j5, j6⟩ := a2.2.2 i1
      obtain ⟨l1, l2⟩ := a1.2.2 j1
      have hlt : nj s.ra < 30 := Nat.not_le.mp (of_decide_eq_false l2)
      refine r_aload_n dX7_readJob_76 rfl ?_
      refine m_get 5 3 dX7_readJob_77 fl_X7_107 (ob_place pl32) rfl ?_
      refine r_iload_n dX7_readJob_80 rfl ?_
      refine r_iload dX7_readJob_81 rfl ?_
      refine m_pv2 dX7_readJob_83 cv_X7_137 (c_X1_add pl32 q4.2.2.2.2.1 wJ.1 hlt) (ob_jobs pl32) ⟨_, rfl, rfl⟩ ⟨rfl, rfl⟩ (by decide) (by decide) (Nat.le_of_ble_eq_true rfl) (fun M5 L5 ⟨y1, y2, y3⟩ => ?_)
      subst y1
      have q5 : QP M5 32 (adJ s.ra v1.1 v2.1) := qp_jobs2 q4 y2 y3 (adJ_o hlt) hW
      exact r_vret dX7_readJob_86 rfl (hq _ _ ⟨rfl, fp_t f3 (fp_t (fp_x z2) (fp_p y2 (by omega) (by omega))), by rw [q5P, if_pos h73]; exact tx_f (y2 313 (by omega)) z3, by rw [q5P, if_pos h73]; exact q5⟩)
  have c17 : ∀ M1 : Nat → Nat → Int32, Fp M M1 → TX M1 n s1 → QP M1 32 s.ra → AW I_X7_readJob 17 [.ref 313, .ref 32, .int (nI st), .null, .null] [] (hS M1 L dd) 0 0 Q := by
    intro M1 f1 t1 q1
    refine r_aload_n dX7_readJob_17 rfl ?_
    refine r_iconst_0 dX7_readJob_18 ?_
    refine r_aload_n dX7_readJob_19 rfl ?_
    refine m_get 5 0 dX7_readJob_20 fl_X7_92 (ob_place pl32) rfl ?_
    refine m_get 8 0 dX7_readJob_23 fl_X7_101 (ob_tree pl32) rfl ?_
    refine r_iconst_1 dX7_readJob_26 ?_
    refine r_isub dX7_readJob_27 ?_
    rw [show M1 (32 + 1) 0 = s.ra 4 from q1.1.1]
    refine m_pv2 dX7_readJob_28 cv_X7_104 (w_rdN ((f1.1 314 (by omega) (by omega)).trans hg) hn t1 (by rw [a1.2.1]; exact hp)) ob_text ⟨_, rfl, rfl⟩ ⟨rfl, rfl⟩ (by decide) (by decide) (Nat.le_of_ble_eq_true rfl) (fun M2 L2 ⟨z1, z2, z3, z4⟩ => ?_)
    subst z1
    rw [hv1] at z3 ⊢
    have q2 : QP M2 32 s.ra := qp_x z2 q1
    have f2 : Fp M M2 := fp_t f1 (fp_x z2)
    refine s_istore_n 3 dX7_readJob_31 (by decide) rfl rfl ?_
    refine r_aload_n dX7_readJob_32 rfl ?_
    refine m_get 7 1 dX7_readJob_33 fl_X7_34 ob_text rfl ?_
    rw [show M2 313 1 = v1.2.er from z3.2.2.1]
    refine r_if_ne 60 dX7_readJob_36 (by decide) (fun h36 => ?_) (fun h36 => ?_)
    · exact c60 v1.1 M2 rfl f2 (by rw [← hs3, q3P, if_neg (fun z => h36 z.1)]; exact z3) q2
    · obtain ⟨j1, j2, k1, j3, j4, j5, j6⟩ := a2.2.2 h36
      have hk1 : k1 < nu s.ra := nI_pre wU.1 wU.2.1 w3 j3 j6
      have zk : zN v1.1 = k1 := by rw [j4]; exact nI_clamp (by omega)
      rw [j4]
      refine r_aload_n dX7_readJob_39 rfl ?_
      refine m_get 5 0 dX7_readJob_40 fl_X7_92 (ob_place pl32) rfl ?_
      refine r_iload_n dX7_readJob_43 rfl ?_
      refine m_cv1 dX7_readJob_44 cv_X7_134 (c_X8_isLeaf pl32 q2.1 wU hk1) rfl (ob_tree pl32) ⟨_, rfl, rfl⟩ ⟨rfl, rfl⟩ (by decide) (by decide) (Nat.le_of_ble_eq_true rfl) ?_
      refine r_if_ne 60 dX7_readJob_47 (by decide) (fun h47 => ?_) (fun h47 => ?_)
      · rw [bI_0, Decidable.not_not] at h47
        exact c60 _ M2 j4.symm f2 (by rw [← hs3, q3P, if_neg (fun z => (of_decide_eq_true z.2 : ¬ lfS s.ra (zN v1.1)) (by rw [zk]; exact h47))]; exact z3) q2
      · rw [bI_0] at h47
        refine r_aload_n dX7_readJob_50 rfl ?_
        refine r_bipush (-3) dX7_readJob_51 (by decide) ?_
        refine r_aload_n dX7_readJob_53 rfl ?_
        refine m_get 7 6 dX7_readJob_54 fl_X7_117 ob_text rfl ?_
        refine m_pv2 dX7_readJob_57 cv_X7_85 (c_X7_fail (z4 j1) z3) ob_text ⟨_, rfl, rfl⟩ ⟨rfl, rfl⟩ (by decide) (by decide) (Nat.le_of_ble_eq_true rfl) (fun M3 L3 ⟨u1, u2, u3, u4⟩ => ?_)
        subst u1
        exact c60 _ M3 j4.symm (fp_t f2 (fp_x u2)) (by rw [← hs3, q3P, if_pos ⟨h36, decide_eq_true (by rw [zk]; exact h47)⟩]; exact u3) (qp_x u2 q2)
  have hfull : (30 : Int32) ≤ M (32 + 15) 0 ↔ 30 ≤ nj s.ra := by rw [show M (32 + 15) 0 = s.ra 6 from hQ.2.2.2.2.1.1, wJ.1, show (30 : Int32) = nI 30 from rfl, nI_leI (by decide) (by have := wJ.2.1; omega)]
  refine r_aload_n dX7_readJob_0 rfl ?_
  refine m_get 5 3 dX7_readJob_1 fl_X7_107 (ob_place pl32) rfl ?_
  refine m_cv0 dX7_readJob_4 cv_X7_133 (c_X1_isFull pl32) rfl (ob_jobs pl32) ⟨_, rfl, rfl⟩ ⟨rfl, rfl⟩ (by decide) (by decide) (Nat.le_of_ble_eq_true rfl) ?_
  refine r_if_eq 17 dX7_readJob_7 (by decide) (fun h7 => ?_) (fun h7 => ?_)
  · rw [bI_0, hfull] at h7
    exact c17 M fp_r (by rw [← hs1, q1P, if_neg (fun z => h7 (of_decide_eq_true z))]; exact h) hQ
  · rw [bI_0, Decidable.not_not, hfull] at h7
    refine r_aload_n dX7_readJob_10 rfl ?_
    refine r_bipush (-4) dX7_readJob_11 (by decide) ?_
    refine r_iload_n dX7_readJob_13 rfl ?_
    refine m_pv2 dX7_readJob_14 cv_X7_85 (c_X7_fail rfl h) ob_text ⟨_, rfl, rfl⟩ ⟨rfl, rfl⟩ (by decide) (by decide) (Nat.le_of_ble_eq_true rfl) (fun M1 L1 ⟨u1, u2, u3, u4⟩ => ?_)
    subst u1
    exact c17 M1 (fp_x u2) (by rw [← hs1, q1P, if_pos (decide_eq_true h7)]; exact u3) (qp_x u2 hQ)
theorem c_X7_readMachine (hg : M 314 = g) (hn : n ≤ 600) (h : TX M n s) (hI : PI n s) (hQ : QP M 32 s.ra) : PO yX7_readMachine I_X7_readMachine [.ref 313, .ref 32, .int (nI st)] M L dd none (fun M' L' => L' = L ∧ Fp M M' ∧ TX M' n (rdMs g n st s) ∧ QP M' 32 (rdMs g n st s).ra) := by
  have hp := hI.1
  have hW := hI.2.1
  have wM := hW.2.2.1
  have w6 := wM.2.1
  have a1 := q1_c (s := s) (st := st) (full := decide (6 ≤ nm s.ra))
  have a2 := rdN_c (g := g) (n := n) (lo := 1) (hi := 4) (s := q1P (decide (6 ≤ nm s.ra)) st s) (by rw [a1.2.1]; exact hp)
  unfold rdMs
  generalize hs1 : q1P (decide (6 ≤ nm s.ra)) st s = s1 at *
  generalize hv1 : rdN g n 1 4 s1 = v1 at *
  refine po_mk (fun Q hq => ?_)
  refine a_met (by decide +kernel) rfl rfl (Nat.le_of_ble_eq_true rfl) (by simp [Value.category]) (by decide) rfl ?_
  show AW I_X7_readMachine 0 [.ref 313, .ref 32, .int (nI st), .null] [] (hS M L dd) 0 0 Q
  have c17 : ∀ M1 : Nat → Nat → Int32, Fp M M1 → TX M1 n s1 → QP M1 32 s.ra → AW I_X7_readMachine 17 [.ref 313, .ref 32, .int (nI st), .null] [] (hS M1 L dd) 0 0 Q := by
    intro M1 f1 t1 q1
    refine r_aload_n dX7_readMachine_17 rfl ?_
    refine r_iconst_1 dX7_readMachine_18 ?_
    refine r_iconst_4 dX7_readMachine_19 ?_
    refine m_pv2 dX7_readMachine_20 cv_X7_104 (w_rdN ((f1.1 314 (by omega) (by omega)).trans hg) hn t1 (by rw [a1.2.1]; exact hp)) ob_text ⟨_, rfl, rfl⟩ ⟨rfl, rfl⟩ (by decide) (by decide) (Nat.le_of_ble_eq_true rfl) (fun M2 L2 ⟨z1, z2, z3, z4⟩ => ?_)
    subst z1
    rw [hv1] at z3 ⊢
    have q2 : QP M2 32 s.ra := qp_x z2 q1
    have f2 : Fp M M2 := fp_t f1 (fp_x z2)
    refine s_istore_n 3 dX7_readMachine_23 (by decide) rfl rfl ?_
    refine r_aload_n dX7_readMachine_24 rfl ?_
    refine m_get 7 1 dX7_readMachine_25 fl_X7_34 ob_text rfl ?_
    rw [show M2 313 1 = v1.2.er from z3.2.2.1]
    refine r_if_ne 39 dX7_readMachine_28 (by decide) (fun h28 => ?_) (fun h28 => ?_)
    · exact r_vret dX7_readMachine_39 rfl (hq _ _ ⟨rfl, f2, by rw [q5P, if_neg h28]; exact z3, by rw [q5P, if_neg h28, a2.1, a1.1]; exact q2⟩)
    · obtain ⟨j1, j2, k1, j3, j4, j5, j6⟩ := a2.2.2 h28
      obtain ⟨l1, l2⟩ := a1.2.2 j1
      have hlt : nm s.ra < 6 := Nat.not_le.mp (of_decide_eq_false l2)
      refine r_aload_n dX7_readMachine_31 rfl ?_
      refine m_get 5 2 dX7_readMachine_32 fl_X7_123 (ob_place pl32) rfl ?_
      refine r_iload_n dX7_readMachine_35 rfl ?_
      refine m_pv1 dX7_readMachine_36 cv_X7_130 (c_X3_add pl32 q2.2.2.2.1 wM.1 hlt) (ob_machines pl32) ⟨_, rfl, rfl⟩ ⟨rfl, rfl⟩ (by decide) (by decide) (Nat.le_of_ble_eq_true rfl) (fun M5 L5 ⟨y1, y2, y3⟩ => ?_)
      subst y1
      have q5 : QP M5 32 (adM s.ra v1.1) := qp_mach q2 y2 y3 (fun i h1 h2 => by unfold adM; rw [upd_ne h1, upd_ne (by omega), upd_ne (by omega)]) hW
      exact r_vret dX7_readMachine_39 rfl (hq _ _ ⟨rfl, fp_t f2 (fp_p y2 (by omega) (by omega)), by rw [q5P, if_pos h28]; exact tx_f (y2 313 (by omega)) z3, by rw [q5P, if_pos h28]; exact q5⟩)
  have hfull : (6 : Int32) ≤ M (32 + 12) 0 ↔ 6 ≤ nm s.ra := by rw [show M (32 + 12) 0 = s.ra 5 from hQ.2.2.2.1.1, wM.1, show (6 : Int32) = nI 6 from rfl, nI_leI (by decide) (by omega)]
  refine r_aload_n dX7_readMachine_0 rfl ?_
  refine m_get 5 2 dX7_readMachine_1 fl_X7_123 (ob_place pl32) rfl ?_
  refine m_cv0 dX7_readMachine_4 cv_X7_127 (c_X3_isFull pl32) rfl (ob_machines pl32) ⟨_, rfl, rfl⟩ ⟨rfl, rfl⟩ (by decide) (by decide) (Nat.le_of_ble_eq_true rfl) ?_
  refine r_if_eq 17 dX7_readMachine_7 (by decide) (fun h7 => ?_) (fun h7 => ?_)
  · rw [bI_0, hfull] at h7
    exact c17 M fp_r (by rw [← hs1, q1P, if_neg (fun z => h7 (of_decide_eq_true z))]; exact h) hQ
  · rw [bI_0, Decidable.not_not, hfull] at h7
    refine r_aload_n dX7_readMachine_10 rfl ?_
    refine r_bipush (-4) dX7_readMachine_11 (by decide) ?_
    refine r_iload_n dX7_readMachine_13 rfl ?_
    refine m_pv2 dX7_readMachine_14 cv_X7_85 (c_X7_fail rfl h) ob_text ⟨_, rfl, rfl⟩ ⟨rfl, rfl⟩ (by decide) (by decide) (Nat.le_of_ble_eq_true rfl) (fun M1 L1 ⟨u1, u2, u3, u4⟩ => ?_)
    subst u1
    exact c17 M1 (fp_x u2) (by rw [← hs1, q1P, if_pos (decide_eq_true h7)]; exact u3) (qp_x u2 hQ)
theorem c_X7_readSetting {k : Nat} {q : Int32} (eq : q = nI k) (hk : k < 3) (hg : M 314 = g) (hn : n ≤ 600) (h : TX M n s) (hI : PI n s) (hQ : QP M 32 s.ra) : PO yX7_readSetting I_X7_readSetting [.ref 313, .ref 32, .int q] M L dd none (fun M' L' => L' = L ∧ Fp M M' ∧ TX M' n (rdSs g n k s) ∧ QP M' 32 (rdSs g n k s).ra) := by
  subst eq
  have hp := hI.1
  have hW := hI.2.1
  have hin : vp_in (nI k) 3 := pk_in k 3 hk
  have zk : (nI k).toNatClampNeg = k := nI_clamp (by omega)
  have a2 := rdN_c (g := g) (n := n) (lo := (a_sv 1).getD k 0) (hi := (a_sv 2).getD k 0) (s := s) hp
  unfold rdSs
  generalize hv1 : rdN g n ((a_sv 1).getD k 0) ((a_sv 2).getD k 0) s = v1 at *
  refine po_mk (fun Q hq => ?_)
  refine a_met (by decide +kernel) rfl rfl (Nat.le_of_ble_eq_true rfl) (by simp [Value.category]) (by decide) rfl ?_
  show AW I_X7_readSetting 0 [.ref 313, .ref 32, .int (nI k), .null] [] (hS M L dd) 0 0 Q
  refine r_iload_n dX7_readSetting_0 rfl ?_
  refine r_if_lt 9 dX7_readSetting_1 (by decide) (fun z => absurd z (nI_pos (by omega))) (fun _ => ?_)
  refine r_iload_n dX7_readSetting_4 rfl ?_
  refine r_iconst_3 dX7_readSetting_5 ?_
  refine r_icmp_lt 10 dX7_readSetting_6 (by decide) (fun _ => ?_) (fun z => absurd (show nI k < nI 3 from nI_lt hk (by decide)) z)
  refine r_aload_n dX7_readSetting_10 rfl ?_
  refine r_gets 1 dX7_readSetting_11 (by decide) (Or.inr g_698) ?_
  refine r_iload_n dX7_readSetting_14 rfl ?_
  refine r_tald 1 dX7_readSetting_15 (by decide) hin ?_
  refine r_gets 2 dX7_readSetting_16 (by decide) (Or.inr g_700) ?_
  refine r_iload_n dX7_readSetting_19 rfl ?_
  refine r_tald 2 dX7_readSetting_20 (by decide) hin ?_
  rw [zk]
  refine m_pv2 dX7_readSetting_21 cv_X7_104 (w_rdN hg hn h hp) ob_text ⟨_, rfl, rfl⟩ ⟨rfl, rfl⟩ (by decide) (by decide) (Nat.le_of_ble_eq_true rfl) (fun M2 L2 ⟨z1, z2, z3, z4⟩ => ?_)
  subst z1
  rw [hv1] at z3 ⊢
  have q2 : QP M2 32 s.ra := qp_x z2 hQ
  refine s_istore_n 3 dX7_readSetting_24 (by decide) rfl rfl ?_
  refine r_aload_n dX7_readSetting_25 rfl ?_
  refine m_get 7 1 dX7_readSetting_26 fl_X7_34 ob_text rfl ?_
  rw [show M2 313 1 = v1.2.er from z3.2.2.1]
  refine r_if_ne 39 dX7_readSetting_29 (by decide) (fun h29 => ?_) (fun h29 => ?_)
  · exact r_vret dX7_readSetting_39 rfl (hq _ _ ⟨rfl, fp_x z2, by rw [q5P, if_neg h29]; exact z3, by rw [q5P, if_neg h29, a2.1]; exact q2⟩)
  · refine r_aload_n dX7_readSetting_32 rfl ?_
    refine m_get 5 5 dX7_readSetting_33 fl_X7_145 (ob_place pl32) rfl ?_
    refine r_iload_n dX7_readSetting_36 rfl ?_
    refine r_iload_n dX7_readSetting_37 rfl ?_
    refine m_iast k dX7_readSetting_38 (ai_settings pl32) rfl (by omega) (by first | decide | assumption) ?_
    exact r_vret dX7_readSetting_39 rfl (hq _ _ ⟨rfl, fp_t (fp_x z2) (fp_p (fr_u fr_r (show 62 ≤ 32 + 30 ∧ 32 + 30 < 63 by omega)) (by omega) (by omega)), by rw [q5P, if_pos h29]; exact tx_f (mU_n (by omega)) z3, by rw [q5P, if_pos h29]; exact qp_set pl32 q2 hk hW⟩)
theorem c_X7_readStatement (hg : M 314 = g) (hn : n ≤ 600) (h : TX M n s) (hI : PI n s) (hQ : QP M 32 s.ra) : PO yX7_readStatement I_X7_readStatement [.ref 313, .ref 32] M L dd none (fun M' L' => L' = L ∧ Fp M M' ∧ TX M' n (stm g n s) ∧ QP M' 32 (stm g n s).ra) := by
  have hp := hI.1
  have b1 : s.po ≤ en cLt g n s.po ∧ en cLt g n s.po ≤ n := en_b hp
  refine po_mk (fun Q hq => ?_)
  refine a_met (by decide +kernel) rfl rfl (Nat.le_of_ble_eq_true rfl) (by simp [Value.category]) (by decide) rfl ?_
  show AW I_X7_readStatement 0 [.ref 313, .ref 32, .null] [] (hS M L dd) 0 0 Q
  refine r_aload_n dX7_readStatement_0 rfl ?_
  refine m_get 7 5 dX7_readStatement_1 fl_X7_31 ob_text rfl ?_
  refine s_istore_n 2 dX7_readStatement_4 (by decide) rfl rfl ?_
  refine r_aload_n dX7_readStatement_5 rfl ?_
  rw [show M 313 5 = nI s.po from h.2.1]
  refine m_pv0 dX7_readStatement_6 cv_X7_53 (w_word hg hn h hp) ob_text ⟨_, rfl, rfl⟩ ⟨rfl, rfl⟩ (by decide) (by decide) (Nat.le_of_ble_eq_true rfl) (fun M1 L1 ⟨x1, x2, x3, x4⟩ => ?_)
  subst x1
  have g1 : M1 314 = g := (x2.1 314 (by omega)).trans hg
  have q1 : QP M1 32 s.ra := qp_x x2 hQ
  have f1 : Fp M M1 := fp_x x2
  have i1 : PI n (⟨s.ra, en cLt g n s.po, s.er, s.ea⟩ : PS) := ⟨b1.2, hI.2⟩
  have est : stm g n s = rdC g n (stB g n s.po (⟨s.ra, en cLt g n s.po, s.er, s.ea⟩ : PS)) := rfl
  have hS1 : s.po ≤ PS.po (⟨s.ra, en cLt g n s.po, s.er, s.ea⟩ : PS) := b1.1
  have q1 : QP M1 32 (PS.ra (⟨s.ra, en cLt g n s.po, s.er, s.ea⟩ : PS)) := q1
  generalize (⟨s.ra, en cLt g n s.po, s.er, s.ea⟩ : PS) = s1 at x3 i1 est hS1 q1
  rw [est] at hq
  have c130 : ∀ (M3 : Nat → Nat → Int32) (s3 : PS), Fp M1 M3 → TX M3 n s3 → QP M3 32 s3.ra → stB g n s.po s1 = s3 → AW I_X7_readStatement 130 [.ref 313, .ref 32, .int (nI s.po)] [] (hS M3 L1 dd) 0 0 Q := by
    intro M3 s3 f3 t3 q3 e3
    have i3 := (stB_c (g := g) (st := s.po) i1).1
    rw [e3] at hq i3
    refine r_aload_n dX7_readStatement_130 rfl ?_
    refine m_pv0 dX7_readStatement_131 cv_X7_89 (w_rdC ((f3.1 314 (by omega) (by omega)).trans g1) hn t3 i3.1) ob_text ⟨_, rfl, rfl⟩ ⟨rfl, rfl⟩ (by decide) (by decide) (Nat.le_of_ble_eq_true rfl) (fun M4 L4 ⟨z1, z2, z3⟩ => ?_)
    subst z1
    have er : (rdC g n s3).ra = s3.ra := by
      unfold rdC
      split
      · split <;> rfl
      · rfl
    exact r_vret dX7_readStatement_134 rfl (hq _ _ ⟨rfl, fp_t f1 (fp_t f3 (fp_x z2)), z3, by rw [er]; exact qp_x z2 q3⟩)
  refine r_aload_n dX7_readStatement_9 rfl ?_
  refine r_kw 0 dX7_readStatement_10 (by decide) ?_
  refine r_iload_n dX7_readStatement_12 rfl ?_
  refine m_cv2 dX7_readStatement_13 cv_X7_58 (w_isW (k := 0) g1 (by decide) hn x3 i1.1 hS1) rfl ob_text ⟨_, rfl, rfl⟩ ⟨rfl, rfl⟩ (by decide) (by decide) (Nat.le_of_ble_eq_true rfl) ?_
  refine r_if_eq 28 dX7_readStatement_16 (by decide) (fun h16 => ?_) (fun h16 => ?_)
  · rw [bI_0] at h16
    refine r_aload_n dX7_readStatement_28 rfl ?_
    refine r_kw 1 dX7_readStatement_29 (by decide) ?_
    refine r_iload_n dX7_readStatement_31 rfl ?_
    refine m_cv2 dX7_readStatement_32 cv_X7_58 (w_isW (k := 1) g1 (by decide) hn x3 i1.1 hS1) rfl ob_text ⟨_, rfl, rfl⟩ ⟨rfl, rfl⟩ (by decide) (by decide) (Nat.le_of_ble_eq_true rfl) ?_
    refine r_if_eq 47 dX7_readStatement_35 (by decide) (fun h35 => ?_) (fun h35 => ?_)
    · rw [bI_0] at h35
      refine r_aload_n dX7_readStatement_47 rfl ?_
      refine r_kw 2 dX7_readStatement_48 (by decide) ?_
      refine r_iload_n dX7_readStatement_50 rfl ?_
      refine m_cv2 dX7_readStatement_51 cv_X7_58 (w_isW (k := 2) g1 (by decide) hn x3 i1.1 hS1) rfl ob_text ⟨_, rfl, rfl⟩ ⟨rfl, rfl⟩ (by decide) (by decide) (Nat.le_of_ble_eq_true rfl) ?_
      refine r_if_eq 66 dX7_readStatement_54 (by decide) (fun h54 => ?_) (fun h54 => ?_)
      · rw [bI_0] at h54
        refine r_aload_n dX7_readStatement_66 rfl ?_
        refine r_kw 3 dX7_readStatement_67 (by decide) ?_
        refine r_iload_n dX7_readStatement_69 rfl ?_
        refine m_cv2 dX7_readStatement_70 cv_X7_58 (w_isW (k := 3) g1 (by decide) hn x3 i1.1 hS1) rfl ob_text ⟨_, rfl, rfl⟩ ⟨rfl, rfl⟩ (by decide) (by decide) (Nat.le_of_ble_eq_true rfl) ?_
        refine r_if_eq 85 dX7_readStatement_73 (by decide) (fun h73 => ?_) (fun h73 => ?_)
        · rw [bI_0] at h73
          refine r_aload_n dX7_readStatement_85 rfl ?_
          refine r_kw 4 dX7_readStatement_86 (by decide) ?_
          refine r_iload_n dX7_readStatement_88 rfl ?_
          refine m_cv2 dX7_readStatement_89 cv_X7_58 (w_isW (k := 4) g1 (by decide) hn x3 i1.1 hS1) rfl ob_text ⟨_, rfl, rfl⟩ ⟨rfl, rfl⟩ (by decide) (by decide) (Nat.le_of_ble_eq_true rfl) ?_
          refine r_if_eq 104 dX7_readStatement_92 (by decide) (fun h92 => ?_) (fun h92 => ?_)
          · rw [bI_0] at h92
            refine r_aload_n dX7_readStatement_104 rfl ?_
            refine r_kw 5 dX7_readStatement_105 (by decide) ?_
            refine r_iload_n dX7_readStatement_107 rfl ?_
            refine m_cv2 dX7_readStatement_108 cv_X7_58 (w_isW (k := 5) g1 (by decide) hn x3 i1.1 hS1) rfl ob_text ⟨_, rfl, rfl⟩ ⟨rfl, rfl⟩ (by decide) (by decide) (Nat.le_of_ble_eq_true rfl) ?_
            refine r_if_eq 123 dX7_readStatement_111 (by decide) (fun h111 => ?_) (fun h111 => ?_)
            · rw [bI_0] at h111
              refine r_aload_n dX7_readStatement_123 rfl ?_
              refine r_bipush (-2) dX7_readStatement_124 (by decide) ?_
              refine r_iload_n dX7_readStatement_126 rfl ?_
              refine m_pv2 dX7_readStatement_127 cv_X7_85 (c_X7_fail rfl x3) ob_text ⟨_, rfl, rfl⟩ ⟨rfl, rfl⟩ (by decide) (by decide) (Nat.le_of_ble_eq_true rfl) (fun M2 L2 ⟨y1, y2, y3, y4⟩ => ?_)
              subst y1
              exact c130 M2 _ (fp_x y2) y3 (by rw [(fl_c (s := s1) (c := -2) (p := s.po) (by decide)).1]; exact qp_x y2 q1) (by rw [stB, if_neg h16, if_neg h35, if_neg h54, if_neg h73, if_neg h92, if_neg h111])
            · rw [bI_0, Decidable.not_not] at h111
              refine r_aload_n dX7_readStatement_114 rfl ?_
              refine r_aload_n dX7_readStatement_115 rfl ?_
              refine r_iconst_2 dX7_readStatement_116 ?_
              refine m_pv2 dX7_readStatement_117 cv_X7_78 (c_X7_readSetting (k := 2) rfl (by decide) g1 hn x3 i1 q1) ob_text ⟨_, rfl, rfl⟩ ⟨rfl, rfl⟩ (by decide) (by decide) (Nat.le_of_ble_eq_true rfl) (fun M2 L2 ⟨y1, y2, y3, y4⟩ => ?_)
              refine r_goto 130 dX7_readStatement_120 (by decide) ?_
              subst y1; exact c130 M2 _ y2 y3 y4 (by rw [stB, if_neg h16, if_neg h35, if_neg h54, if_neg h73, if_neg h92, if_pos h111])
          · rw [bI_0, Decidable.not_not] at h92
            refine r_aload_n dX7_readStatement_95 rfl ?_
            refine r_aload_n dX7_readStatement_96 rfl ?_
            refine r_iconst_1 dX7_readStatement_97 ?_
            refine m_pv2 dX7_readStatement_98 cv_X7_78 (c_X7_readSetting (k := 1) rfl (by decide) g1 hn x3 i1 q1) ob_text ⟨_, rfl, rfl⟩ ⟨rfl, rfl⟩ (by decide) (by decide) (Nat.le_of_ble_eq_true rfl) (fun M2 L2 ⟨y1, y2, y3, y4⟩ => ?_)
            refine r_goto 130 dX7_readStatement_101 (by decide) ?_
            subst y1; exact c130 M2 _ y2 y3 y4 (by rw [stB, if_neg h16, if_neg h35, if_neg h54, if_neg h73, if_pos h92])
        · rw [bI_0, Decidable.not_not] at h73
          refine r_aload_n dX7_readStatement_76 rfl ?_
          refine r_aload_n dX7_readStatement_77 rfl ?_
          refine r_iconst_0 dX7_readStatement_78 ?_
          refine m_pv2 dX7_readStatement_79 cv_X7_78 (c_X7_readSetting (k := 0) rfl (by decide) g1 hn x3 i1 q1) ob_text ⟨_, rfl, rfl⟩ ⟨rfl, rfl⟩ (by decide) (by decide) (Nat.le_of_ble_eq_true rfl) (fun M2 L2 ⟨y1, y2, y3, y4⟩ => ?_)
          refine r_goto 130 dX7_readStatement_82 (by decide) ?_
          subst y1; exact c130 M2 _ y2 y3 y4 (by rw [stB, if_neg h16, if_neg h35, if_neg h54, if_pos h73])
      · rw [bI_0, Decidable.not_not] at h54
        refine r_aload_n dX7_readStatement_57 rfl ?_
        refine r_aload_n dX7_readStatement_58 rfl ?_
        refine r_iload_n dX7_readStatement_59 rfl ?_
        refine m_pv2 dX7_readStatement_60 cv_X7_73 (c_X7_readJob g1 hn x3 i1 q1) ob_text ⟨_, rfl, rfl⟩ ⟨rfl, rfl⟩ (by decide) (by decide) (Nat.le_of_ble_eq_true rfl) (fun M2 L2 ⟨y1, y2, y3, y4⟩ => ?_)
        refine r_goto 130 dX7_readStatement_63 (by decide) ?_
        subst y1; exact c130 M2 _ y2 y3 y4 (by rw [stB, if_neg h16, if_neg h35, if_pos h54])
    · rw [bI_0, Decidable.not_not] at h35
      refine r_aload_n dX7_readStatement_38 rfl ?_
      refine r_aload_n dX7_readStatement_39 rfl ?_
      refine r_iload_n dX7_readStatement_40 rfl ?_
      refine m_pv2 dX7_readStatement_41 cv_X7_68 (c_X7_readMachine g1 hn x3 i1 q1) ob_text ⟨_, rfl, rfl⟩ ⟨rfl, rfl⟩ (by decide) (by decide) (Nat.le_of_ble_eq_true rfl) (fun M2 L2 ⟨y1, y2, y3, y4⟩ => ?_)
      refine r_goto 130 dX7_readStatement_44 (by decide) ?_
      subst y1; exact c130 M2 _ y2 y3 y4 (by rw [stB, if_neg h16, if_pos h35])
  · rw [bI_0, Decidable.not_not] at h16
    refine r_aload_n dX7_readStatement_19 rfl ?_
    refine r_aload_n dX7_readStatement_20 rfl ?_
    refine r_iload_n dX7_readStatement_21 rfl ?_
    refine m_pv2 dX7_readStatement_22 cv_X7_62 (c_X7_readUser g1 hn x3 i1 q1) ob_text ⟨_, rfl, rfl⟩ ⟨rfl, rfl⟩ (by decide) (by decide) (Nat.le_of_ble_eq_true rfl) (fun M2 L2 ⟨y1, y2, y3, y4⟩ => ?_)
    refine r_goto 130 dX7_readStatement_25 (by decide) ?_
    subst y1; exact c130 M2 _ y2 y3 y4 (by rw [stB, if_pos h16])
end TEXT2
