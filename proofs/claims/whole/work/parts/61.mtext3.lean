/-! THE MODEL READS A TEXT: statements -/
section MTEXT3
variable {M : Nat → Nat → Int32} {L : Nat → Nat → Int64} {dd : UInt64} {n p : Nat} {s : PS} {Q : a_Q} {g : Nat → Int32}
def Fh (M M' : Nat → Nat → Int32) : Prop := (∀ c, c ≠ 317 → c ≠ 318 → M' c = M c) ∧ ∀ i, (i < 9 ∨ 14 < i) → M' 317 i = M 317 i
theorem fh_r : Fh M M := ⟨fun _ _ _ => rfl, fun _ _ => rfl⟩
theorem fh_t {M1 M2 : Nat → Nat → Int32} (h : Fh M M1) (h2 : Fh M1 M2) : Fh M M2 := ⟨fun c g1 g2 => (h2.1 c g1 g2).trans (h.1 c g1 g2), fun i g1 => (h2.2 i g1).trans (h.2 i g1)⟩
theorem fh_g {M1 : Nat → Nat → Int32} (h : Fg M M1) : Fh M M1 := ⟨fun c g1 _ => h.1 c g1, h.2⟩
theorem ml_f {M1 : Nat → Nat → Int32} (h : M1 317 = M 317) (t : ML M g n s) : ML M1 g n s := by
  unfold ML MB LT at *; rw [h]; exact t
theorem pre_eq {x : Int32} {m : Nat} (hx : x = nI m) (h1 : 1 ≤ m) : x - 1 = nI (m - 1) := by
  rw [hx, show (1 : Int32) = nI 1 from rfl, pk_sub h1]
theorem mu_t {b : Nat} {s1 : PS} (h : s1.po = p) : muP True p b s1 = s1 := by
  unfold muP
  split
  · rw [if_pos trivial, ← h]
  · rfl
theorem c_X10_readsUser {st : Nat} (hB : BR M g n) (hn : n ≤ 600) (h : MB M n s) (h0 : s.er = 0) (h9 : M 317 9 = nI st) (h10 : M 317 10 = nI s.po) (hI : PI n s) (hA : M 318 = s.ra) : PO yX10_readsUser I_X10_readsUser [.ref 317] M L dd none (fun M' L' => L' = L ∧ Fh M M' ∧ ML M' g n (rdUs g n st s) ∧ M' 318 = (rdUs g n st s).ra) := by
  have hp := hI.1
  have hW := hI.2.1
  have wU := hI.2.1.1
  have wJ := hW.2.2.2.1
  have w3 := wU.2.2.1
  have w1 := wU.2.1
  have a1 := q1_c (s := s) (st := st) (full := decide (12 ≤ nu s.ra))
  have a2 := rdN_c (g := g) (n := n) (lo := 0) (hi := s.ra 4 - 1) (s := q1P (decide (12 ≤ nu s.ra)) st s) (by rw [a1.2.1]; exact hp)
  have a3 := q3_c (g := g) (n := n) (t := fun v => anJ s.ra v) (s1 := q1P (decide (12 ≤ nu s.ra)) st s) (v := rdN g n 0 (s.ra 4 - 1) (q1P (decide (12 ≤ nu s.ra)) st s))
  have a4 := rdN_c (g := g) (n := n) (lo := 1) (hi := 99) (s := q3P g n (fun v => anJ s.ra v) (q1P (decide (12 ≤ nu s.ra)) st s) (rdN g n 0 (s.ra 4 - 1) (q1P (decide (12 ≤ nu s.ra)) st s))) (by rw [a3.2.1]; exact a2.2.1.2)
  unfold rdUs rdP
  generalize hs1 : q1P (decide (12 ≤ nu s.ra)) st s = s1 at *
  generalize hv1 : rdN g n 0 (s.ra 4 - 1) s1 = v1 at *
  generalize hs3 : q3P g n (fun v => anJ s.ra v) s1 v1 = s3 at *
  generalize hv2 : rdN g n 1 99 s3 = v2 at *
  have hi1 : s.ra 4 - 1 = nI (nu s.ra - 1) := pre_eq wU.1 wU.2.1
  refine po_mk (fun Q hq => ?_)
  refine a_met (by decide +kernel) rfl rfl (Nat.le_of_ble_eq_true rfl) (by simp [Value.category]) (by decide) rfl ?_
  show AW I_X10_readsUser 0 [.ref 317, .null, .null] [] (hS M L dd) 0 0 Q
  have c67 : ∀ (M3 : Nat → Nat → Int32) (sx : PS), Fg M M3 → ML M3 g n sx → sx.po ≤ n → ((sx = s1 ∧ s3 = v1.2) ∨ (sx.er ≠ 0 ∧ s3.er = sx.er ∧ s3.ea = sx.ea)) → AW I_X10_readsUser 67 [.ref 317, .null, .null] [] (hS M3 L dd) 0 0 Q := by
    intro M3 sx f3 t3 p3 hx
    have e3 : M3 318 = s.ra := (f3.1 318 (by decide)).trans hA
    refine r_aload_n dX10_readsUser_67 rfl ?_
    refine r_iconst_0 dX10_readsUser_68 ?_
    refine r_aload_n dX10_readsUser_69 rfl ?_
    refine m_get 10 0 dX10_readsUser_70 fl_X10_7 ob_model rfl ?_
    refine r_iconst_4 dX10_readsUser_73 ?_
    refine m_iald 4 dX10_readsUser_74 ai_a rfl (by omega) (by first | decide | assumption) ?_
    refine r_iconst_1 dX10_readsUser_75 ?_
    refine r_isub dX10_readsUser_76 ?_
    rw [e3]
    refine m_pv2 dX10_readsUser_77 cv_X10_111 (c_X10_takes (lh := 0) (hh := nu s.ra - 1) rfl hi1 (by omega) (by omega) (brd_f f3 hB) hn t3 p3) ob_model ⟨_, rfl, rfl⟩ ⟨rfl, rfl⟩ (by decide) (by decide) (Nat.le_of_ble_eq_true rfl) (fun M4 L4 ⟨z1, z2, z3⟩ => ?_)
    subst z1
    have hz : ML M4 g n s3 ∧ (s3.er = 0 → (if (rdN g n 0 (s.ra 4 - 1) sx).2.er = 0 then (rdN g n 0 (s.ra 4 - 1) sx).1 else 0) = v1.1) := by
      rcases hx with ⟨y1, y2⟩ | ⟨y1, y2, y3⟩
      · subst y1
        rw [hv1] at z3 ⊢
        rw [y2]
        exact ⟨z3, fun w => if_pos w⟩
      · have e : rdN g n 0 (s.ra 4 - 1) sx = (-1, sx) := if_neg y1
        rw [e] at z3
        exact ⟨ml_e z3.1 y1 y2 y3, fun w => absurd (y2.symm.trans w) y1⟩
    generalize (if (rdN g n 0 (s.ra 4 - 1) sx).2.er = 0 then (rdN g n 0 (s.ra 4 - 1) sx).1 else 0) = x1 at hz ⊢
    obtain ⟨hz1, hz2⟩ := hz
    have f4 : Fg M M4 := fg_t f3 z2
    refine s_istore_n 1 dX10_readsUser_80 (by decide) rfl rfl ?_
    refine r_aload_n dX10_readsUser_81 rfl ?_
    refine r_iconst_1 dX10_readsUser_82 ?_
    refine r_bipush 99 dX10_readsUser_83 (by decide) ?_
    refine m_pv2 dX10_readsUser_85 cv_X10_111 (c_X10_takes (lh := 1) (hh := 99) rfl rfl (by decide) (by decide) (brd_f f4 hB) hn hz1 (by rw [a3.2.1]; exact a2.2.1.2)) ob_model ⟨_, rfl, rfl⟩ ⟨rfl, rfl⟩ (by decide) (by decide) (Nat.le_of_ble_eq_true rfl) (fun M5 L5 ⟨u1, u2, u3⟩ => ?_)
    subst u1
    rw [hv2] at u3 ⊢
    have f5 : Fg M M5 := fg_t f4 u2
    have e5 : M5 318 = s.ra := (f5.1 318 (by decide)).trans hA
    refine s_istore_n 2 dX10_readsUser_88 (by decide) rfl rfl ?_
    refine r_aload_n dX10_readsUser_89 rfl ?_
    refine m_get 10 13 dX10_readsUser_90 fl_X10_81 ob_model rfl ?_
    rw [show M5 317 13 = v2.2.er from u3.1.2.1]
    refine r_if_ne 102 dX10_readsUser_93 (by decide) (fun h94 => ?_) (fun h94 => ?_)
    · exact r_vret dX10_readsUser_102 rfl (hq _ _ ⟨rfl, fh_g f5, by rw [q5P, if_neg h94]; exact u3, by rw [q5P, if_neg h94, a4.1, a3.1, a2.1, a1.1]; exact e5⟩)
    · obtain ⟨g1, g2, k2, g3, g4, g5, g6⟩ := a4.2.2 h94
      obtain ⟨i1, i2, i3⟩ := a3.2.2 g1
      obtain ⟨j1, j2, k1, j3, j4, j5, j6⟩ := a2.2.2 i1
      obtain ⟨l1, l2⟩ := a1.2.2 j1
      have hlt : nu s.ra < 12 := Nat.not_le.mp (of_decide_eq_false l2)
      rw [if_pos h94, hz2 g1]
      refine r_aload_n dX10_readsUser_96 rfl ?_
      refine r_iload_n dX10_readsUser_97 rfl ?_
      refine r_iload_n dX10_readsUser_98 rfl ?_
      refine m_pv2 dX10_readsUser_99 cv_X10_115 (c_X10_addsUser e5 wU.1 hlt) ob_model ⟨_, rfl, rfl⟩ ⟨rfl, rfl⟩ (by decide) (by decide) (Nat.le_of_ble_eq_true rfl) (fun M6 L6 ⟨y1, y2⟩ => ?_)
      subst y1 y2
      exact r_vret dX10_readsUser_102 rfl (hq _ _ ⟨rfl, ⟨fun c h1 h2 => by rw [mU_n h2]; exact f5.1 c h1, fun i hi => by rw [mU_n (by decide)]; exact f5.2 i hi⟩, by rw [q5P, if_pos h94]; exact ml_f (mU_n (by decide)) u3, by rw [q5P, if_pos h94, mU_s]⟩)
  have c23 : ∀ M2 : Nat → Nat → Int32, Fg M M2 → ML M2 g n s1 → AW I_X10_readsUser 22 [.ref 317, .null, .null] [] (hS M2 L dd) 0 0 Q := by
    intro M2 f2 t2
    have e2 : M2 318 = s.ra := (f2.1 318 (by decide)).trans hA
    have p1 : s1.po ≤ n := by rw [a1.2.1]; exact hp
    refine r_aload_n dX10_readsUser_22 rfl ?_
    refine m_get 10 13 dX10_readsUser_23 fl_X10_81 ob_model rfl ?_
    rw [t2.1.2.1]
    refine r_if_ne 67 dX10_readsUser_26 (by decide) (fun h27 => ?_) (fun h27 => ?_)
    · exact c67 M2 s1 f2 t2 p1 (Or.inl ⟨rfl, by rw [← hs3, q3P, if_neg (fun z => h27 (a2.2.2 z.1).1)]⟩)
    · obtain ⟨l9, lb, lk⟩ := t2.2 h27
      by_cases hd : skp g n s1.po < n ∧ ¬ cLt (g (skp g n s1.po)) = true ∧ cDg (g (skp g n s1.po)) = true
      · obtain ⟨k11, k10, k12⟩ : M2 317 11 = 1 ∧ M2 317 10 = nI (evP g n s1) ∧ M2 317 12 = nI (dwF g (skp g n s1.po) (evP g n s1 - skp g n s1.po)) := by
          rcases lk with z | z | z | z
          · exact absurd hd.1 z.1
          · exact absurd z.2.1 hd.2.1
          · exact ⟨z.2.2.2.1, z.2.2.2.2.1, z.2.2.2.2.2⟩
          · exact absurd hd.2.2 z.2.2.1
        obtain ⟨d1, d2, d3⟩ := rdN_dig (lo := 0) (hi := s.ra 4 - 1) (lh := 0) (hh := nu s.ra - 1) h27 hn hd.1 hd.2.2 rfl hi1 (by omega) (by omega)
        generalize dwF g (skp g n s1.po) (evP g n s1 - skp g n s1.po) = w at k12 d1 d2 d3
        refine r_aload_n dX10_readsUser_29 rfl ?_
        refine m_get 10 11 dX10_readsUser_30 fl_X10_68 ob_model rfl ?_
        refine r_iconst_1 dX10_readsUser_33 ?_
        refine r_icmp_ne 67 dX10_readsUser_34 (by decide) (fun z => absurd k11 z) (fun _ => ?_)
        refine r_aload_n dX10_readsUser_37 rfl ?_
        refine m_get 10 12 dX10_readsUser_38 fl_X10_78 ob_model rfl ?_
        refine r_aload_n dX10_readsUser_41 rfl ?_
        refine m_get 10 0 dX10_readsUser_42 fl_X10_7 ob_model rfl ?_
        refine r_iconst_4 dX10_readsUser_45 ?_
        refine m_iald 4 dX10_readsUser_46 ai_a rfl (by omega) (by first | decide | assumption) ?_
        rw [k12, e2, wU.1]
        refine r_icmp_ge 67 dX10_readsUser_47 (by decide) (fun h48 => ?_) (fun h48 => ?_)
        · rw [nI_leI (by omega) (by omega)] at h48
          have e := d3 (by omega)
          rw [hv1] at e
          exact c67 M2 s1 f2 t2 p1 (Or.inl ⟨rfl, by rw [← hs3, q3P, if_neg (fun z => absurd z.1 (by rw [e]; show ¬ (-3 : Int32) = 0; decide))]⟩)
        · rw [nI_leI (by omega) (by omega)] at h48
          have e := d2 (by omega)
          rw [hv1] at e
          refine r_aload_n dX10_readsUser_50 rfl ?_
          refine r_aload_n dX10_readsUser_51 rfl ?_
          refine m_get 10 12 dX10_readsUser_52 fl_X10_78 ob_model rfl ?_
          rw [k12]
          refine m_cv1 dX10_readsUser_55 cv_X10_108 (c_X10_hasJobs e2 wJ.1 wJ.2.1) rfl ob_model ⟨_, rfl, rfl⟩ ⟨rfl, rfl⟩ (by decide) (by decide) (Nat.le_of_ble_eq_true rfl) ?_
          refine r_if_eq 67 dX10_readsUser_58 (by decide) (fun h59 => ?_) (fun h59 => ?_)
          · rw [bI_0] at h59
            exact c67 M2 s1 f2 t2 p1 (Or.inl ⟨rfl, by rw [← hs3, q3P, if_neg (fun z => h59 (by rw [e] at z; exact z.2))]⟩)
          · rw [bI_0, Decidable.not_not] at h59
            refine r_aload_n dX10_readsUser_61 rfl ?_
            refine r_bipush (-3) dX10_readsUser_62 (by decide) ?_
            refine m_pv1 dX10_readsUser_64 cv_X10_97 (c_X10_fails t2.1 (fun _ => l9)) ob_model ⟨_, rfl, rfl⟩ ⟨rfl, rfl⟩ (by decide) (by decide) (Nat.le_of_ble_eq_true rfl) (fun M3 L3 ⟨z1, z2, z3, z4⟩ => ?_)
            subst z1
            rw [flP, if_pos h27] at z4
            refine c67 M3 _ (fg_t f2 z2) (ml_e z4 (show ¬ (-3 : Int32) = 0 by decide) rfl rfl) p1 (Or.inr ⟨show ¬ (-3 : Int32) = 0 by decide, ?_, ?_⟩)
            · rw [← hs3, q3P, if_pos (by rw [e]; exact ⟨rfl, h59⟩), e, flP, if_pos rfl]
            · rw [← hs3, q3P, if_pos (by rw [e]; exact ⟨rfl, h59⟩), e, flP, if_pos rfl]
      · have hz : ¬ (skp g n s1.po < n ∧ cDg (g (skp g n s1.po)) = true) := by
          rintro ⟨y1, y2⟩
          refine hd ⟨y1, fun z => ?_, y2⟩
          exact absurd (Int32.le_trans (of_decide_eq_true z).1 (of_decide_eq_true y2).2) (by decide)
        have k11 : ¬ M2 317 11 = 1 := by
          rcases lk with z | z | z | z
          · rw [z.2.1]; decide
          · rw [z.2.2.1]; decide
          · exact absurd ⟨z.1, z.2.1, z.2.2.1⟩ hd
          · rw [z.2.2.2.1]; decide
        have e := rdN_nod (lo := 0) (hi := s.ra 4 - 1) h27 hz
        rw [hv1] at e
        refine r_aload_n dX10_readsUser_29 rfl ?_
        refine m_get 10 11 dX10_readsUser_30 fl_X10_68 ob_model rfl ?_
        refine r_iconst_1 dX10_readsUser_33 ?_
        refine r_icmp_ne 67 dX10_readsUser_34 (by decide) (fun _ => ?_) (fun z => absurd z k11)
        exact c67 M2 s1 f2 t2 p1 (Or.inl ⟨rfl, by rw [← hs3, q3P, if_neg (fun z => absurd z.1 (by rw [e]; show ¬ (-2 : Int32) = 0; decide))]⟩)
  have c18 : ∀ M1 : Nat → Nat → Int32, Fg M M1 → MB M1 n s1 → M1 317 10 = nI s.po → AW I_X10_readsUser 17 [.ref 317, .null, .null] [] (hS M1 L dd) 0 0 Q := by
    intro M1 f1 t1 k10
    refine r_aload_n dX10_readsUser_17 rfl ?_
    refine r_iconst_1 dX10_readsUser_18 ?_
    refine m_pv1 dX10_readsUser_19 cv_X10_104 (c_X10_must (ok := True) (b := 0) (p := s.po) rfl (brd_f f1 hB) hn t1 (fun _ _ => ⟨k10, hp⟩) (fun _ z => absurd trivial z)) ob_model ⟨_, rfl, rfl⟩ ⟨rfl, rfl⟩ (by decide) (by decide) (Nat.le_of_ble_eq_true rfl) (fun M2 L2 ⟨z1, z2, z3⟩ => ?_)
    subst z1
    rw [mu_t a1.2.1] at z3
    exact c23 M2 (fg_t f1 z2) z3
  have hf : s.ra 4 = 12 ↔ 12 ≤ nu s.ra := by
    rw [wU.1, show (12 : Int32) = nI 12 from rfl, nI_eq (by omega) (by decide)]
    omega
  refine r_aload_n dX10_readsUser_0 rfl ?_
  refine m_get 10 0 dX10_readsUser_1 fl_X10_7 ob_model rfl ?_
  refine r_iconst_4 dX10_readsUser_4 ?_
  refine m_iald 4 dX10_readsUser_5 ai_a rfl (by omega) (by first | decide | assumption) ?_
  refine r_bipush 12 dX10_readsUser_6 (by decide) ?_
  rw [hA]
  refine r_icmp_ne 17 dX10_readsUser_8 (by decide) (fun hb9 => ?_) (fun hb9 => ?_)
  · exact c18 M fg_r (by rw [← hs1, q1P, if_neg (fun z => hb9 (hf.mpr (of_decide_eq_true z)))]; exact h) h10
  · refine r_aload_n dX10_readsUser_11 rfl ?_
    refine r_bipush (-4) dX10_readsUser_12 (by decide) ?_
    refine m_pv1 dX10_readsUser_14 cv_X10_97 (c_X10_fails h (fun _ => h9)) ob_model ⟨_, rfl, rfl⟩ ⟨rfl, rfl⟩ (by decide) (by decide) (Nat.le_of_ble_eq_true rfl) (fun M1 L1 ⟨z1, z2, z3, z4⟩ => ?_)
    subst z1
    exact c18 M1 z2 (by rw [← hs1, q1P, if_pos (decide_eq_true (hf.mp hb9))]; exact z4) ((z3 10 (by decide) (by decide)).trans h10)
theorem c_X10_readsJob {st : Nat} (hB : BR M g n) (hn : n ≤ 600) (h : MB M n s) (h0 : s.er = 0) (h9 : M 317 9 = nI st) (h10 : M 317 10 = nI s.po) (hI : PI n s) (hA : M 318 = s.ra) : PO yX10_readsJob I_X10_readsJob [.ref 317] M L dd none (fun M' L' => L' = L ∧ Fh M M' ∧ ML M' g n (rdJs g n st s) ∧ M' 318 = (rdJs g n st s).ra) := by
  have hp := hI.1
  have hW := hI.2.1
  have wU := hI.2.1.1
  have wJ := hW.2.2.2.1
  have w3 := wU.2.2.1
  have w1 := wU.2.1
  have a1 := q1_c (s := s) (st := st) (full := decide (30 ≤ nj s.ra))
  have a2 := rdN_c (g := g) (n := n) (lo := 0) (hi := s.ra 4 - 1) (s := q1P (decide (30 ≤ nj s.ra)) st s) (by rw [a1.2.1]; exact hp)
  have a3 := q3_c (g := g) (n := n) (t := fun v => decide (¬ lfS s.ra (zN v))) (s1 := q1P (decide (30 ≤ nj s.ra)) st s) (v := rdN g n 0 (s.ra 4 - 1) (q1P (decide (30 ≤ nj s.ra)) st s))
  have a4 := rdN_c (g := g) (n := n) (lo := 1) (hi := 60) (s := q3P g n (fun v => decide (¬ lfS s.ra (zN v))) (q1P (decide (30 ≤ nj s.ra)) st s) (rdN g n 0 (s.ra 4 - 1) (q1P (decide (30 ≤ nj s.ra)) st s))) (by rw [a3.2.1]; exact a2.2.1.2)
  unfold rdJs rdP
  generalize hs1 : q1P (decide (30 ≤ nj s.ra)) st s = s1 at *
  generalize hv1 : rdN g n 0 (s.ra 4 - 1) s1 = v1 at *
  generalize hs3 : q3P g n (fun v => decide (¬ lfS s.ra (zN v))) s1 v1 = s3 at *
  generalize hv2 : rdN g n 1 60 s3 = v2 at *
  have hi1 : s.ra 4 - 1 = nI (nu s.ra - 1) := pre_eq wU.1 wU.2.1
  refine po_mk (fun Q hq => ?_)
  refine a_met (by decide +kernel) rfl rfl (Nat.le_of_ble_eq_true rfl) (by simp [Value.category]) (by decide) rfl ?_
  show AW I_X10_readsJob 0 [.ref 317, .null, .null] [] (hS M L dd) 0 0 Q
  have c67 : ∀ (M3 : Nat → Nat → Int32) (sx : PS), Fg M M3 → ML M3 g n sx → sx.po ≤ n → ((sx = s1 ∧ s3 = v1.2) ∨ (sx.er ≠ 0 ∧ s3.er = sx.er ∧ s3.ea = sx.ea)) → AW I_X10_readsJob 68 [.ref 317, .null, .null] [] (hS M3 L dd) 0 0 Q := by
    intro M3 sx f3 t3 p3 hx
    have e3 : M3 318 = s.ra := (f3.1 318 (by decide)).trans hA
    refine r_aload_n dX10_readsJob_68 rfl ?_
    refine r_iconst_0 dX10_readsJob_69 ?_
    refine r_aload_n dX10_readsJob_70 rfl ?_
    refine m_get 10 0 dX10_readsJob_71 fl_X10_7 ob_model rfl ?_
    refine r_iconst_4 dX10_readsJob_74 ?_
    refine m_iald 4 dX10_readsJob_75 ai_a rfl (by omega) (by first | decide | assumption) ?_
    refine r_iconst_1 dX10_readsJob_76 ?_
    refine r_isub dX10_readsJob_77 ?_
    rw [e3]
    refine m_pv2 dX10_readsJob_78 cv_X10_111 (c_X10_takes (lh := 0) (hh := nu s.ra - 1) rfl hi1 (by omega) (by omega) (brd_f f3 hB) hn t3 p3) ob_model ⟨_, rfl, rfl⟩ ⟨rfl, rfl⟩ (by decide) (by decide) (Nat.le_of_ble_eq_true rfl) (fun M4 L4 ⟨z1, z2, z3⟩ => ?_)
    subst z1
    have hz : ML M4 g n s3 ∧ (s3.er = 0 → (if (rdN g n 0 (s.ra 4 - 1) sx).2.er = 0 then (rdN g n 0 (s.ra 4 - 1) sx).1 else 0) = v1.1) := by
      rcases hx with ⟨y1, y2⟩ | ⟨y1, y2, y3⟩
      · subst y1
        rw [hv1] at z3 ⊢
        rw [y2]
        exact ⟨z3, fun w => if_pos w⟩
      · have e : rdN g n 0 (s.ra 4 - 1) sx = (-1, sx) := if_neg y1
        rw [e] at z3
        exact ⟨ml_e z3.1 y1 y2 y3, fun w => absurd (y2.symm.trans w) y1⟩
    generalize (if (rdN g n 0 (s.ra 4 - 1) sx).2.er = 0 then (rdN g n 0 (s.ra 4 - 1) sx).1 else 0) = x1 at hz ⊢
    obtain ⟨hz1, hz2⟩ := hz
    have f4 : Fg M M4 := fg_t f3 z2
    refine s_istore_n 1 dX10_readsJob_81 (by decide) rfl rfl ?_
    refine r_aload_n dX10_readsJob_82 rfl ?_
    refine r_iconst_1 dX10_readsJob_83 ?_
    refine r_bipush 60 dX10_readsJob_84 (by decide) ?_
    refine m_pv2 dX10_readsJob_86 cv_X10_111 (c_X10_takes (lh := 1) (hh := 60) rfl rfl (by decide) (by decide) (brd_f f4 hB) hn hz1 (by rw [a3.2.1]; exact a2.2.1.2)) ob_model ⟨_, rfl, rfl⟩ ⟨rfl, rfl⟩ (by decide) (by decide) (Nat.le_of_ble_eq_true rfl) (fun M5 L5 ⟨u1, u2, u3⟩ => ?_)
    subst u1
    rw [hv2] at u3 ⊢
    have f5 : Fg M M5 := fg_t f4 u2
    have e5 : M5 318 = s.ra := (f5.1 318 (by decide)).trans hA
    refine s_istore_n 2 dX10_readsJob_89 (by decide) rfl rfl ?_
    refine r_aload_n dX10_readsJob_90 rfl ?_
    refine m_get 10 13 dX10_readsJob_91 fl_X10_81 ob_model rfl ?_
    rw [show M5 317 13 = v2.2.er from u3.1.2.1]
    refine r_if_ne 103 dX10_readsJob_94 (by decide) (fun h94 => ?_) (fun h94 => ?_)
    · exact r_vret dX10_readsJob_103 rfl (hq _ _ ⟨rfl, fh_g f5, by rw [q5P, if_neg h94]; exact u3, by rw [q5P, if_neg h94, a4.1, a3.1, a2.1, a1.1]; exact e5⟩)
    · obtain ⟨g1, g2, k2, g3, g4, g5, g6⟩ := a4.2.2 h94
      obtain ⟨i1, i2, i3⟩ := a3.2.2 g1
      obtain ⟨j1, j2, k1, j3, j4, j5, j6⟩ := a2.2.2 i1
      obtain ⟨l1, l2⟩ := a1.2.2 j1
      have hlt : nj s.ra < 30 := Nat.not_le.mp (of_decide_eq_false l2)
      rw [if_pos h94, hz2 g1]
      refine r_aload_n dX10_readsJob_97 rfl ?_
      refine r_iload_n dX10_readsJob_98 rfl ?_
      refine r_iload_n dX10_readsJob_99 rfl ?_
      refine m_pv2 dX10_readsJob_100 cv_X10_122 (c_X10_addsJob e5 wJ.1 hlt) ob_model ⟨_, rfl, rfl⟩ ⟨rfl, rfl⟩ (by decide) (by decide) (Nat.le_of_ble_eq_true rfl) (fun M6 L6 ⟨y1, y2⟩ => ?_)
      subst y1 y2
      exact r_vret dX10_readsJob_103 rfl (hq _ _ ⟨rfl, ⟨fun c h1 h2 => by rw [mU_n h2]; exact f5.1 c h1, fun i hi => by rw [mU_n (by decide)]; exact f5.2 i hi⟩, by rw [q5P, if_pos h94]; exact ml_f (mU_n (by decide)) u3, by rw [q5P, if_pos h94, mU_s]⟩)
  have c23 : ∀ M2 : Nat → Nat → Int32, Fg M M2 → ML M2 g n s1 → AW I_X10_readsJob 23 [.ref 317, .null, .null] [] (hS M2 L dd) 0 0 Q := by
    intro M2 f2 t2
    have e2 : M2 318 = s.ra := (f2.1 318 (by decide)).trans hA
    have p1 : s1.po ≤ n := by rw [a1.2.1]; exact hp
    refine r_aload_n dX10_readsJob_23 rfl ?_
    refine m_get 10 13 dX10_readsJob_24 fl_X10_81 ob_model rfl ?_
    rw [t2.1.2.1]
    refine r_if_ne 68 dX10_readsJob_27 (by decide) (fun h27 => ?_) (fun h27 => ?_)
    · exact c67 M2 s1 f2 t2 p1 (Or.inl ⟨rfl, by rw [← hs3, q3P, if_neg (fun z => h27 (a2.2.2 z.1).1)]⟩)
    · obtain ⟨l9, lb, lk⟩ := t2.2 h27
      by_cases hd : skp g n s1.po < n ∧ ¬ cLt (g (skp g n s1.po)) = true ∧ cDg (g (skp g n s1.po)) = true
      · obtain ⟨k11, k10, k12⟩ : M2 317 11 = 1 ∧ M2 317 10 = nI (evP g n s1) ∧ M2 317 12 = nI (dwF g (skp g n s1.po) (evP g n s1 - skp g n s1.po)) := by
          rcases lk with z | z | z | z
          · exact absurd hd.1 z.1
          · exact absurd z.2.1 hd.2.1
          · exact ⟨z.2.2.2.1, z.2.2.2.2.1, z.2.2.2.2.2⟩
          · exact absurd hd.2.2 z.2.2.1
        obtain ⟨d1, d2, d3⟩ := rdN_dig (lo := 0) (hi := s.ra 4 - 1) (lh := 0) (hh := nu s.ra - 1) h27 hn hd.1 hd.2.2 rfl hi1 (by omega) (by omega)
        generalize dwF g (skp g n s1.po) (evP g n s1 - skp g n s1.po) = w at k12 d1 d2 d3
        refine r_aload_n dX10_readsJob_30 rfl ?_
        refine m_get 10 11 dX10_readsJob_31 fl_X10_68 ob_model rfl ?_
        refine r_iconst_1 dX10_readsJob_34 ?_
        refine r_icmp_ne 68 dX10_readsJob_35 (by decide) (fun z => absurd k11 z) (fun _ => ?_)
        refine r_aload_n dX10_readsJob_38 rfl ?_
        refine m_get 10 12 dX10_readsJob_39 fl_X10_78 ob_model rfl ?_
        refine r_aload_n dX10_readsJob_42 rfl ?_
        refine m_get 10 0 dX10_readsJob_43 fl_X10_7 ob_model rfl ?_
        refine r_iconst_4 dX10_readsJob_46 ?_
        refine m_iald 4 dX10_readsJob_47 ai_a rfl (by omega) (by first | decide | assumption) ?_
        rw [k12, e2, wU.1]
        refine r_icmp_ge 68 dX10_readsJob_48 (by decide) (fun h48 => ?_) (fun h48 => ?_)
        · rw [nI_leI (by omega) (by omega)] at h48
          have e := d3 (by omega)
          rw [hv1] at e
          exact c67 M2 s1 f2 t2 p1 (Or.inl ⟨rfl, by rw [← hs3, q3P, if_neg (fun z => absurd z.1 (by rw [e]; show ¬ (-3 : Int32) = 0; decide))]⟩)
        · rw [nI_leI (by omega) (by omega)] at h48
          have e := d2 (by omega)
          rw [hv1] at e
          refine r_aload_n dX10_readsJob_51 rfl ?_
          refine r_aload_n dX10_readsJob_52 rfl ?_
          refine m_get 10 12 dX10_readsJob_53 fl_X10_78 ob_model rfl ?_
          rw [k12]
          refine m_cv1 dX10_readsJob_56 cv_X10_119 (c_X10_isLeaf e2 wU.1 w3) rfl ob_model ⟨_, rfl, rfl⟩ ⟨rfl, rfl⟩ (by decide) (by decide) (Nat.le_of_ble_eq_true rfl) ?_
          refine r_if_ne 68 dX10_readsJob_59 (by decide) (fun h59 => ?_) (fun h59 => ?_)
          · rw [bI_0, Decidable.not_not] at h59
            exact c67 M2 s1 f2 t2 p1 (Or.inl ⟨rfl, by rw [← hs3, q3P, if_neg (fun z => by rw [e] at z; exact (of_decide_eq_true z.2 : ¬ lfS s.ra (zN (nI w))) (by rw [show zN (nI w) = w from nI_clamp (by omega)]; exact h59))]⟩)
          · rw [bI_0] at h59
            have tt : decide (¬ lfS s.ra (zN (nI w))) = true := decide_eq_true (by rw [show zN (nI w) = w from nI_clamp (by omega)]; exact h59)
            refine r_aload_n dX10_readsJob_62 rfl ?_
            refine r_bipush (-3) dX10_readsJob_63 (by decide) ?_
            refine m_pv1 dX10_readsJob_65 cv_X10_97 (c_X10_fails t2.1 (fun _ => l9)) ob_model ⟨_, rfl, rfl⟩ ⟨rfl, rfl⟩ (by decide) (by decide) (Nat.le_of_ble_eq_true rfl) (fun M3 L3 ⟨z1, z2, z3, z4⟩ => ?_)
            subst z1
            rw [flP, if_pos h27] at z4
            refine c67 M3 _ (fg_t f2 z2) (ml_e z4 (show ¬ (-3 : Int32) = 0 by decide) rfl rfl) p1 (Or.inr ⟨show ¬ (-3 : Int32) = 0 by decide, ?_, ?_⟩)
            · rw [← hs3, q3P, if_pos (by rw [e]; exact ⟨rfl, tt⟩), e, flP, if_pos rfl]
            · rw [← hs3, q3P, if_pos (by rw [e]; exact ⟨rfl, tt⟩), e, flP, if_pos rfl]
      · have hz : ¬ (skp g n s1.po < n ∧ cDg (g (skp g n s1.po)) = true) := by
          rintro ⟨y1, y2⟩
          refine hd ⟨y1, fun z => ?_, y2⟩
          exact absurd (Int32.le_trans (of_decide_eq_true z).1 (of_decide_eq_true y2).2) (by decide)
        have k11 : ¬ M2 317 11 = 1 := by
          rcases lk with z | z | z | z
          · rw [z.2.1]; decide
          · rw [z.2.2.1]; decide
          · exact absurd ⟨z.1, z.2.1, z.2.2.1⟩ hd
          · rw [z.2.2.2.1]; decide
        have e := rdN_nod (lo := 0) (hi := s.ra 4 - 1) h27 hz
        rw [hv1] at e
        refine r_aload_n dX10_readsJob_30 rfl ?_
        refine m_get 10 11 dX10_readsJob_31 fl_X10_68 ob_model rfl ?_
        refine r_iconst_1 dX10_readsJob_34 ?_
        refine r_icmp_ne 68 dX10_readsJob_35 (by decide) (fun _ => ?_) (fun z => absurd z k11)
        exact c67 M2 s1 f2 t2 p1 (Or.inl ⟨rfl, by rw [← hs3, q3P, if_neg (fun z => absurd z.1 (by rw [e]; show ¬ (-2 : Int32) = 0; decide))]⟩)
  have c18 : ∀ M1 : Nat → Nat → Int32, Fg M M1 → MB M1 n s1 → M1 317 10 = nI s.po → AW I_X10_readsJob 18 [.ref 317, .null, .null] [] (hS M1 L dd) 0 0 Q := by
    intro M1 f1 t1 k10
    refine r_aload_n dX10_readsJob_18 rfl ?_
    refine r_iconst_1 dX10_readsJob_19 ?_
    refine m_pv1 dX10_readsJob_20 cv_X10_104 (c_X10_must (ok := True) (b := 0) (p := s.po) rfl (brd_f f1 hB) hn t1 (fun _ _ => ⟨k10, hp⟩) (fun _ z => absurd trivial z)) ob_model ⟨_, rfl, rfl⟩ ⟨rfl, rfl⟩ (by decide) (by decide) (Nat.le_of_ble_eq_true rfl) (fun M2 L2 ⟨z1, z2, z3⟩ => ?_)
    subst z1
    rw [mu_t a1.2.1] at z3
    exact c23 M2 (fg_t f1 z2) z3
  have hf : s.ra 6 = 30 ↔ 30 ≤ nj s.ra := by
    rw [wJ.1, show (30 : Int32) = nI 30 from rfl, nI_eq (by have := wJ.2.1; omega) (by decide)]
    have := wJ.2.1; omega
  refine r_aload_n dX10_readsJob_0 rfl ?_
  refine m_get 10 0 dX10_readsJob_1 fl_X10_7 ob_model rfl ?_
  refine r_bipush 6 dX10_readsJob_4 (by decide) ?_
  refine m_iald 6 dX10_readsJob_6 ai_a rfl (by omega) (by first | decide | assumption) ?_
  refine r_bipush 30 dX10_readsJob_7 (by decide) ?_
  rw [hA]
  refine r_icmp_ne 18 dX10_readsJob_9 (by decide) (fun hb9 => ?_) (fun hb9 => ?_)
  · exact c18 M fg_r (by rw [← hs1, q1P, if_neg (fun z => hb9 (hf.mpr (of_decide_eq_true z)))]; exact h) h10
  · refine r_aload_n dX10_readsJob_12 rfl ?_
    refine r_bipush (-4) dX10_readsJob_13 (by decide) ?_
    refine m_pv1 dX10_readsJob_15 cv_X10_97 (c_X10_fails h (fun _ => h9)) ob_model ⟨_, rfl, rfl⟩ ⟨rfl, rfl⟩ (by decide) (by decide) (Nat.le_of_ble_eq_true rfl) (fun M1 L1 ⟨z1, z2, z3, z4⟩ => ?_)
    subst z1
    exact c18 M1 z2 (by rw [← hs1, q1P, if_pos (decide_eq_true (hf.mp hb9))]; exact z4) ((z3 10 (by decide) (by decide)).trans h10)
end MTEXT3
