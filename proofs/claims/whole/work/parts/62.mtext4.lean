/-! THE MODEL READS A TEXT: machines, settings, any statement -/
section MTEXT4
variable {M : Nat → Nat → Int32} {L : Nat → Nat → Int64} {dd : UInt64} {n p : Nat} {s : PS} {Q : a_Q} {g : Nat → Int32}
theorem c_X10_readsMachine {st : Nat} (hB : BR M g n) (hn : n ≤ 600) (h : MB M n s) (h0 : s.er = 0) (h9 : M 317 9 = nI st) (h10 : M 317 10 = nI s.po) (hI : PI n s) (hA : M 318 = s.ra) : PO yX10_readsMachine I_X10_readsMachine [.ref 317] M L dd none (fun M' L' => L' = L ∧ Fh M M' ∧ ML M' g n (rdMs g n st s) ∧ M' 318 = (rdMs g n st s).ra) := by
  have hp := hI.1
  have hW := hI.2.1
  have wM := hW.2.2.1
  have w6 := wM.2.1
  have a1 := q1_c (s := s) (st := st) (full := decide (6 ≤ nm s.ra))
  have a2 := rdN_c (g := g) (n := n) (lo := 1) (hi := 4) (s := q1P (decide (6 ≤ nm s.ra)) st s) (by rw [a1.2.1]; exact hp)
  unfold rdMs
  generalize hs1 : q1P (decide (6 ≤ nm s.ra)) st s = s1 at *
  refine po_mk (fun Q hq => ?_)
  refine a_met (by decide +kernel) rfl rfl (Nat.le_of_ble_eq_true rfl) (by simp [Value.category]) (by decide) rfl ?_
  show AW I_X10_readsMachine 0 [.ref 317, .null] [] (hS M L dd) 0 0 Q
  have c17 : ∀ M1 : Nat → Nat → Int32, Fg M M1 → MB M1 n s1 → M1 317 10 = nI s.po → AW I_X10_readsMachine 17 [.ref 317, .null] [] (hS M1 L dd) 0 0 Q := by
    intro M1 f1 t1 k10
    refine r_aload_n dX10_readsMachine_17 rfl ?_
    refine r_iconst_1 dX10_readsMachine_18 ?_
    refine m_pv1 dX10_readsMachine_19 cv_X10_104 (c_X10_must (ok := True) (b := 0) (p := s.po) rfl (brd_f f1 hB) hn t1 (fun _ _ => ⟨k10, hp⟩) (fun _ z => absurd trivial z)) ob_model ⟨_, rfl, rfl⟩ ⟨rfl, rfl⟩ (by decide) (by decide) (Nat.le_of_ble_eq_true rfl) (fun M2 L2 ⟨z1, z2, z3⟩ => ?_)
    subst z1
    rw [mu_t a1.2.1] at z3
    have f2 : Fg M M2 := fg_t f1 z2
    refine r_aload_n dX10_readsMachine_22 rfl ?_
    refine r_iconst_1 dX10_readsMachine_23 ?_
    refine r_iconst_4 dX10_readsMachine_24 ?_
    refine m_pv2 dX10_readsMachine_25 cv_X10_111 (c_X10_takes (lh := 1) (hh := 4) rfl rfl (by decide) (by decide) (brd_f f2 hB) hn z3 (by rw [a1.2.1]; exact hp)) ob_model ⟨_, rfl, rfl⟩ ⟨rfl, rfl⟩ (by decide) (by decide) (Nat.le_of_ble_eq_true rfl) (fun M3 L3 ⟨u1, u2, u3⟩ => ?_)
    subst u1
    have f3 : Fg M M3 := fg_t f2 u2
    have e3 : M3 318 = s.ra := (f3.1 318 (by decide)).trans hA
    generalize hv1 : rdN g n 1 4 s1 = v1 at *
    refine s_istore_n 1 dX10_readsMachine_28 (by decide) rfl rfl ?_
    refine r_aload_n dX10_readsMachine_29 rfl ?_
    refine m_get 10 13 dX10_readsMachine_30 fl_X10_81 ob_model rfl ?_
    rw [show M3 317 13 = v1.2.er from u3.1.2.1]
    refine r_if_eq 37 dX10_readsMachine_33 (by decide) (fun h33 => ?_) (fun h33 => ?_)
    · obtain ⟨j1, j2, k1, j3, j4, j5, j6⟩ := a2.2.2 h33
      obtain ⟨l1, l2⟩ := a1.2.2 j1
      have hlt : nm s.ra < 6 := Nat.not_le.mp (of_decide_eq_false l2)
      rw [if_pos h33]
      have e5 : M3 318 5 = nI (nm s.ra) := by rw [e3]; exact wM.1
      refine r_aload_n dX10_readsMachine_37 rfl ?_
      refine m_get 10 0 dX10_readsMachine_38 fl_X10_7 ob_model rfl ?_
      refine r_bipush 46 dX10_readsMachine_41 (by decide) ?_
      refine r_aload_n dX10_readsMachine_43 rfl ?_
      refine m_get 10 0 dX10_readsMachine_44 fl_X10_7 ob_model rfl ?_
      refine r_iconst_5 dX10_readsMachine_47 ?_
      refine m_iald 5 dX10_readsMachine_48 ai_a rfl (by omega) (by first | decide | assumption) ?_
      refine r_iadd dX10_readsMachine_49 ?_
      refine r_iload_n dX10_readsMachine_50 rfl ?_
      refine m_iast (46 + nm s.ra) dX10_readsMachine_51 ai_a (by rw [e5]; exact nI_add 46 _) (by omega) (by first | decide | assumption) ?_
      refine r_aload_n dX10_readsMachine_52 rfl ?_
      refine m_get 10 0 dX10_readsMachine_53 fl_X10_7 ob_model rfl ?_
      refine r_bipush 52 dX10_readsMachine_56 (by decide) ?_
      refine r_aload_n dX10_readsMachine_58 rfl ?_
      refine m_get 10 0 dX10_readsMachine_59 fl_X10_7 ob_model rfl ?_
      refine r_iconst_5 dX10_readsMachine_62 ?_
      refine m_iald 5 dX10_readsMachine_63 ai_a rfl (by omega) (by first | decide | assumption) ?_
      refine r_iadd dX10_readsMachine_64 ?_
      refine r_iconst_1 dX10_readsMachine_65 ?_
      refine m_iast (52 + nm s.ra) dX10_readsMachine_66 ai_a (by rw [mU_s, upd_ne (by omega), e5]; exact nI_add 52 _) (by omega) (by first | decide | assumption) ?_
      refine r_aload_n dX10_readsMachine_67 rfl ?_
      refine m_get 10 0 dX10_readsMachine_68 fl_X10_7 ob_model rfl ?_
      refine r_iconst_5 dX10_readsMachine_71 ?_
      refine r_dup2 dX10_readsMachine_72 rfl rfl ?_
      refine m_iald 5 dX10_readsMachine_73 ai_a rfl (by omega) (by first | decide | assumption) ?_
      refine r_iconst_1 dX10_readsMachine_74 ?_
      refine r_iadd dX10_readsMachine_75 ?_
      refine m_iast 5 dX10_readsMachine_76 ai_a rfl (by omega) (by first | decide | assumption) ?_
      refine r_vret dX10_readsMachine_77 rfl (hq _ _ ⟨rfl, ⟨fun c h1 h2 => by rw [mU_n h2, mU_n h2, mU_n h2]; exact f3.1 c h1, fun i hi => by rw [mU_n (by decide), mU_n (by decide), mU_n (by decide)]; exact f3.2 i hi⟩, by rw [q5P, if_pos h33]; exact ml_f (by rw [mU_n (by decide), mU_n (by decide), mU_n (by decide)]) u3, ?_⟩)
      rw [q5P, if_pos h33]
      show _ = adM s.ra v1.1
      simp only [mU_s]
      rw [e3, upd_ne (by omega), upd_ne (by omega)]
      rfl
    · exact r_vret dX10_readsMachine_36 rfl (hq _ _ ⟨rfl, fh_g f3, by rw [q5P, if_neg h33]; exact u3, by rw [q5P, if_neg h33, a2.1, a1.1]; exact e3⟩)
  have hf : s.ra 5 = 6 ↔ 6 ≤ nm s.ra := by
    rw [wM.1, show (6 : Int32) = nI 6 from rfl, nI_eq (by omega) (by decide)]
    omega
  refine r_aload_n dX10_readsMachine_0 rfl ?_
  refine m_get 10 0 dX10_readsMachine_1 fl_X10_7 ob_model rfl ?_
  refine r_iconst_5 dX10_readsMachine_4 ?_
  refine m_iald 5 dX10_readsMachine_5 ai_a rfl (by omega) (by first | decide | assumption) ?_
  refine r_bipush 6 dX10_readsMachine_6 (by decide) ?_
  rw [hA]
  refine r_icmp_ne 17 dX10_readsMachine_8 (by decide) (fun hb8 => ?_) (fun hb8 => ?_)
  · exact c17 M fg_r (by rw [← hs1, q1P, if_neg (fun z => hb8 (hf.mpr (of_decide_eq_true z)))]; exact h) h10
  · refine r_aload_n dX10_readsMachine_11 rfl ?_
    refine r_bipush (-4) dX10_readsMachine_12 (by decide) ?_
    refine m_pv1 dX10_readsMachine_14 cv_X10_97 (c_X10_fails h (fun _ => h9)) ob_model ⟨_, rfl, rfl⟩ ⟨rfl, rfl⟩ (by decide) (by decide) (Nat.le_of_ble_eq_true rfl) (fun M1 L1 ⟨z1, z2, z3, z4⟩ => ?_)
    subst z1
    exact c17 M1 z2 (by rw [← hs1, q1P, if_pos (decide_eq_true (hf.mp hb8))]; exact z4) ((z3 10 (by decide) (by decide)).trans h10)
theorem c_X10_readsSetting {k : Nat} {q : Int32} (eq : q = nI (k + 1)) (hk : k < 3) (hB : BR M g n) (hn : n ≤ 600) (h : MB M n s) (h0 : s.er = 0) (h10 : M 317 10 = nI s.po) (hI : PI n s) (hA : M 318 = s.ra) : PO yX10_readsSetting I_X10_readsSetting [.ref 317, .int q] M L dd none (fun M' L' => L' = L ∧ Fh M M' ∧ ML M' g n (rdSs g n k s) ∧ M' 318 = (rdSs g n k s).ra) := by
  subst eq
  have hp := hI.1
  have a2 := rdN_c (g := g) (n := n) (lo := (a_sv 1).getD k 0) (hi := (a_sv 2).getD k 0) (s := s) hp
  have eb : lsI (k + 1) = (a_sv 1).getD k 0 ∧ msI (k + 1) = (a_sv 2).getD k 0 ∧ (a_sv 1).getD k 0 = nI (leS k) ∧ leS k ≤ 9999 ∧ (a_sv 2).getD k 0 = nI (moS k) ∧ moS k ≤ 9999 := by
    rcases (show k = 0 ∨ k = 1 ∨ k = 2 by omega) with y | y | y <;> subst y <;> decide
  unfold rdSs
  refine po_mk (fun Q hq => ?_)
  refine a_met (by decide +kernel) rfl rfl (Nat.le_of_ble_eq_true rfl) (by simp [Value.category]) (by decide) rfl ?_
  show AW I_X10_readsSetting 0 [.ref 317, .int (nI (k + 1)), .null] [] (hS M L dd) 0 0 Q
  refine r_aload_n dX10_readsSetting_0 rfl ?_
  refine r_iconst_1 dX10_readsSetting_1 ?_
  refine m_pv1 dX10_readsSetting_2 cv_X10_104 (c_X10_must (ok := True) (b := 0) (p := s.po) rfl hB hn h (fun _ _ => ⟨h10, hp⟩) (fun _ z => absurd trivial z)) ob_model ⟨_, rfl, rfl⟩ ⟨rfl, rfl⟩ (by decide) (by decide) (Nat.le_of_ble_eq_true rfl) (fun M2 L2 ⟨z1, z2, z3⟩ => ?_)
  subst z1
  rw [mu_t rfl] at z3
  refine r_aload_n dX10_readsSetting_5 rfl ?_
  refine r_iload_n dX10_readsSetting_6 rfl ?_
  refine m_cs1 dX10_readsSetting_7 cs_X10_125 (c_X10_least (by omega)) rfl ⟨rfl, rfl⟩ (by decide) (by decide) (Nat.le_of_ble_eq_true rfl) ?_
  refine r_iload_n dX10_readsSetting_10 rfl ?_
  refine m_cs1 dX10_readsSetting_11 cs_X10_128 (c_X10_most (by omega)) rfl ⟨rfl, rfl⟩ (by decide) (by decide) (Nat.le_of_ble_eq_true rfl) ?_
  rw [eb.1, eb.2.1]
  refine m_pv2 dX10_readsSetting_14 cv_X10_111 (c_X10_takes eb.2.2.1 eb.2.2.2.2.1 eb.2.2.2.1 eb.2.2.2.2.2 (brd_f z2 hB) hn z3 hp) ob_model ⟨_, rfl, rfl⟩ ⟨rfl, rfl⟩ (by decide) (by decide) (Nat.le_of_ble_eq_true rfl) (fun M3 L3 ⟨u1, u2, u3⟩ => ?_)
  subst u1
  have f3 : Fg M M3 := fg_t z2 u2
  have e3 : M3 318 = s.ra := (f3.1 318 (by decide)).trans hA
  generalize rdN g n ((a_sv 1).getD k 0) ((a_sv 2).getD k 0) s = v1 at *
  refine s_istore_n 2 dX10_readsSetting_17 (by decide) rfl rfl ?_
  refine r_aload_n dX10_readsSetting_18 rfl ?_
  refine m_get 10 13 dX10_readsSetting_19 fl_X10_81 ob_model rfl ?_
  rw [show M3 317 13 = v1.2.er from u3.1.2.1]
  refine r_if_ne 32 dX10_readsSetting_22 (by decide) (fun h22 => ?_) (fun h22 => ?_)
  · exact r_vret dX10_readsSetting_32 rfl (hq _ _ ⟨rfl, fh_g f3, by rw [q5P, if_neg h22]; exact u3, by rw [q5P, if_neg h22, a2.1]; exact e3⟩)
  · rw [if_pos h22]
    refine r_aload_n dX10_readsSetting_25 rfl ?_
    refine m_get 10 0 dX10_readsSetting_26 fl_X10_7 ob_model rfl ?_
    refine r_iload_n dX10_readsSetting_29 rfl ?_
    refine r_iload_n dX10_readsSetting_30 rfl ?_
    refine m_iast (k + 1) dX10_readsSetting_31 ai_a rfl (by omega) (by first | decide | assumption) ?_
    exact r_vret dX10_readsSetting_32 rfl (hq _ _ ⟨rfl, ⟨fun c h1 h2 => by rw [mU_n h2]; exact f3.1 c h1, fun i hi => by rw [mU_n (by decide)]; exact f3.2 i hi⟩, by rw [q5P, if_pos h22]; exact ml_f (mU_n (by decide)) u3, by rw [q5P, if_pos h22, mU_s, e3, Nat.add_comm k 1]⟩)
theorem c_X10_readsStatement {s0 : PS} (hB : BR M g n) (hn : n ≤ 600) (h : ML M g n s0) (h0 : s0.er = 0) (hsk : skp g n s0.po < n) (hI : PI n s0) (hA : M 318 = s0.ra) : PO yX10_readsStatement I_X10_readsStatement [.ref 317] M L dd none (fun M' L' => L' = L ∧ Fh M M' ∧ ML M' g n (stm g n ⟨s0.ra, skp g n s0.po, s0.er, s0.ea⟩) ∧ M' 318 = (stm g n ⟨s0.ra, skp g n s0.po, s0.er, s0.ea⟩).ra) := by
  have hL := h.2 h0
  have est : stm g n (⟨s0.ra, skp g n s0.po, s0.er, s0.ea⟩ : PS) = rdC g n (stB g n (skp g n s0.po) (⟨s0.ra, en cLt g n (skp g n s0.po), s0.er, s0.ea⟩ : PS)) := rfl
  rw [est]
  have b2 : skp g n s0.po ≤ en cLt g n (skp g n s0.po) ∧ en cLt g n (skp g n s0.po) ≤ n := en_b (Nat.le_of_lt hsk)
  have i1 : PI n (⟨s0.ra, en cLt g n (skp g n s0.po), s0.er, s0.ea⟩ : PS) := ⟨b2.2, hI.2⟩
  have m1 : MB M n (⟨s0.ra, en cLt g n (skp g n s0.po), s0.er, s0.ea⟩ : PS) := h.1
  have hA1 : M 318 = PS.ra (⟨s0.ra, en cLt g n (skp g n s0.po), s0.er, s0.ea⟩ : PS) := hA
  have z1 : PS.er (⟨s0.ra, en cLt g n (skp g n s0.po), s0.er, s0.ea⟩ : PS) = 0 := h0
  have po1 : PS.po (⟨s0.ra, en cLt g n (skp g n s0.po), s0.er, s0.ea⟩ : PS) = en cLt g n (skp g n s0.po) := rfl
  have w : ∀ k, k < 6 → AD yX10_isWord I_X10_isWord [.ref 317, .ref (5010 + k)] (hS M L dd) (.inl (some (.int (bI (isW g (skp g n s0.po) (en cLt g n (skp g n s0.po)) k))))) (hS M L dd) := fun k hk => c_X10_isWord hk hB hn h h0
  have w10 : ∀ k, k < 6 → isW g (skp g n s0.po) (en cLt g n (skp g n s0.po)) k → M 317 10 = nI (en cLt g n (skp g n s0.po)) := by
    intro k hk hw
    have h8p : 0 < kl k := (kl_ok ⟨k, hk⟩).2.2
    have hl : cLt (g (skp g n s0.po)) = true := by
      cases z : cLt (g (skp g n s0.po)) with
      | true => rfl
      | false =>
        have e : en cLt g n (skp g n s0.po) = skp g n s0.po := en_n (fun y => by rw [z] at y; exact absurd y.2 (by decide))
        have := hw.1
        omega
    rcases hL.2.2 with y | y | y | y
    · exact absurd hsk y.1
    · exact y.2.2.2
    · exact absurd hl y.2.1
    · exact absurd hl y.2.1
  have l9 := hL.1
  generalize (⟨s0.ra, en cLt g n (skp g n s0.po), s0.er, s0.ea⟩ : PS) = s1 at i1 m1 hA1 z1 po1 ⊢
  rw [← po1] at w w10
  generalize skp g n s0.po = st at w w10 l9 ⊢
  refine po_mk (fun Q hq => ?_)
  refine a_met (by decide +kernel) rfl rfl (Nat.le_of_ble_eq_true rfl) (by simp [Value.category]) (by decide) rfl ?_
  show AW I_X10_readsStatement 0 [.ref 317] [] (hS M L dd) 0 0 Q
  have c105 : ∀ (M2 : Nat → Nat → Int32) (s2 : PS), Fh M M2 → ML M2 g n s2 → M2 318 = s2.ra → stB g n st s1 = s2 → AW I_X10_readsStatement 105 [.ref 317] [] (hS M2 L dd) 0 0 Q := by
    intro M2 s2 f2 t2 a2 e2
    have i2 := (stB_c (g := g) (st := st) i1).1
    rw [e2] at hq i2
    have b3 : s2.po ≤ skp g n s2.po ∧ skp g n s2.po ≤ n := en_b i2.1
    have hB2 : BR M2 g n := fun k hk => by rw [f2.1 322 (by decide) (by decide)]; exact hB k hk
    obtain ⟨t8, t13, ⟨i, hi, t9⟩, t14⟩ := t2.1
    have er : (rdC g n s2).ra = s2.ra := by
      unfold rdC
      split
      · split <;> rfl
      · rfl
    have c132 : ∀ x : Int32, x = bI (M2 317 11 = 2 ∧ (if i < n then M2 322 i else -1) = 59) → AW I_X10_readsStatement 132 [.ref 317] [.int x, .ref 317] (hS M2 L dd) 0 0 Q := by
      intro x ex
      have k1 : s2.er = 0 → (M2 317 11 = 2 ∧ (if i < n then M2 322 i else -1) = 59 ↔ skp g n s2.po < n ∧ g (skp g n s2.po) = 59) ∧ (M2 317 11 = 2 → M2 317 10 = nI (skp g n s2.po + 1) ∧ skp g n s2.po + 1 ≤ n) ∧ M2 317 9 = nI (skp g n s2.po) := by
        intro z
        obtain ⟨y9, yb, yk⟩ := t2.2 z
        have ei : i = skp g n s2.po := (nI_eq (by omega) (by omega)).mp (t9.symm.trans y9)
        subst ei
        refine ⟨⟨fun v => ?_, fun v => ⟨?_, ?_⟩⟩, fun v => ?_, y9⟩
        · by_cases lt : skp g n s2.po < n
          · rw [if_pos lt, ug_eq (hB2 _ lt) (by decide) (by decide)] at v; exact ⟨lt, v.2⟩
          · rw [if_neg lt] at v; exact absurd v.2 (by decide)
        · rcases yk with y | y | y | y
          · exact absurd v.1 y.1
          · rw [v.2] at y; exact absurd y.2.1 (by decide)
          · rw [v.2] at y; exact absurd y.2.2.1 (by decide)
          · exact y.2.2.2.1
        · rw [if_pos v.1, ug_eq (hB2 _ v.1) (by decide) (by decide)]; exact v.2
        · rcases yk with y | y | y | y
          · rw [y.2.1] at v; exact absurd v (by decide)
          · rw [y.2.2.1] at v; exact absurd v (by decide)
          · rw [y.2.2.2.1] at v; exact absurd v (by decide)
          · exact ⟨y.2.2.2.2, y.1⟩
      have em : muP (M2 317 11 = 2 ∧ (if i < n then M2 322 i else -1) = 59) (skp g n s2.po + 1) (skp g n s2.po) s2 = rdC g n s2 := by
        unfold muP rdC
        by_cases z : s2.er = 0
        · rw [if_pos z, if_pos z]
          by_cases v : skp g n s2.po < n ∧ g (skp g n s2.po) = 59
          · rw [if_pos v, if_pos ((k1 z).1.mpr v), z]
          · rw [if_neg v, if_neg (fun u => v ((k1 z).1.mp u))]
        · rw [if_neg z, if_neg z]
      refine m_pv1 dX10_readsStatement_132 cv_X10_104 (c_X10_must (p := skp g n s2.po + 1) (b := skp g n s2.po) ex hB2 hn t2.1 (fun z v => (k1 z).2.1 v.1) (fun z _ => (k1 z).2.2)) ob_model ⟨_, rfl, rfl⟩ ⟨rfl, rfl⟩ (by decide) (by decide) (Nat.le_of_ble_eq_true rfl) (fun M3 L3 ⟨u1, u2, u3⟩ => ?_)
      subst u1
      rw [em] at u3
      exact r_vret dX10_readsStatement_135 rfl (hq _ _ ⟨rfl, fh_t f2 (fh_g u2), u3, by rw [er, ← a2]; exact u2.1 318 (by decide)⟩)
    refine r_aload_n dX10_readsStatement_105 rfl ?_
    refine r_aload_n dX10_readsStatement_106 rfl ?_
    refine m_get 10 11 dX10_readsStatement_107 fl_X10_68 ob_model rfl ?_
    refine r_iconst_2 dX10_readsStatement_110 ?_
    refine r_icmp_ne 131 dX10_readsStatement_111 (by decide) (fun h111 => ?_) (fun h111 => ?_)
    · refine r_iconst_0 dX10_readsStatement_131 ?_
      exact c132 _ (by first | rw [bI, if_neg (fun z => by first | exact h111 z.1 | exact h124 z.2)] | (rw [bI, if_pos]; exact ⟨h111, h124⟩))
    · refine r_aload_n dX10_readsStatement_114 rfl ?_
      refine r_aload_n dX10_readsStatement_115 rfl ?_
      refine m_get 10 9 dX10_readsStatement_116 fl_X10_61 ob_model rfl ?_
      refine m_cv1 dX10_readsStatement_119 cv_X10_64 (c_X10_see t9 t8 hn hi) rfl ob_model ⟨_, rfl, rfl⟩ ⟨rfl, rfl⟩ (by decide) (by decide) (Nat.le_of_ble_eq_true rfl) ?_
      refine r_bipush 59 dX10_readsStatement_122 (by decide) ?_
      refine r_icmp_ne 131 dX10_readsStatement_124 (by decide) (fun h124 => ?_) (fun h124 => ?_)
      · refine r_iconst_0 dX10_readsStatement_131 ?_
        exact c132 _ (by first | rw [bI, if_neg (fun z => by first | exact h111 z.1 | exact h124 z.2)] | (rw [bI, if_pos]; exact ⟨h111, h124⟩))
      · refine r_iconst_1 dX10_readsStatement_127 ?_
        refine r_goto 132 dX10_readsStatement_128 (by decide) ?_
        exact c132 _ (by first | rw [bI, if_neg (fun z => by first | exact h111 z.1 | exact h124 z.2)] | (rw [bI, if_pos]; exact ⟨h111, h124⟩))
  refine r_aload_n dX10_readsStatement_0 rfl ?_
  refine r_kw 0 dX10_readsStatement_1 (by decide) ?_
  refine m_cv1 dX10_readsStatement_3 cv_X10_133 (w 0 (by decide)) rfl ob_model ⟨_, rfl, rfl⟩ ⟨rfl, rfl⟩ (by decide) (by decide) (Nat.le_of_ble_eq_true rfl) ?_
  refine r_if_eq 16 dX10_readsStatement_6 (by decide) (fun h6 => ?_) (fun h6 => ?_)
  · rw [bI_0] at h6
    refine r_aload_n dX10_readsStatement_16 rfl ?_
    refine r_kw 1 dX10_readsStatement_17 (by decide) ?_
    refine m_cv1 dX10_readsStatement_19 cv_X10_133 (w 1 (by decide)) rfl ob_model ⟨_, rfl, rfl⟩ ⟨rfl, rfl⟩ (by decide) (by decide) (Nat.le_of_ble_eq_true rfl) ?_
    refine r_if_eq 32 dX10_readsStatement_22 (by decide) (fun h22 => ?_) (fun h22 => ?_)
    · rw [bI_0] at h22
      refine r_aload_n dX10_readsStatement_32 rfl ?_
      refine r_kw 2 dX10_readsStatement_33 (by decide) ?_
      refine m_cv1 dX10_readsStatement_35 cv_X10_133 (w 2 (by decide)) rfl ob_model ⟨_, rfl, rfl⟩ ⟨rfl, rfl⟩ (by decide) (by decide) (Nat.le_of_ble_eq_true rfl) ?_
      refine r_if_eq 48 dX10_readsStatement_38 (by decide) (fun h38 => ?_) (fun h38 => ?_)
      · rw [bI_0] at h38
        refine r_aload_n dX10_readsStatement_48 rfl ?_
        refine r_kw 3 dX10_readsStatement_49 (by decide) ?_
        refine m_cv1 dX10_readsStatement_51 cv_X10_133 (w 3 (by decide)) rfl ob_model ⟨_, rfl, rfl⟩ ⟨rfl, rfl⟩ (by decide) (by decide) (Nat.le_of_ble_eq_true rfl) ?_
        refine r_if_eq 65 dX10_readsStatement_54 (by decide) (fun h54 => ?_) (fun h54 => ?_)
        · rw [bI_0] at h54
          refine r_aload_n dX10_readsStatement_65 rfl ?_
          refine r_kw 4 dX10_readsStatement_66 (by decide) ?_
          refine m_cv1 dX10_readsStatement_68 cv_X10_133 (w 4 (by decide)) rfl ob_model ⟨_, rfl, rfl⟩ ⟨rfl, rfl⟩ (by decide) (by decide) (Nat.le_of_ble_eq_true rfl) ?_
          refine r_if_eq 82 dX10_readsStatement_71 (by decide) (fun h71 => ?_) (fun h71 => ?_)
          · rw [bI_0] at h71
            refine r_aload_n dX10_readsStatement_82 rfl ?_
            refine r_kw 5 dX10_readsStatement_83 (by decide) ?_
            refine m_cv1 dX10_readsStatement_85 cv_X10_133 (w 5 (by decide)) rfl ob_model ⟨_, rfl, rfl⟩ ⟨rfl, rfl⟩ (by decide) (by decide) (Nat.le_of_ble_eq_true rfl) ?_
            refine r_if_eq 99 dX10_readsStatement_88 (by decide) (fun h88 => ?_) (fun h88 => ?_)
            · rw [bI_0] at h88
              refine r_aload_n dX10_readsStatement_99 rfl ?_
              refine r_bipush (-2) dX10_readsStatement_100 (by decide) ?_
              refine m_pv1 dX10_readsStatement_102 cv_X10_97 (c_X10_fails m1 (fun _ => l9)) ob_model ⟨_, rfl, rfl⟩ ⟨rfl, rfl⟩ (by decide) (by decide) (Nat.le_of_ble_eq_true rfl) (fun M2 L2 ⟨y1, y2, y3, y4⟩ => ?_)
              subst y1
              have hf := fl_c (s := s1) (c := -2) (p := st) (by decide)
              exact c105 M2 _ (fh_g y2) ⟨y4, fun z => absurd z hf.2.2⟩ (by rw [hf.1, ← hA1]; exact y2.1 318 (by decide)) (by rw [stB, if_neg h6, if_neg h22, if_neg h38, if_neg h54, if_neg h71, if_neg h88])
            · rw [bI_0, Decidable.not_not] at h88
              refine r_aload_n dX10_readsStatement_91 rfl ?_
              refine r_iconst_3 dX10_readsStatement_92 ?_
              refine m_pv1 dX10_readsStatement_93 cv_X10_152 (c_X10_readsSetting (k := 2) rfl (by decide) hB hn m1 z1 (w10 5 (by decide) h88) i1 hA1) ob_model ⟨_, rfl, rfl⟩ ⟨rfl, rfl⟩ (by decide) (by decide) (Nat.le_of_ble_eq_true rfl) (fun M2 L2 ⟨y1, y2, y3, y4⟩ => ?_)
              refine r_goto 105 dX10_readsStatement_96 (by decide) ?_
              subst y1; exact c105 M2 _ y2 y3 y4 (by rw [stB, if_neg h6, if_neg h22, if_neg h38, if_neg h54, if_neg h71, if_pos h88])
          · rw [bI_0, Decidable.not_not] at h71
            refine r_aload_n dX10_readsStatement_74 rfl ?_
            refine r_iconst_2 dX10_readsStatement_75 ?_
            refine m_pv1 dX10_readsStatement_76 cv_X10_152 (c_X10_readsSetting (k := 1) rfl (by decide) hB hn m1 z1 (w10 4 (by decide) h71) i1 hA1) ob_model ⟨_, rfl, rfl⟩ ⟨rfl, rfl⟩ (by decide) (by decide) (Nat.le_of_ble_eq_true rfl) (fun M2 L2 ⟨y1, y2, y3, y4⟩ => ?_)
            refine r_goto 105 dX10_readsStatement_79 (by decide) ?_
            subst y1; exact c105 M2 _ y2 y3 y4 (by rw [stB, if_neg h6, if_neg h22, if_neg h38, if_neg h54, if_pos h71])
        · rw [bI_0, Decidable.not_not] at h54
          refine r_aload_n dX10_readsStatement_57 rfl ?_
          refine r_iconst_1 dX10_readsStatement_58 ?_
          refine m_pv1 dX10_readsStatement_59 cv_X10_152 (c_X10_readsSetting (k := 0) rfl (by decide) hB hn m1 z1 (w10 3 (by decide) h54) i1 hA1) ob_model ⟨_, rfl, rfl⟩ ⟨rfl, rfl⟩ (by decide) (by decide) (Nat.le_of_ble_eq_true rfl) (fun M2 L2 ⟨y1, y2, y3, y4⟩ => ?_)
          refine r_goto 105 dX10_readsStatement_62 (by decide) ?_
          subst y1; exact c105 M2 _ y2 y3 y4 (by rw [stB, if_neg h6, if_neg h22, if_neg h38, if_pos h54])
      · rw [bI_0, Decidable.not_not] at h38
        refine r_aload_n dX10_readsStatement_41 rfl ?_
        refine m_pv0 dX10_readsStatement_42 cv_X10_147 (c_X10_readsJob hB hn m1 z1 l9 (w10 2 (by decide) h38) i1 hA1) ob_model ⟨_, rfl, rfl⟩ ⟨rfl, rfl⟩ (by decide) (by decide) (Nat.le_of_ble_eq_true rfl) (fun M2 L2 ⟨y1, y2, y3, y4⟩ => ?_)
        refine r_goto 105 dX10_readsStatement_45 (by decide) ?_
        subst y1; exact c105 M2 _ y2 y3 y4 (by rw [stB, if_neg h6, if_neg h22, if_pos h38])
    · rw [bI_0, Decidable.not_not] at h22
      refine r_aload_n dX10_readsStatement_25 rfl ?_
      refine m_pv0 dX10_readsStatement_26 cv_X10_142 (c_X10_readsMachine hB hn m1 z1 l9 (w10 1 (by decide) h22) i1 hA1) ob_model ⟨_, rfl, rfl⟩ ⟨rfl, rfl⟩ (by decide) (by decide) (Nat.le_of_ble_eq_true rfl) (fun M2 L2 ⟨y1, y2, y3, y4⟩ => ?_)
      refine r_goto 105 dX10_readsStatement_29 (by decide) ?_
      subst y1; exact c105 M2 _ y2 y3 y4 (by rw [stB, if_neg h6, if_pos h22])
  · rw [bI_0, Decidable.not_not] at h6
    refine r_aload_n dX10_readsStatement_9 rfl ?_
    refine m_pv0 dX10_readsStatement_10 cv_X10_137 (c_X10_readsUser hB hn m1 z1 l9 (w10 0 (by decide) h6) i1 hA1) ob_model ⟨_, rfl, rfl⟩ ⟨rfl, rfl⟩ (by decide) (by decide) (Nat.le_of_ble_eq_true rfl) (fun M2 L2 ⟨y1, y2, y3, y4⟩ => ?_)
    refine r_goto 105 dX10_readsStatement_13 (by decide) ?_
    subst y1; exact c105 M2 _ y2 y3 y4 (by rw [stB, if_pos h6])
end MTEXT4
