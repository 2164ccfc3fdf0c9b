/-! THE LAST BLOCKS: writeMachines, part, append, load -/
theorem and_b (x : Int32) : ∃ j, j < 256 ∧ x &&& 255 = nI j ∧ x.toInt8 = (nI j).toInt8 := by
  refine ⟨(x &&& 255).toBitVec.toNat, ?_, ?_, ?_⟩
  · have : (x &&& 255).toBitVec.toNat = x.toBitVec.toNat &&& 255 := by
      rw [Int32.toBitVec_and, BitVec.toNat_and]; rfl
    rw [this]
    exact Nat.lt_of_le_of_lt Nat.and_le_right (by decide)
  · apply Int32.toBitVec_inj.mp
    show _ = BitVec.ofNat 32 _
    rw [BitVec.ofNat_toNat, BitVec.setWidth_eq]
  · have e : nI (x &&& 255).toBitVec.toNat = x &&& 255 := by
      apply Int32.toBitVec_inj.mp
      show BitVec.ofNat 32 _ = _
      rw [BitVec.ofNat_toNat, BitVec.setWidth_eq]
    have h : (255 : Int32).toInt8.toBitVec = BitVec.allOnes 8 := by decide
    rw [e, Int32.toInt8_and]
    apply Int8.toBitVec_inj.mp
    rw [Int8.toBitVec_and, h, BitVec.and_allOnes]
theorem ug_and (x : Int32) : UG (x &&& 255) (x.toInt8.toInt32) := by
  obtain ⟨j, hj, e1, e2⟩ := and_b x
  rw [e1, e2]
  exact ug_of hj
section BLOCKS3
variable {LL j uc us : Nat} {xs : Nat → Int32} {M : Nat → Nat → Int32} {L : Nat → Nat → Int64} {dd : UInt64} {R : List Row} {Q : a_Q} {a a' : Row} {R' : List Row} {thr : Int32}
theorem w_part2 {u : Int32} (ht : thr = 0 ∨ thr = 1 ∨ thr = 2) {xf : UInt32} (hn : thr = 0 → vf_n32 xf) (hM : XQa yX9_part I_X9_part [.ref 0, .int u] M L dd thr [ex_I, a_NSE] (fun x => x = .float xf) a a' R R') : AM yL_part I_L_part [.ref 0, .int u, .ref 326] (hS M L dd) (fun o h' => ∃ M' L' dd', o = .inl (some (.int thr)) ∧ h' = hS M' L' dd' ∧ Gx M M' ∧ (∀ c, 313 ≤ c → L' c = L c) ∧ ((thr = 0 ∧ dd' = FP.f2d xf ∧ CS M' a' R') ∨ (thr ≠ 0 ∧ CS M' a R))) := by
  refine am_mk (fun Q hq => ?_)
  refine a_metH (by decide +kernel) rfl (by decide) (Nat.le_of_ble_eq_true rfl) (by simp [Value.category]) (by decide) rfl ?_
  show AW I_L_part 0 [.ref 0, .int u, .ref 326, .null] [] (hS M L dd) 0 0 Q
  refine r_aload_n dL_part_0 rfl ?_
  refine r_iconst_0 dL_part_1 ?_
  refine r_aload_n dL_part_2 rfl ?_
  refine r_iload_n dL_part_3 rfl ?_
  refine m_xw (As := [.int u]) dL_part_4 cv_L_87 hM rfl ob_x ⟨_, rfl, rfl⟩ (by decide) (by decide) (Nat.le_of_ble_eq_true rfl) (by decide) (by decide) (fun x M1 L1 h0 hv x1 x2 x3 => ?_) (fun M1 L1 h0 x1 x2 x3 => ?_)
  · subst hv
    refine r_f2d dL_part_7 (f2d_ok (hn h0)) ?_
    refine m_dast dL_part_8 ?_
    refine r_goto 18 dL_part_9 (by decide) ?_
    refine r_iconst_0 dL_part_18 ?_
    exact r_iret dL_part_19 rfl (hq _ _ ⟨M1, L1, _, by rw [h0], rfl, x1, x2, Or.inl ⟨h0, rfl, x3⟩⟩)
  · rcases ht with ht | ht | ht
    · exact absurd ht h0
    · refine ⟨12, 3, 13, by rw [ht]; exact hd_part_0, fun j w hj hk => ?_, ?_⟩
      · exact cat_r (show [.ref 0, .int u, .ref 326, .null][j]? = some w from hj) rfl
      · exact r_iconst_1 dL_part_13 (r_iret dL_part_14 rfl (hq _ _ ⟨M1, L1, dd, by rw [ht], rfl, x1, x2, Or.inr ⟨h0, x3⟩⟩))
    · refine ⟨15, 3, 16, by rw [ht]; exact hd_part_1, fun j w hj hk => ?_, ?_⟩
      · exact cat_r (show [.ref 0, .int u, .ref 326, .null][j]? = some w from hj) rfl
      · exact r_iconst_2 dL_part_16 (r_iret dL_part_17 rfl (hq _ _ ⟨M1, L1, dd, by rw [ht], rfl, x1, x2, Or.inr ⟨h0, x3⟩⟩))
theorem b_writeMachines (hJ : J M R) (hu : uc + 7 ≤ 601024) (hv : us + 42 ≤ 7293034) (next : BNext LL xs j (uc + 7) (us + 42) Q) : AW (I_L_law LL xs) 1684 [.ref 5000, .ref 0, .ref 317, .ref 325, .ref 326, .int (nI j), .null, .null, .null] [] (hS M L dd) uc us Q := by
  obtain ⟨j1, j2, j3, j4, ⟨n, t1, t2, t3, t4, t5⟩, -⟩ := hJ
  refine r_wide (Nat.le_add_right uc 7) (Nat.le_add_right us 42) hu hv ?_
  refine r_aload_n dL_law_1684 rfl ?_
  refine m_pv0 dL_law_1685 cv_L_191 (c_X9_writeMachines j3 j1.1 j1.2) ob_x ⟨_, rfl, rfl⟩ ⟨rfl, rfl⟩ (Nat.le_of_ble_eq_true rfl) (Nat.le_of_ble_eq_true rfl) (Nat.le_of_ble_eq_true rfl) (fun M1 L1 ⟨x1, x2, x3⟩ => ?_)
  subst x1
  have hA1 : M1 318 = M 318 := x2 318 (by decide) (by decide)
  refine r_aload_n dL_law_1688 rfl ?_
  refine m_pv0 dL_law_1689 cv_L_194 (c_X10_writeMachines hA1 j1.1) ob_model ⟨_, rfl, rfl⟩ ⟨rfl, rfl⟩ (Nat.le_of_ble_eq_true rfl) (Nat.le_of_ble_eq_true rfl) (Nat.le_of_ble_eq_true rfl) (fun M2 L2 ⟨y1, y2, y3, y4, y5⟩ => ?_)
  subst y1
  refine r_icmp_eq 1797 dL_law_1692 (by decide) (fun _ => ?_) (fun z => absurd rfl z)
  have e : ∀ c, c ≠ 315 → c ≠ 316 → c ≠ 317 → c ≠ 324 → M2 c = M c := fun c k1 k2 k3 k4 => (y2 c k3 k4).trans (x2 c k1 k2)
  have e17 : ∀ i, i ≠ 19 → i ≠ 5 → M2 317 i = M 317 i := fun i k1 k2 => by rw [y3 i k1 k2, x2 317 (by decide) (by decide)]
  have e18 := e 318 (by decide) (by decide) (by decide) (by decide)
  have f1 : Fr 315 317 M M1 := fun c hc => x2 c (by omega) (by omega)
  have f2 : Fr 317 325 M1 M2 := fun c hc => y2 c (by omega) (by omega)
  refine next M2 _ dd R ⟨by rw [e18]; exact j1, j2, by rw [e18]; exact cs_hi f2 (by omega) (cs_hi f1 (by omega) j3), ⟨j4.1, by rw [e17 4 (by decide) (by decide)]; exact j4.2.1, fun r b hb t ht => by rw [e 321 (by decide) (by decide) (by decide) (by decide)]; exact j4.2.2 r b hb t ht⟩, ⟨n, t1, by rw [e 313 (by decide) (by decide) (by decide) (by decide)]; exact t2, by rw [e17 7 (by decide) (by decide)]; exact t3, brd_c t4 (e 322 (by decide) (by decide) (by decide) (by decide)) (e 314 (by decide) (by decide) (by decide) (by decide)), by rw [e 313 (by decide) (by decide) (by decide) (by decide), e17 15 (by decide) (by decide)]; exact t5⟩, ⟨_, wr_all j1.1.2.2.1.2.1 j1.1.2.2.2.1.2.1, y5, ⟨?_, fun k c hk => ?_⟩⟩⟩
  · rw [y2 315 (by decide) (by decide)]; exact x3.1
  · rw [y2 316 (by decide) (by decide)]; exact x3.2 k c hk
theorem b_part (hJ : J M R) (hb : ∀ k : Nat, 1 ≤ k → k ≤ 5 → vp_in (nI j + nI k) LL) (hu : uc + 7 ≤ 601024) (hv : us + 42 ≤ 7293034) (next : BNext LL xs j (uc + 7) (us + 42) Q) : AW (I_L_law LL xs) 1593 [.ref 5000, .ref 0, .ref 317, .ref 325, .ref 326, .int (nI j), .null, .null, .null] [] (hS M L dd) uc us Q := by
  have hW := hJ.1.1
  have hV := hJ.1.2
  have hC := hJ.2.2.1
  refine r_aload_n dL_law_1593 rfl ?_
  refine r_aload_n dL_law_1594 rfl ?_
  refine r_iload dL_law_1595 rfl ?_
  refine r_iconst_1 dL_law_1597 ?_
  refine r_iadd dL_law_1598 ?_
  refine r_sald dL_law_1599 rfl (hb 1 (by decide) (by decide)) ?_
  refine r_aload dL_law_1600 rfl ?_
  have hn : thP (M 318) (xs (nI j + 1).toNatClampNeg) = 0 → vf_n32 (FP.fdiv (FP.i2f (sbS (M 318) (xs (nI j + 1).toNatClampNeg) (fun k => M 318 (34 + k)))) (FP.i2f (allU (M 318)))) := fun z => fdiv_ok _ _ (th_q (th_p z (by decide)).2 (by decide)).1
  refine r_callS (As := [.ref 0, .int (xs (nI j + 1).toNatClampNeg), .ref 326]) dL_law_1602 cs_L_183 (w_part2 ht_part hn (c_X9_part hC hW)) rfl ⟨Nat.le_of_ble_eq_true rfl, Nat.le_of_ble_eq_true rfl, Nat.le_of_ble_eq_true rfl, show uc + 2 ≤ 601024 by omega, show us + 12 ≤ 7293034 by omega⟩ ⟨?_, ?_⟩
  · rintro v9 h2 ⟨M1, L1, dd1, e9, rfl, x1, x9, x2⟩
    cases e9
    refine ⟨fun z => (Bool.false_ne_true z).elim, ?_⟩
    refine r_wide (uc' := uc + 7) (us' := us + 42) (show uc + 2 ≤ uc + 7 by omega) (show us + 12 ≤ us + 42 by omega) hu hv ?_
    have hA1 : M1 318 = M 318 := x1 318 (by decide)
    have hR1 : MH M1 R := mh_g x1 hJ.2.2.2.1
    refine s_istore dL_law_1605 (Nat.le_of_ble_eq_true rfl) rfl ?_
    refine r_aload_n dL_law_1607 rfl ?_
    refine r_aload_n dL_law_1608 rfl ?_
    refine r_iload dL_law_1609 rfl ?_
    refine r_iconst_1 dL_law_1611 ?_
    refine r_iadd dL_law_1612 ?_
    refine r_sald dL_law_1613 rfl (hb 1 (by decide) (by decide)) ?_
    refine m_lm (As := [.int (xs (nI j + 1).toNatClampNeg)]) dL_law_1614 cv_L_186 (c_X10_part hA1 hR1 hW) rfl ob_model ⟨_, rfl, rfl⟩ ⟨rfl, rfl⟩ (Nat.le_of_ble_eq_true rfl) (Nat.le_of_ble_eq_true rfl) (Nat.le_of_ble_eq_true rfl) hu hv (fun x M2 y0 y1 y2 y3 y4 y5 => ?_)
    obtain ⟨v, rfl⟩ := tr_float y0
    obtain ⟨R2, hJ2⟩ := j_step hJ rfl x1 y3 (x2.imp (fun z => ⟨z.1, z.2.2⟩) id) y4 y5 (fun z => ⟨hJ.1, hJ.2.1⟩)
    refine s_fstore dL_law_1617 (Nat.le_of_ble_eq_true rfl) rfl ?_
    refine r_aload_n dL_law_1619 rfl ?_
    refine m_cv0 dL_law_1620 cv_L_107 (c_X10_thrown) rfl ob_model ⟨_, rfl, rfl⟩ ⟨rfl, rfl⟩ (Nat.le_of_ble_eq_true rfl) (Nat.le_of_ble_eq_true rfl) (Nat.le_of_ble_eq_true rfl) ?_
    refine r_iload dL_law_1623 rfl ?_
    rw [y1]
    refine r_icmp_eq 1630 dL_law_1625 (by decide) (fun _ => ?_) (fun z => absurd rfl z)
    refine r_iload dL_law_1630 rfl ?_
    refine r_if_ne 1668 dL_law_1632 (by decide) (fun h1632 => ?_) (fun h1632 => ?_)
    · refine r_goto 1797 dL_law_1668 (by decide) ?_
      exact m_sub (next M2 L1 dd1 R2 hJ2) (by simp [a_sub])
    · have q3 := Value.float.inj (y2 h1632)
      have q2 := x2.elim (fun z => z.2.1) (fun z => absurd h1632 z.1)
      refine r_aload dL_law_1635 rfl ?_
      refine r_iconst_0 dL_law_1637 ?_
      refine m_dald dL_law_1638 ?_
      refine r_fload dL_law_1639 rfl ?_
      refine r_f2d dL_law_1641 (f2d_ok (by rw [q3]; exact hn h1632)) ?_
      refine r_dcmp dL_law_1642 ?_
      refine r_if_eq 1668 dL_law_1643 (by decide) (fun _ => ?_) (fun z => absurd (by rw [q2, q3, dcmp_self' (f2d_ok (hn h1632))]; rfl) z)
      refine r_goto 1797 dL_law_1668 (by decide) ?_
      exact m_sub (next M2 L1 dd1 R2 hJ2) (by simp [a_sub])
  · rintro E h2 ⟨M1, L1, dd1, e9, rfl, x1, x9, x2⟩
    cases e9
end BLOCKS3
