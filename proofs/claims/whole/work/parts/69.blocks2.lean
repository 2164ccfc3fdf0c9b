/-! MORE BLOCKS -/
section LROWS2
variable {I : a_I} {pc uc us : Nat} {ls st : List Value} {M : Nat → Nat → Int32} {L : Nat → Nat → Int64} {dd : UInt64} {a a' : Row} {R R' : List Row} {V2 : Value → Prop} {Q : a_Q} {l : List String}
theorem m_lx {ix n c ci : Nat} {y : MethodName} {I' : a_I} {As : List Value} {vs : (Nat → Int32) → List Value} (hd : decode (i_cc I) pc = .ok (.invokevirtual ix, 3)) (hc : a_CV (i_own I) ix y I' n) (hM : XQa y I' (.ref c :: As) M L dd 0 l V2 a a' R R') (hn : As.length = n) (ho : OB c ci vs) (hci : ∃ r, a_cls[ci]? = some r ∧ r.1 = y.cls)
    (hz : i_mc I' = 0 ∧ i_ms I' = 0) (hd1 : i_d I' + 1 ≤ i_d I) (hnl : i_nL I' ≤ 40) (hst : (st.map fun v => v.category).sum ≤ 8) (hu : uc ≤ i_mc I) (hv : us ≤ i_ms I)
    (kk : ∀ x M' L', V2 x → Gx M M' → CS M' a' R' → AW I (pc + 3) ls (x :: st) (hS M' L' dd) uc us Q) : AW I pc ls (As.reverse ++ .ref c :: st) (hS M L dd) uc us Q := by
  refine r_callV hd hc hM hn ((hp_at ho.1).trans (by rw [ho.2])) hci ⟨hd1, hnl, hst, by omega, by omega⟩ ⟨?_, ?_⟩
  · rintro v h2 ⟨M', L', rfl, x1, x2, ⟨h0, ⟨x, e, hv2⟩, x3⟩ | ⟨h0, -⟩⟩
    · cases e
      refine ⟨fun z => (Bool.false_ne_true z).elim, ?_⟩
      rw [hz.1, hz.2]
      exact kk x M' L' hv2 x1 x3
    · exact absurd rfl h0
  · rintro E h2 ⟨M', L', rfl, x1, x2, ⟨h0, ⟨x, e, hv2⟩, x3⟩ | ⟨h0, -⟩⟩
    · cases e
    · exact absurd rfl h0
end LROWS2
section BLOCKS2
variable {LL j uc us : Nat} {xs : Nat → Int32} {M : Nat → Nat → Int32} {L : Nat → Nat → Int64} {dd : UInt64} {R : List Row} {Q : a_Q}
theorem pos_un {R : List Row} (h : thUn R = 0) : 0 < R.length := by
  have := (th_q h (by decide)).1
  omega
theorem b_undo (hJ : J M R) (hb : ∀ k : Nat, 1 ≤ k → k ≤ 5 → vp_in (nI j + nI k) LL) (hu : uc + 7 ≤ 601024) (hv : us + 42 ≤ 7293034) (next : BNext LL xs j (uc + 7) (us + 42) Q) : AW (I_L_law LL xs) 1753 [.ref 5000, .ref 0, .ref 317, .ref 325, .ref 326, .int (nI j), .null, .null, .null] [] (hS M L dd) uc us Q := by
  have hW := hJ.1.1
  have hV := hJ.1.2
  have hC := hJ.2.2.1
  obtain ⟨bU, hbU⟩ : ∃ b : Row, 0 < R.length → R[R.length - 1]? = some b ∧ OK9 b := by
    by_cases z : 0 < R.length
    · exact ⟨R[R.length - 1]'(by omega), fun _ => ⟨List.getElem?_eq_getElem _, hJ.2.1 _ (List.getElem_mem _)⟩⟩
    · exact ⟨M 318, fun y => absurd y z⟩
  refine r_aload_n dL_law_1753 rfl ?_
  refine r_aload_n dL_law_1754 rfl ?_
  refine m_lw (As := [.ref 0, .ref 325]) dL_law_1755 cs_L_198 (w_undo ht_undo (fun _ => hv_eq) (c_X9_undo (b := bU) hC (fun h => ⟨(hbU h).1, (hbU h).2.1⟩))) rfl (Nat.le_of_ble_eq_true rfl) (Nat.le_of_ble_eq_true rfl) (Nat.le_of_ble_eq_true rfl) (Nat.le_of_ble_eq_true rfl) (Nat.le_of_ble_eq_true rfl) hu hv rfl (fun M1 L1 x1 x2 => ?_)
  have hA1 : M1 318 = M 318 := x1 318 (by decide)
  have hR1 : MH M1 R := mh_g x1 hJ.2.2.2.1
  refine s_istore dL_law_1758 (Nat.le_of_ble_eq_true rfl) rfl ?_
  refine r_aload_n dL_law_1760 rfl ?_
  refine m_lm (As := []) dL_law_1761 cv_L_200 (c_X10_undo (b := bU) hA1 hR1 (fun h => (hbU h).1)) rfl ob_model ⟨_, rfl, rfl⟩ ⟨rfl, rfl⟩ (Nat.le_of_ble_eq_true rfl) (Nat.le_of_ble_eq_true rfl) (Nat.le_of_ble_eq_true rfl) hu hv (fun x M2 y0 y1 y2 y3 y4 y5 => ?_)
  obtain ⟨v, rfl⟩ := tr_int y0
  obtain ⟨R2, hJ2⟩ := j_step hJ rfl x1 y3 (x2.imp (fun z => ⟨z.1, z.2.2⟩) id) y4 y5 (fun z => ⟨(hbU (pos_un z)).2, fun b hb => hJ.2.1 b (List.dropLast_subset _ hb)⟩)
  refine s_istore dL_law_1764 (Nat.le_of_ble_eq_true rfl) rfl ?_
  refine r_aload_n dL_law_1766 rfl ?_
  refine m_cv0 dL_law_1767 cv_L_107 (c_X10_thrown) rfl ob_model ⟨_, rfl, rfl⟩ ⟨rfl, rfl⟩ (Nat.le_of_ble_eq_true rfl) (Nat.le_of_ble_eq_true rfl) (Nat.le_of_ble_eq_true rfl) ?_
  refine r_iload dL_law_1770 rfl ?_
  rw [y1]
  refine r_icmp_eq 1777 dL_law_1772 (by decide) (fun _ => ?_) (fun z => absurd rfl z)
  refine r_iload dL_law_1777 rfl ?_
  refine r_if_ne 1794 dL_law_1779 (by decide) (fun h1779 => ?_) (fun h1779 => ?_)
  · refine r_goto 1797 dL_law_1794 (by decide) ?_
    exact m_sub (next M2 L1 dd R2 hJ2) (by simp [a_sub])
  · have q1 := y2 h1779
    have q3 := Value.int.inj q1
    have q2 := x2.elim (fun z => z.2.1 _ (fun _ h => h)) (fun z => absurd h1779 z.1)
    refine r_aload_n dL_law_1782 rfl ?_
    refine r_iconst_0 dL_law_1783 ?_
    refine m_lald 0 dL_law_1784 al_out rfl (by omega) (by first | decide | assumption) ?_
    refine r_iload dL_law_1785 rfl ?_
    refine r_i2l dL_law_1787 ?_
    refine r_lcmp dL_law_1788 ?_
    refine r_if_eq 1794 dL_law_1789 (by decide) (fun _ => ?_) (fun z => absurd (lg_eq0.mpr (by rw [q2, q3])) z)
    refine r_goto 1797 dL_law_1794 (by decide) ?_
    exact m_sub (next M2 L1 dd R2 hJ2) (by simp [a_sub])
theorem b_writtenByte (hJ : J M R) (hb : ∀ k : Nat, 1 ≤ k → k ≤ 5 → vp_in (nI j + nI k) LL) (hu : uc + 7 ≤ 601024) (hv : us + 42 ≤ 7293034) (next : BNext LL xs j (uc + 7) (us + 42) Q) : AW (I_L_law LL xs) 1697 [.ref 5000, .ref 0, .ref 317, .ref 325, .ref 326, .int (nI j), .null, .null, .null] [] (hS M L dd) uc us Q := by
  have hW := hJ.1.1
  have hV := hJ.1.2
  have hC := hJ.2.2.1
  obtain ⟨ws, hl, hWR, hNW⟩ := hJ.2.2.2.2.2
  refine r_aload_n dL_law_1697 rfl ?_
  refine r_aload_n dL_law_1698 rfl ?_
  refine r_iload dL_law_1699 rfl ?_
  refine r_iconst_1 dL_law_1701 ?_
  refine r_iadd dL_law_1702 ?_
  refine r_sald dL_law_1703 rfl (hb 1 (by decide) (by decide)) ?_
  refine r_aload_n dL_law_1704 rfl ?_
  refine m_lw (As := [.ref 0, .int (xs (nI j + 1).toNatClampNeg), .ref 325]) dL_law_1705 cs_L_195 (w_writtenByte ht_written (fun z => hv_written hl z) (c_X9_writtenByte hC hNW.1 hl)) rfl (Nat.le_of_ble_eq_true rfl) (Nat.le_of_ble_eq_true rfl) (Nat.le_of_ble_eq_true rfl) (Nat.le_of_ble_eq_true rfl) (Nat.le_of_ble_eq_true rfl) hu hv rfl (fun M1 L1 x1 x2 => ?_)
  have hA1 : M1 318 = M 318 := x1 318 (by decide)
  have hR1 : MH M1 R := mh_g x1 hJ.2.2.2.1
  have h19 : M1 317 19 = nI ws.length := by rw [x1 317 (by decide)]; exact hWR.1
  have hval : ∀ k, k < ws.length → M1 324 k = M 316 k := fun k hk => by rw [x1 324 (by decide), hWR.2 k ws[k] (List.getElem?_eq_getElem hk), hNW.2 k ws[k] (List.getElem?_eq_getElem hk)]
  have W := c_X10_writtenByte (L := L1) (dd := dd) (i := xs (nI j + 1).toNatClampNeg) hA1 hR1 h19 hl
  have eT : thN M1 (xs (nI j + 1).toNatClampNeg) = thNn ws.length (xs (nI j + 1).toNatClampNeg) := by unfold thN thNn; rw [h19]
  have eV : (fun x : Value => ∀ k, k < ws.length → xs (nI j + 1).toNatClampNeg = nI k → x = .int (M1 324 k)) = (fun x => ∀ k, k < ws.length → xs (nI j + 1).toNatClampNeg = nI k → x = .int (M 316 k)) := by
    funext x
    exact propext ⟨fun h k hk e => by rw [← hval k hk]; exact h k hk e, fun h k hk e => by rw [hval k hk]; exact h k hk e⟩
  rw [eT, eV] at W
  refine s_istore dL_law_1708 (Nat.le_of_ble_eq_true rfl) rfl ?_
  refine r_aload_n dL_law_1710 rfl ?_
  refine r_aload_n dL_law_1711 rfl ?_
  refine r_iload dL_law_1712 rfl ?_
  refine r_iconst_1 dL_law_1714 ?_
  refine r_iadd dL_law_1715 ?_
  refine r_sald dL_law_1716 rfl (hb 1 (by decide) (by decide)) ?_
  refine m_lm (As := [.int (xs (nI j + 1).toNatClampNeg)]) dL_law_1717 cv_L_197 (W) rfl ob_model ⟨_, rfl, rfl⟩ ⟨rfl, rfl⟩ (Nat.le_of_ble_eq_true rfl) (Nat.le_of_ble_eq_true rfl) (Nat.le_of_ble_eq_true rfl) hu hv (fun x M2 y0 y1 y2 y3 y4 y5 => ?_)
  obtain ⟨v, rfl⟩ := tr_int y0
  obtain ⟨R2, hJ2⟩ := j_step hJ rfl x1 y3 (x2.imp (fun z => ⟨z.1, z.2.2⟩) id) y4 y5 (fun z => ⟨hJ.1, hJ.2.1⟩)
  refine s_istore dL_law_1720 (Nat.le_of_ble_eq_true rfl) rfl ?_
  refine r_aload_n dL_law_1722 rfl ?_
  refine m_cv0 dL_law_1723 cv_L_107 (c_X10_thrown) rfl ob_model ⟨_, rfl, rfl⟩ ⟨rfl, rfl⟩ (Nat.le_of_ble_eq_true rfl) (Nat.le_of_ble_eq_true rfl) (Nat.le_of_ble_eq_true rfl) ?_
  refine r_iload dL_law_1726 rfl ?_
  rw [y1]
  refine r_icmp_eq 1733 dL_law_1728 (by decide) (fun _ => ?_) (fun z => absurd rfl z)
  refine r_iload dL_law_1733 rfl ?_
  refine r_if_ne 1750 dL_law_1735 (by decide) (fun h1735 => ?_) (fun h1735 => ?_)
  · refine r_goto 1797 dL_law_1750 (by decide) ?_
    exact m_sub (next M2 L1 dd R2 hJ2) (by simp [a_sub])
  · obtain ⟨e, he⟩ := (fun z => hv_written hl z) h1735
    have q1 := he _ (y2 h1735)
    have q3 := Value.int.inj q1
    have q2 := x2.elim (fun z => z.2.1 _ he) (fun z => absurd h1735 z.1)
    refine r_aload_n dL_law_1738 rfl ?_
    refine r_iconst_0 dL_law_1739 ?_
    refine m_lald 0 dL_law_1740 al_out rfl (by omega) (by first | decide | assumption) ?_
    refine r_iload dL_law_1741 rfl ?_
    refine r_i2l dL_law_1743 ?_
    refine r_lcmp dL_law_1744 ?_
    refine r_if_eq 1750 dL_law_1745 (by decide) (fun _ => ?_) (fun z => absurd (lg_eq0.mpr (by rw [q2, q3])) z)
    refine r_goto 1797 dL_law_1750 (by decide) ?_
    exact m_sub (next M2 L1 dd R2 hJ2) (by simp [a_sub])
theorem b_drift (hJ : J M R) (hu : uc + 7 ≤ 601024) (hv : us + 42 ≤ 7293034) (next : BNext LL xs j (uc + 7) (us + 42) Q) : AW (I_L_law LL xs) 1580 [.ref 5000, .ref 0, .ref 317, .ref 325, .ref 326, .int (nI j), .null, .null, .null] [] (hS M L dd) uc us Q := by
  have hW := hJ.1.1
  have hV := hJ.1.2
  have hC := hJ.2.2.1
  refine r_wide (Nat.le_add_right uc 7) (Nat.le_add_right us 42) hu hv ?_
  refine r_aload_n dL_law_1580 rfl ?_
  refine m_lx (As := []) dL_law_1581 cv_L_179 (c_X9_drift hC hW) rfl ob_x ⟨_, rfl, rfl⟩ ⟨rfl, rfl⟩ (Nat.le_of_ble_eq_true rfl) (Nat.le_of_ble_eq_true rfl) (Nat.le_of_ble_eq_true rfl) hu hv (fun x M1 L1 hx x1 x2 => ?_)
  subst hx
  have hA1 : M1 318 = M 318 := x1 318 (by decide)
  have hR1 : MH M1 R := mh_g x1 hJ.2.2.2.1
  refine r_aload_n dL_law_1584 rfl ?_
  refine m_lm (As := []) dL_law_1585 cv_L_182 (c_X10_drift hA1 hR1 hW) rfl ob_model ⟨_, rfl, rfl⟩ ⟨rfl, rfl⟩ (Nat.le_of_ble_eq_true rfl) (Nat.le_of_ble_eq_true rfl) (Nat.le_of_ble_eq_true rfl) hu hv (fun y M2 y0 y1 y2 y3 y4 y5 => ?_)
  have hy := y2 rfl
  subst hy
  obtain ⟨R2, hJ2⟩ := j_step (thr := 0) hJ rfl x1 y3 (Or.inl ⟨rfl, x2⟩) y4 y5 (fun z => ⟨hJ.1, hJ.2.1⟩)
  refine r_icmp_eq 1797 dL_law_1588 (by decide) (fun _ => ?_) (fun z => absurd (rfl) z)
  exact next M2 L1 dd R2 hJ2
theorem b_neediest (hJ : J M R) (hu : uc + 7 ≤ 601024) (hv : us + 42 ≤ 7293034) (next : BNext LL xs j (uc + 7) (us + 42) Q) : AW (I_L_law LL xs) 1671 [.ref 5000, .ref 0, .ref 317, .ref 325, .ref 326, .int (nI j), .null, .null, .null] [] (hS M L dd) uc us Q := by
  have hW := hJ.1.1
  have hV := hJ.1.2
  have hC := hJ.2.2.1
  refine r_wide (Nat.le_add_right uc 7) (Nat.le_add_right us 42) hu hv ?_
  refine r_aload_n dL_law_1671 rfl ?_
  refine m_lx (As := []) dL_law_1672 cv_L_187 (c_X9_neediest hC hW) rfl ob_x ⟨_, rfl, rfl⟩ ⟨rfl, rfl⟩ (Nat.le_of_ble_eq_true rfl) (Nat.le_of_ble_eq_true rfl) (Nat.le_of_ble_eq_true rfl) hu hv (fun x M1 L1 hx x1 x2 => ?_)
  subst hx
  have hA1 : M1 318 = M 318 := x1 318 (by decide)
  have hR1 : MH M1 R := mh_g x1 hJ.2.2.2.1
  refine r_aload_n dL_law_1675 rfl ?_
  refine m_lm (As := []) dL_law_1676 cv_L_190 (c_X10_neediest hA1 hR1 hW) rfl ob_model ⟨_, rfl, rfl⟩ ⟨rfl, rfl⟩ (Nat.le_of_ble_eq_true rfl) (Nat.le_of_ble_eq_true rfl) (Nat.le_of_ble_eq_true rfl) hu hv (fun y M2 y0 y1 y2 y3 y4 y5 => ?_)
  have hy := y2 rfl
  subst hy
  obtain ⟨R2, hJ2⟩ := j_step (thr := 0) hJ rfl x1 y3 (Or.inl ⟨rfl, x2⟩) y4 y5 (fun z => ⟨hJ.1, hJ.2.1⟩)
  refine r_icmp_eq 1797 dL_law_1679 (by decide) (fun _ => ?_) (fun z => absurd (rfl) z)
  exact next M2 L1 dd R2 hJ2
theorem b_errorPosition (hJ : J M R) (hu : uc + 7 ≤ 601024) (hv : us + 42 ≤ 7293034) (next : BNext LL xs j (uc + 7) (us + 42) Q) : AW (I_L_law LL xs) 332 [.ref 5000, .ref 0, .ref 317, .ref 325, .ref 326, .int (nI j), .null, .null, .null] [] (hS M L dd) uc us Q := by
  have hW := hJ.1.1
  have hV := hJ.1.2
  have hC := hJ.2.2.1
  refine r_wide (Nat.le_add_right uc 7) (Nat.le_add_right us 42) hu hv ?_
  refine r_aload_n dL_law_332 rfl ?_
  refine m_lx (As := []) dL_law_333 cv_L_114 (c_X9_errorPosition hC) rfl ob_x ⟨_, rfl, rfl⟩ ⟨rfl, rfl⟩ (Nat.le_of_ble_eq_true rfl) (Nat.le_of_ble_eq_true rfl) (Nat.le_of_ble_eq_true rfl) hu hv (fun x M1 L1 hx x1 x2 => ?_)
  subst hx
  have hA1 : M1 318 = M 318 := x1 318 (by decide)
  have hR1 : MH M1 R := mh_g x1 hJ.2.2.2.1
  refine r_aload_n dL_law_336 rfl ?_
  refine m_lm (As := []) dL_law_337 cv_L_117 (c_X10_errorPosition hA1 hR1) rfl ob_model ⟨_, rfl, rfl⟩ ⟨rfl, rfl⟩ (Nat.le_of_ble_eq_true rfl) (Nat.le_of_ble_eq_true rfl) (Nat.le_of_ble_eq_true rfl) hu hv (fun y M2 y0 y1 y2 y3 y4 y5 => ?_)
  have hy := y2 rfl
  subst hy
  obtain ⟨R2, hJ2⟩ := j_step (thr := 0) hJ rfl x1 y3 (Or.inl ⟨rfl, x2⟩) y4 y5 (fun z => ⟨hJ.1, hJ.2.1⟩)
  refine r_icmp_eq 1797 dL_law_340 (by decide) (fun _ => ?_) (fun z => absurd (by obtain ⟨n, t1, t2, t3, t4, t5⟩ := hJ.2.2.2.2.1; rw [x1 317 (by decide)]; exact t5) z)
  exact next M2 L1 dd R2 hJ2
end BLOCKS2
