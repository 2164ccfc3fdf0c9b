section CPT
variable {I : a_I} {pc uc us : Nat} {ls st : List Value} {h : a_H} {Q : a_Q}
/-- System.arraycopy out of one of the class's own tables -/
theorem r_copyT {ix a n1 : Nat} {g : Nat → Int32} {sp dp n : Int32} (k : Nat) (hd : decode (i_cc I) pc = .ok (.invokestatic ix, 3)) (hk : k < 3) (hw : a_AC (i_own I) ix) (h1 : h.2[a]? = some (.inl (0, n1, .inl g)))
    (g1 : ¬ sp < 0) (g2 : ¬ dp < 0) (g3 : ¬ n < 0) (g4 : sp.toNatClampNeg + n.toNatClampNeg ≤ 3) (g5 : dp.toNatClampNeg + n.toNatClampNeg ≤ n1) (hdp : 1 ≤ i_d I) (hst : (st.map fun v => v.category).sum ≤ 8)
    (kk : AW I (pc + 3) ls st (h.1, h.2.set a (.inl (0, n1, .inl (va_cpy (fun j => (a_sv k).getD j 0) g sp.toNatClampNeg dp.toNatClampNeg n.toNatClampNeg)))) uc us Q) : AW I pc ls (.int n :: .int dp :: .ref a :: .int sp :: .ref (5001 + k) :: st) h uc us Q := by
  intro V p l e R s m args below meth c9 H locs Gl ws tys lsC hC hR hN hH hS hu hv2 hL
  obtain ⟨w1, w2, w3, w4⟩ := hw
  have hroom := hC.2.2.2.2.2.2.2.1
  have hX := hC.2.2.2.2.2.2.2.2.2.2.1
  obtain ⟨cB, t1, e3, e4⟩ := hH.1.arrAt h1
  have hcat : ((st.map (a_cv V)).map fun v => v.category).sum = (st.map fun v => v.category).sum := by rw [List.map_map]; congr 1; exact List.map_congr_left (fun v _ => a_cv_cat V v)
  have hnw : nativeFrameWords "java/lang/System" "arraycopy" 5 ≤ 30 := by decide +kernel
  have nn : ∀ z : Int32, ¬ z < 0 → z.toInt = (z.toNatClampNeg : Int) := by
    intro z hz
    have hz0 : (0 : Int) ≤ z.toInt := by
      have := Int32.not_lt.mp hz
      simpa using Int32.le_iff_toInt_le.mp this
    show z.toInt = ((z.toInt.toNat : Nat) : Int)
    omega
  intro T hT X
  obtain ⟨scr, hs1, hs2, hs3, hs4, -, hs5, hsA⟩ := (hX.2.1 k hk).2
  have hc0 : H[a_ad V (5001 + k)]? = some scr := by rw [hS.2.1 _ (Array.getElem?_eq_some_iff.mp hs1).1 hsA]; exact hs1
  have hP := hH.2.1
  have hD := hH.2.2.1
  have hK := hH.2.2.2
  have hc1 : H[a_ad V a]? = some (vp_cell cB (n1, .inl g)) := hP a _ e3
  obtain ⟨hs6, k0, hk0, cm0, hkk0⟩ := hs2
  obtain ⟨-, k1, hk1, cm1, hkk1⟩ := (hK.2 t1 _ e4).1 n1 (fun j => .int (g j))
  obtain ⟨vm', X', step⟩ := X.arraycopy hC.1 hC.2.2.2.1 (hC.2.2.2.2.1 _ w1) (hC.2.2.2.2.1 _ w2) (hC.2.2.2.2.1 _ w3) (hC.2.2.2.2.1 _ w4) (src := a_ad V (5001 + k)) (dst := a_ad V a) (cs := scr) (cd := vp_cell cB (n1, .inl g)) (srcPos := sp) (destPos := dp) (n := n) (by rw [hT]; exact hc0) (by rw [hT]; exact hc1)
    hs6 (fun _ h => by cases h) hs3 (fun h => by cases h) hk0 hk1 hkk0 hkk1 (by simp [refKind, a_ty]) g1 g2 g3
    (by rw [nn sp g1, nn n g3]; omega)
    (by rw [nn dp g2, nn n g3]; show ¬ _ > ((arrV cB n1 (fun j => .int (g j))).slots.size : Int); rw [arrV_size]; omega)
    (fun vm₁ _ i hi => by
      have e : scr.slots.getD (sp.toNatClampNeg + i) .null = .int ((a_sv k).getD (sp.toNatClampNeg + i) 0) := by
        rw [Array.getD_eq_getD_getElem?, hs5 _ (by omega)]
        rfl
      refine ⟨?_, ?_⟩
      · rw [e]
        rfl
      · rw [e]
        exact trivial)
    (g := F0 m pc lsC (.int n :: .int dp :: .ref (a_ad V a) :: .int sp :: .ref (a_ad V (5001 + k)) :: st.map (a_cv V))) rfl (by rw [hC.2.2.1, hL.1]) (rest := st.map (a_cv V)) rfl (by rw [hC.2.1]; exact hd) (by omega) (by show 2 * 0 + _ + _ ≤ _; rw [hcat]; omega)
  have e1 : copied scr (vp_cell cB (n1, .inl g)) sp dp n = vp_cell cB (n1, .inl (va_cpy (fun j => (a_sv k).getD j 0) g sp.toNatClampNeg dp.toNatClampNeg n.toNatClampNeg)) := va_copiedX (fun z => .int z) scr cB (fun j => (a_sv k).getD j 0) g hs5 g4
  rw [e1] at X' step
  have hl : a_ad V a < H.size := (Array.getElem?_eq_some_iff.mp hc1).1
  generalize hnew : vp_cell cB (n1, .inl (va_cpy (fun j => (a_sv k).getD j 0) g sp.toNatClampNeg dp.toNatClampNeg n.toNatClampNeg)) = nc at X' step
  have hheap : ((T.setVm vm').setCell (a_ad V a) nc).heap = H.setIfInBounds (a_ad V a) nc := by rw [← hT]; rfl
  have oq : ∀ q : Nat, q ≠ a_ad V a → (H.setIfInBounds (a_ad V a) nc)[q]? = H[q]? := fun q hq => by simp [Array.getElem?_setIfInBounds, Ne.symm hq]
  obtain ⟨t, a1, b1⟩ := kk V p l e R s m args below meth c9 _ (locs ++ _) Gl _ tys lsC hC hR (fun z => by rw [List.length_set]; exact hN z) ⟨hH.1.setA h1 e4 (n1, .inl (va_cpy (fun j => (a_sv k).getD j 0) g sp.toNatClampNeg dp.toNatClampNeg n.toNatClampNeg)), hP.set hD e3 (show (H.setIfInBounds (a_ad V a) nc)[a_ad V a]? = some _ by rw [← hnew]; simp [Array.getElem?_setIfInBounds, hl]; rfl) oq, hD.set e3, hK⟩ ⟨by simp; exact hS.1, fun q g1 g2 => by
      rw [oq q (fun e => g2 (by rw [e]; exact hD.2 a _ e3))]
      exact hS.2.1 q g1 g2, fun q hq => by
      rcases List.mem_append.mp hq with h | h
      · exact hS.2.2 q h
      · obtain ⟨z, -, hz⟩ := List.mem_map.mp h
        rw [← hz]
        exact hD.2 a _ e3⟩ hu hv2 hL _ hheap X'
  exact ⟨t, step t a1, b1⟩
variable {M : Nat → Nat → Int32} {L : Nat → Nat → Int64} {dd : UInt64}
theorem m_copyT {ix a n1 : Nat} {n : Int32} (k N : Nat) (hd : decode (i_cc I) pc = .ok (.invokestatic ix, 3)) (hk : k < 3) (hw : a_AC (i_own I) ix) (h1 : AI a n1) (hn : n = nI N) (g4 : N ≤ 3) (g5 : N ≤ n1) (hdp : 1 ≤ i_d I) (hst : (st.map fun v => v.category).sum ≤ 8)
    (kk : AW I (pc + 3) ls st (hS (mU M a (fun j => if j < N then (a_sv k).getD j 0 else M a j)) L dd) uc us Q) : AW I pc ls (.int n :: .int 0 :: .ref a :: .int 0 :: .ref (5001 + k) :: st) (hS M L dd) uc us Q := by
  subst hn
  refine r_copyT k hd hk hw ((hp_at h1.1).trans (by rw [h1.2])) (by decide) (by decide) (nI_pos (by omega)) ?_ ?_ hdp hst ?_
  · rw [nI_clamp (by omega)]; show 0 + N ≤ 3; omega
  · rw [nI_clamp (by omega)]; show 0 + N ≤ n1; omega
  · show AW I (pc + 3) ls st (false, (hp M L dd).set a _) uc us Q
    rw [nI_clamp (by omega), hp_setM (fun j => if j < N then (a_sv k).getD j 0 else M a j) _ ?_]
    · exact kk
    · rw [h1.2]
      have e : (fun j => if j < N then (a_sv k).getD j 0 else M a j) = va_cpy (fun j => (a_sv k).getD j 0) (M a) 0 0 N := by
        funext j
        unfold va_cpy
        simp
      rw [e]
      rfl
end CPT
section PLACE3
variable {M : Nat → Nat → Int32} {L : Nat → Nat → Int64} {dd : UInt64} {p T : Nat} {a : Nat → Int32}
theorem c_X5_copyFrom {q : Nat} (hP : PL p) (hQ : PL q) (hd : p + 31 ≤ q ∨ q + 31 ≤ p) (hR : QP M q a) (h12 : nu a ≤ 12) (h8 : nl a ≤ 8) (h6 : nm a ≤ 6) (h30 : nj a ≤ 30) : PO yX5_copyFrom I_X5_copyFrom [.ref p, .ref q] M L dd none (fun M' L' => L' = L ∧ Fr p (p + 31) M M' ∧ QP M' p a) := by
  obtain ⟨qT, qB, qL, qM, qJ, qS⟩ := hR
  refine po_mk (fun Q hq => ?_)
  refine a_met (by decide +kernel) rfl rfl (Nat.le_of_ble_eq_true rfl) (by simp [Value.category]) (by decide) rfl ?_
  show AW I_X5_copyFrom 0 [.ref p, .ref q] [] (hS M L dd) 0 0 Q
  refine r_aload_n dX5_copyFrom_0 rfl ?_
  refine m_get 5 0 dX5_copyFrom_1 fl_X5_12 (ob_place hP) rfl ?_
  refine r_aload_n dX5_copyFrom_4 rfl ?_
  refine m_get 5 0 dX5_copyFrom_5 fl_X5_12 (ob_place hQ) rfl ?_
  refine m_pv1 dX5_copyFrom_8 cv_X5_76 (c_X8_copyFrom hP hQ (fun i j _ _ _ _ => by omega)) (ob_tree hP) ⟨_, rfl, rfl⟩ ⟨rfl, rfl⟩ (by decide) (by decide) (Nat.le_of_ble_eq_true rfl) (fun M1 L1 ⟨x1, x2, x3, x4⟩ => ?_)
  subst x1
  refine r_aload_n dX5_copyFrom_11 rfl ?_
  refine m_get 5 1 dX5_copyFrom_12 fl_X5_21 (ob_place hP) rfl ?_
  refine r_aload_n dX5_copyFrom_15 rfl ?_
  refine m_get 5 1 dX5_copyFrom_16 fl_X5_21 (ob_place hQ) rfl ?_
  refine m_pv1 dX5_copyFrom_19 cv_X5_80 (c_X2_copyFrom hP hQ (fun i j _ _ _ _ => by omega)) (ob_loans hP) ⟨_, rfl, rfl⟩ ⟨rfl, rfl⟩ (by decide) (by decide) (Nat.le_of_ble_eq_true rfl) (fun M2 L2 ⟨y1, y2, y3, y4⟩ => ?_)
  subst y1
  refine r_aload_n dX5_copyFrom_22 rfl ?_
  refine m_get 5 2 dX5_copyFrom_23 fl_X5_28 (ob_place hP) rfl ?_
  refine r_aload_n dX5_copyFrom_26 rfl ?_
  refine m_get 5 2 dX5_copyFrom_27 fl_X5_28 (ob_place hQ) rfl ?_
  refine m_pv1 dX5_copyFrom_30 cv_X5_83 (c_X3_copyFrom hP hQ (fun i j _ _ _ _ => by omega)) (ob_machines hP) ⟨_, rfl, rfl⟩ ⟨rfl, rfl⟩ (by decide) (by decide) (Nat.le_of_ble_eq_true rfl) (fun M3 L3 ⟨z1, z2, z3, z4⟩ => ?_)
  subst z1
  refine r_aload_n dX5_copyFrom_33 rfl ?_
  refine m_get 5 3 dX5_copyFrom_34 fl_X5_35 (ob_place hP) rfl ?_
  refine r_aload_n dX5_copyFrom_37 rfl ?_
  refine m_get 5 3 dX5_copyFrom_38 fl_X5_35 (ob_place hQ) rfl ?_
  refine m_pv1 dX5_copyFrom_41 cv_X5_86 (c_X1_copyFrom hP hQ (fun i j _ _ _ _ => by omega)) (ob_jobs hP) ⟨_, rfl, rfl⟩ ⟨rfl, rfl⟩ (by decide) (by decide) (Nat.le_of_ble_eq_true rfl) (fun M4 L4 ⟨v1, v2, v3, v4⟩ => ?_)
  subst v1
  have hF : Fr p (p + 31) M M4 := fr_t (fr_w x2 (by omega) (by omega)) (fr_t (fr_w y2 (by omega) (by omega)) (fr_t (fr_w z2 (by omega) (by omega)) (fr_w v2 (by omega) (by omega))))
  have e : ∀ c, (q ≤ c ∧ c < q + 31) → M4 c = M c := fun c hc => hF c (by omega)
  have e1 : ∀ c, (q ≤ c ∧ c < q + 31) → M1 c = M c := fun c hc => x2 c (by omega)
  have e2 : ∀ c, (q ≤ c ∧ c < q + 31) → M2 c = M c := fun c hc => (y2 c (by omega)).trans (e1 c hc)
  have e3 : ∀ c, (q ≤ c ∧ c < q + 31) → M3 c = M c := fun c hc => (z2 c (by omega)).trans (e2 c hc)
  have rT : QT M4 p a := by
    refine rt_fr (M := M1) ?_ (fr_t (fr_w y2 (Nat.le_refl (p + 6)) (by omega : p + 12 ≤ p + 23)) (fr_t (fr_w z2 (by omega) (by omega)) (fr_w v2 (by omega) (by omega)))) (by omega)
    refine ⟨x3.trans qT.1, fun k hk => ?_⟩
    obtain ⟨g1, g2, g3, g4⟩ := x4 k (by omega)
    rw [g1, g2, g3]
    exact qT.2 k hk
  have rB : QB M4 p a := by
    refine qb_f (M := M1) (fr_t (fr_w y2 (Nat.le_refl (p + 6)) (by omega : p + 12 ≤ p + 23)) (fr_t (fr_w z2 (by omega) (by omega)) (fr_w v2 (by omega) (by omega)))) (by omega) ?_
    intro k hk
    rw [(x4 k (by omega)).2.2.2]
    exact qB k hk
  have rL : QL M4 p a := by
    refine ql_f (M := M2) (fr_t (fr_w z2 (Nat.le_refl (p + 12)) (by omega : p + 15 ≤ p + 23)) (fr_w v2 (by omega) (by omega))) (by omega) ?_
    refine ⟨by rw [y3, e1 _ (by omega)]; exact qL.1, fun k hk => ?_⟩
    obtain ⟨g1, g2, g3, g4, g5⟩ := y4 k (by omega)
    rw [g1, g2, g3, g4, g5, e1 _ (by omega), e1 _ (by omega), e1 _ (by omega), e1 _ (by omega), e1 _ (by omega)]
    exact qL.2 k hk
  have rM : QM M4 p a := by
    refine qm_f (M := M3) v2 (by omega) ?_
    refine ⟨by rw [z3, e2 _ (by omega)]; exact qM.1, fun k hk => ?_⟩
    obtain ⟨g1, g2⟩ := z4 k (by omega)
    rw [g1, g2, e2 _ (by omega), e2 _ (by omega)]
    exact qM.2 k hk
  have rJ : QJ M4 p a := by
    refine ⟨by rw [v3, e3 _ (by omega)]; exact qJ.1, fun k hk => ?_⟩
    obtain ⟨g1, g2, g3, g4, g5, g6, g7⟩ := v4 k (by omega)
    rw [g1, g2, g3, g4, g5, g6, g7, e3 _ (by omega), e3 _ (by omega), e3 _ (by omega), e3 _ (by omega), e3 _ (by omega), e3 _ (by omega), e3 _ (by omega)]
    exact qJ.2 k hk
  obtain ⟨s1, s2, s3, s4, s5, s6⟩ := qS
  refine r_aload_n dX5_copyFrom_44 rfl ?_
  refine m_get 5 5 dX5_copyFrom_45 fl_X5_46 (ob_place hQ) rfl ?_
  refine r_iconst_0 dX5_copyFrom_48 ?_
  refine r_aload_n dX5_copyFrom_49 rfl ?_
  refine m_get 5 5 dX5_copyFrom_50 fl_X5_46 (ob_place hP) rfl ?_
  refine r_iconst_0 dX5_copyFrom_53 ?_
  refine r_iconst_3 dX5_copyFrom_54 ?_
  refine m_copy 3 dX5_copyFrom_55 ac_X5_60 (ai_settings hQ) (ai_settings hP) (by decide) (by decide) (by decide) (by decide) (by decide) (Nat.le_of_ble_eq_true rfl) ?_
  refine r_aload_n dX5_copyFrom_58 rfl ?_
  refine r_aload_n dX5_copyFrom_59 rfl ?_
  refine m_get 5 6 dX5_copyFrom_60 fl_X5_66 (ob_place hQ) rfl ?_
  refine m_put 5 6 dX5_copyFrom_63 fl_X5_66 (fun r hr => by cases hr; rfl) (ob_place hP) (Nat.le_of_ble_eq_true rfl) rfl ?_
  refine r_aload_n dX5_copyFrom_66 rfl ?_
  refine r_aload_n dX5_copyFrom_67 rfl ?_
  refine m_get 5 7 dX5_copyFrom_68 fl_X5_70 (ob_place hQ) rfl ?_
  refine m_put 5 7 dX5_copyFrom_71 fl_X5_70 (fun r hr => by cases hr; rfl) (ob_place hP) (Nat.le_of_ble_eq_true rfl) rfl ?_
  refine r_aload_n dX5_copyFrom_74 rfl ?_
  refine r_aload_n dX5_copyFrom_75 rfl ?_
  refine m_get 5 8 dX5_copyFrom_76 fl_X5_73 (ob_place hQ) rfl ?_
  refine m_put 5 8 dX5_copyFrom_79 fl_X5_73 (fun r hr => by cases hr; rfl) (ob_place hP) (Nat.le_of_ble_eq_true rfl) rfl ?_
  have hF2 : Fr (p + 23) (p + 23) M4 M4 := fr_r
  refine r_vret dX5_copyFrom_82 rfl (hq _ _ ⟨rfl, fr_u (fr_u (fr_u (fr_u hF (by omega)) (by omega)) (by omega)) (by omega), ?_, ?_, ?_, ?_, ?_, ?_⟩)
  · unfold QT; simp [mU]; exact rT
  · unfold QB; simp [mU]; exact rB
  · unfold QL; simp [mU]; exact rL
  · unfold QM; simp [mU]; exact rM
  · unfold QJ; simp [mU]; exact rJ
  · have n1 : ¬ q = p := by omega
    have n2 : ¬ q = p + 30 := by omega
    unfold QS
    simp [mU, upd, e _ (show q ≤ q + 30 ∧ q + 30 < q + 31 by omega), e _ (show q ≤ q ∧ q < q + 31 by omega), s1, s2, s3, s4, s5, s6, n1, n2]
def iniS : Nat → Int32 := fun i => if i = 1 then 10 else if i = 2 then 50 else if i = 3 then 5 else if i = 4 then 1 else if i = 10 then -1 else 0
theorem c_X5_clear (hP : PL p) : PO yX5_clear I_X5_clear [.ref p] M L dd none (fun M' L' => L' = L ∧ Fr p (p + 31) M M' ∧ QP M' p iniS) := by
  refine po_mk (fun Q hq => ?_)
  refine a_met (by decide +kernel) rfl rfl (Nat.le_of_ble_eq_true rfl) (by simp [Value.category]) (by decide) rfl ?_
  show AW I_X5_clear 0 [.ref p] [] (hS M L dd) 0 0 Q
  refine r_aload_n dX5_clear_0 rfl ?_
  refine m_get 5 0 dX5_clear_1 fl_X5_12 (ob_place hP) rfl ?_
  refine m_pv0 dX5_clear_4 cv_X5_53 (c_X8_clear hP) (ob_tree hP) ⟨_, rfl, rfl⟩ ⟨rfl, rfl⟩ (by decide) (by decide) (Nat.le_of_ble_eq_true rfl) (fun M1 L1 ⟨x1, x2, x3, x4, x5, x6, x7⟩ => ?_)
  subst x1
  refine r_aload_n dX5_clear_7 rfl ?_
  refine m_get 5 1 dX5_clear_8 fl_X5_21 (ob_place hP) rfl ?_
  refine m_pv0 dX5_clear_11 cv_X5_54 (c_X2_clear hP) (ob_loans hP) ⟨_, rfl, rfl⟩ ⟨rfl, rfl⟩ (by decide) (by decide) (Nat.le_of_ble_eq_true rfl) (fun M2 L2 ⟨y1, y2⟩ => ?_)
  subst y1
  refine r_aload_n dX5_clear_14 rfl ?_
  refine m_get 5 2 dX5_clear_15 fl_X5_28 (ob_place hP) rfl ?_
  refine m_pv0 dX5_clear_18 cv_X5_55 (c_X3_clear hP) (ob_machines hP) ⟨_, rfl, rfl⟩ ⟨rfl, rfl⟩ (by decide) (by decide) (Nat.le_of_ble_eq_true rfl) (fun M3 L3 ⟨z1, z2⟩ => ?_)
  subst z1
  refine r_aload_n dX5_clear_21 rfl ?_
  refine m_get 5 3 dX5_clear_22 fl_X5_35 (ob_place hP) rfl ?_
  refine m_pv0 dX5_clear_25 cv_X5_56 (c_X1_clear hP) (ob_jobs hP) ⟨_, rfl, rfl⟩ ⟨rfl, rfl⟩ (by decide) (by decide) (Nat.le_of_ble_eq_true rfl) (fun M4 L4 ⟨v1, v2⟩ => ?_)
  subst v1
  refine r_gets 0 dX5_clear_28 (by decide) (Or.inr g_229) ?_
  refine r_iconst_0 dX5_clear_31 ?_
  refine r_aload_n dX5_clear_32 rfl ?_
  refine m_get 5 5 dX5_clear_33 fl_X5_46 (ob_place hP) rfl ?_
  refine r_iconst_0 dX5_clear_36 ?_
  refine r_iconst_3 dX5_clear_37 ?_
  refine m_copyT 0 3 dX5_clear_38 (by decide) ac_X5_60 (ai_settings hP) (by decide) (by decide) (by decide) (by decide) (Nat.le_of_ble_eq_true rfl) ?_
  refine r_aload_n dX5_clear_41 rfl ?_
  refine r_iconst_0 dX5_clear_42 ?_
  refine m_put 5 6 dX5_clear_43 fl_X5_66 (fun r hr => by cases hr; rfl) (ob_place hP) (Nat.le_of_ble_eq_true rfl) rfl ?_
  refine r_aload_n dX5_clear_46 rfl ?_
  refine r_iconst_0 dX5_clear_47 ?_
  refine m_put 5 7 dX5_clear_48 fl_X5_70 (fun r hr => by cases hr; rfl) (ob_place hP) (Nat.le_of_ble_eq_true rfl) rfl ?_
  refine r_aload_n dX5_clear_51 rfl ?_
  refine r_iconst_0 dX5_clear_52 ?_
  refine m_put 5 8 dX5_clear_53 fl_X5_73 (fun r hr => by cases hr; rfl) (ob_place hP) (Nat.le_of_ble_eq_true rfl) rfl ?_
  subst v2; subst z2; subst y2
  refine r_vret dX5_clear_56 rfl (hq _ _ ⟨rfl, fr_u (fr_u (fr_u (fr_u (fr_u (fr_u (fr_u (fr_w x2 (by omega) (by omega)) (by omega)) (by omega)) (by omega)) (by omega)) (by omega)) (by omega)) (by omega), ?_, ?_, ?_, ?_, ?_, ?_⟩)
  · refine ⟨by simp [mU, x3]; rfl, fun k hk => ?_⟩
    have : k = 0 := by have e : nu iniS = 1 := by decide
                       omega
    subst this
    simp [mU, x4, x5, x6]
    decide
  · intro k hk
    have : k = 0 := by have e : nu iniS = 1 := by decide
                       omega
    subst this
    simp [mU, x7]
    rfl
  · exact ⟨by simp [mU, upd]; rfl, fun k hk => by have e : nl iniS = 0 := by decide
                                                  omega⟩
  · exact ⟨by simp [mU, upd]; rfl, fun k hk => by have e : nm iniS = 0 := by decide
                                                  omega⟩
  · exact ⟨by simp [mU, upd]; rfl, fun k hk => by have e : nj iniS = 0 := by decide
                                                  omega⟩
  · unfold QS
    simp [mU, upd, a_sv]
    decide
end PLACE3
