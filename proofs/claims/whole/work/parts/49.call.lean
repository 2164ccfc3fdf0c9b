/-! calls of methods that return nothing or throw -/
def NE (y : MethodName) (I : a_I) (As : List Value) (M : Nat → Nat → Int32) (L : Nat → Nat → Int64) (dd : UInt64) (P : Prop) (E : String) : Prop :=
  AM y I As (hS M L dd) (fun o h' => h' = hS M L dd ∧ ((P ∧ o = .inl none) ∨ (¬ P ∧ o = .inr E)))
theorem ne_mk {y : MethodName} {I : a_I} {As : List Value} {M : Nat → Nat → Int32} {L : Nat → Nat → Int64} {dd : UInt64} {P : Prop} {E : String} (h : ∀ Q : a_Q, (P → Q (.inl none) (hS M L dd)) → (¬ P → Q (.inr E) (hS M L dd)) → AM y I As (hS M L dd) Q) : NE y I As M L dd P E :=
  h _ (fun hp => ⟨rfl, Or.inl ⟨hp, rfl⟩⟩) (fun hp => ⟨rfl, Or.inr ⟨hp, rfl⟩⟩)
section NEC
variable {I : a_I} {pc uc us : Nat} {ls st : List Value} {Q : a_Q} {M : Nat → Nat → Int32} {L : Nat → Nat → Int64} {dd : UInt64}
variable {ix c ci n : Nat} {y : MethodName} {I' : a_I} {As : List Value} {vs : (Nat → Int32) → List Value} {P : Prop} {E : String}
theorem ne_kn (hM : NE y I' As M L dd P E) (hh : i_hh I = []) (hq : ¬ P → Q (.inr E) (hS M L dd)) (kk : P → AW I (pc + 3) ls st (hS M L dd) (uc + i_mc I') (us + i_ms I') Q) :
    a_Kn I pc ls st (hS M L dd) uc us Q I' (fun o h' => h' = hS M L dd ∧ ((P ∧ o = .inl none) ∨ (¬ P ∧ o = .inr E))) := by
  refine ⟨fun v h' hv => ?_, fun E' h' hv => ?_⟩
  · obtain ⟨rfl, ⟨hp, ho⟩ | ⟨hp, ho⟩⟩ := hv
    · cases ho
      exact ⟨fun z => (Bool.false_ne_true z).elim, kk hp⟩
    · cases ho
  · obtain ⟨rfl, ⟨hp, ho⟩ | ⟨hp, ho⟩⟩ := hv
    · cases ho
    · cases ho
      exact Or.inl ⟨hh, hq hp⟩
theorem m_nv (hd : decode (i_cc I) pc = .ok (.invokevirtual ix, 3)) (hc : a_CV (i_own I) ix y I' n) (hM : NE y I' (.ref c :: As) M L dd P E) (hn : As.length = n) (ho : OB c ci vs) (hci : ∃ r, a_cls[ci]? = some r ∧ r.1 = y.cls)
    (hd1 : i_d I' + 1 ≤ i_d I) (hnl : i_nL I' ≤ 40) (hst : (st.map fun v => v.category).sum ≤ 8) (hu : uc + i_mc I' ≤ i_mc I) (hv : us + i_ms I' ≤ i_ms I) (hh : i_hh I = []) (hq : ¬ P → Q (.inr E) (hS M L dd)) (kk : P → AW I (pc + 3) ls st (hS M L dd) (uc + i_mc I') (us + i_ms I') Q) :
    AW I pc ls (As.reverse ++ .ref c :: st) (hS M L dd) uc us Q :=
  r_callV hd hc hM hn ((hp_at ho.1).trans (by rw [ho.2])) hci ⟨hd1, hnl, hst, hu, hv⟩ (ne_kn hM hh hq kk)
theorem m_ns (hd : decode (i_cc I) pc = .ok (.invokestatic ix, 3)) (hc : a_CS (i_own I) ix y I' n) (hM : NE y I' As M L dd P E) (hn : As.length = n)
    (hd1 : i_d I' + 1 ≤ i_d I) (hnl : i_nL I' ≤ 40) (hst : (st.map fun v => v.category).sum ≤ 8) (hu : uc + i_mc I' ≤ i_mc I) (hv : us + i_ms I' ≤ i_ms I) (hh : i_hh I = []) (hq : ¬ P → Q (.inr E) (hS M L dd)) (kk : P → AW I (pc + 3) ls st (hS M L dd) (uc + i_mc I') (us + i_ms I') Q) :
    AW I pc ls (As.reverse ++ st) (hS M L dd) uc us Q :=
  r_callS hd hc hM hn ⟨hd1, hnl, hst, hu, hv⟩ (ne_kn hM hh hq kk)
theorem m_nv1 {a1 : Value} (hd : decode (i_cc I) pc = .ok (.invokevirtual ix, 3)) (hc : a_CV (i_own I) ix y I' 1) (hM : NE y I' [.ref c, a1] M L dd P E) (ho : OB c ci vs) (hci : ∃ r, a_cls[ci]? = some r ∧ r.1 = y.cls)
    (hd1 : i_d I' + 1 ≤ i_d I) (hnl : i_nL I' ≤ 40) (hst : (st.map fun v => v.category).sum ≤ 8) (hu : uc + i_mc I' ≤ i_mc I) (hv : us + i_ms I' ≤ i_ms I) (hh : i_hh I = []) (hq : ¬ P → Q (.inr E) (hS M L dd)) (kk : P → AW I (pc + 3) ls st (hS M L dd) (uc + i_mc I') (us + i_ms I') Q) :
    AW I pc ls (a1 :: .ref c :: st) (hS M L dd) uc us Q := m_nv (As := [a1]) hd hc hM rfl ho hci hd1 hnl hst hu hv hh hq kk
theorem m_ns3 {a1 a2 a3 : Value} (hd : decode (i_cc I) pc = .ok (.invokestatic ix, 3)) (hc : a_CS (i_own I) ix y I' 3) (hM : NE y I' [a1, a2, a3] M L dd P E)
    (hd1 : i_d I' + 1 ≤ i_d I) (hnl : i_nL I' ≤ 40) (hst : (st.map fun v => v.category).sum ≤ 8) (hu : uc + i_mc I' ≤ i_mc I) (hv : us + i_ms I' ≤ i_ms I) (hh : i_hh I = []) (hq : ¬ P → Q (.inr E) (hS M L dd)) (kk : P → AW I (pc + 3) ls st (hS M L dd) (uc + i_mc I') (us + i_ms I') Q) :
    AW I pc ls (a3 :: a2 :: a1 :: st) (hS M L dd) uc us Q := m_ns (As := [a1, a2, a3]) hd hc hM rfl hd1 hnl hst hu hv hh hq kk
theorem plk {k : Nat} (hk : k < 8) : PL (65 + 31 * k) := by
  unfold PL
  rcases (show k = 0 ∨ k = 1 ∨ k = 2 ∨ k = 3 ∨ k = 4 ∨ k = 5 ∨ k = 6 ∨ k = 7 by omega) with z | z | z | z | z | z | z | z <;> subst z <;> decide
theorem m_aald {i : Int32} (k : Nat) (hd : decode (i_cc I) pc = .ok (.aaload, 1)) (hi : i = nI k) (hk : k < 8) (kk : AW I (pc + 1) ls (.ref (65 + 31 * k) :: st) (hS M L dd) uc us Q) : AW I pc ls (.int i :: .ref 64 :: st) (hS M L dd) uc us Q := by
  subst hi
  refine r_aald (n := 8) (f := m_pf) hd ((hp_at (by decide)).trans rfl) (pk_in k 8 hk) (b := 65 + 31 * k) ?_ kk
  show m_pf (zN (nI k)) = _
  rw [zN, nI_clamp (by omega), m_pf, if_pos hk]
end NEC
/-! THE HISTORY: a ring of rows -/
def HR (M : Nat → Nat → Int32) (R : List Row) : Prop := R.length ≤ 8 ∧ M 63 0 = nI R.length ∧ ∃ w, w < 8 ∧ M 63 1 = nI w ∧ ∀ r (b : Row), R[r]? = some b → QP M (65 + 31 * ((w + 9 + r - R.length) % 8)) b
def CS (M : Nat → Nat → Int32) (a : Row) (R : List Row) : Prop := QP M 1 a ∧ HR M R
def Gx (M M' : Nat → Nat → Int32) : Prop := ∀ c, 313 ≤ c → M' c = M c
def GL (L L' : Nat → Nat → Int64) : Prop := ∀ c, 313 ≤ c → L' c = L c
theorem gx_r {M : Nat → Nat → Int32} : Gx M M := fun _ _ => rfl
theorem gl_r {L : Nat → Nat → Int64} : GL L L := fun _ _ => rfl
theorem gx_t {M M1 M2 : Nat → Nat → Int32} (h : Gx M M1) (h2 : Gx M1 M2) : Gx M M2 := fun c hc => (h2 c hc).trans (h c hc)
theorem gl_t {M M1 M2 : Nat → Nat → Int64} (h : GL M M1) (h2 : GL M1 M2) : GL M M2 := fun c hc => (h2 c hc).trans (h c hc)
theorem gx_f {M M' : Nat → Nat → Int32} {lo hi : Nat} (h : Fr lo hi M M') (h2 : hi ≤ 313) : Gx M M' := fun c hc => h c (by omega)
theorem gl_f {M M' : Nat → Nat → Int64} {lo hi : Nat} (h : FrL lo hi M M') (h2 : hi ≤ 313) : GL M M' := fun c hc => h c (by omega)
theorem hr_f {M M' : Nat → Nat → Int32} {lo hi : Nat} {R : List Row} (h : Fr lo hi M M') (h2 : hi ≤ 63) (hR : HR M R) : HR M' R := by
  obtain ⟨r1, r2, w, r3, r4, r5⟩ := hR
  refine ⟨r1, by rw [h 63 (by omega)]; exact r2, w, r3, by rw [h 63 (by omega)]; exact r4, fun r b hb => qp_f h (Or.inr (by omega)) (r5 r b hb)⟩
theorem hr_ge {M M' : Nat → Nat → Int32} {R : List Row} (h : ∀ c, 63 ≤ c → M' c = M c) (hR : HR M R) : HR M' R := hr_f (lo := 0) (hi := 63) (fun c hc => h c (by omega)) (Nat.le_refl _) hR
section HIST
variable {M : Nat → Nat → Int32} {L : Nat → Nat → Int64} {dd : UInt64} {a : Row} {R : List Row} {T : Nat} {Q : a_Q}
theorem c_X0_keep (hP : QP M 1 a) (hR : HR M R) (hW : WF T a) : PO yX0_keep I_X0_keep [.ref 63, .ref 1] M L dd none (fun M' L' => L' = L ∧ Fr 63 313 M M' ∧ HR M' (pushR R a)) := by
  obtain ⟨r1, r2, w, r3, r4, r5⟩ := hR
  have h12 := hW.1.2.2.1
  have h8 := hW.2.2.2.2.1.2.1
  have h6 := hW.2.2.1.2.1
  have h30 := hW.2.2.2.1.2.1
  have hlen : (pushR R a).length = if R.length = 8 then 8 else R.length + 1 := by
    unfold pushR
    by_cases z : R.length = 8
    · rw [if_pos z, if_pos z, List.length_append, List.length_drop, z]; rfl
    · rw [if_neg z, if_neg z, List.length_append]; rfl
  have get : ∀ r (b : Row), (pushR R a)[r]? = some b → (r + 1 = (pushR R a).length ∧ b = a) ∨ (r + 1 < (pushR R a).length ∧ R[r + R.length + 1 - (pushR R a).length]? = some b) := by
    intro r b hb
    have hl := (List.getElem?_eq_some_iff.mp hb).1
    rw [hlen] at hl ⊢
    unfold pushR at hb
    by_cases z : R.length = 8
    · rw [if_pos z] at hl hb ⊢
      by_cases y : r = 7
      · subst y
        rw [List.getElem?_append_right (by rw [List.length_drop, z]; omega)] at hb
        simp [List.length_drop, z] at hb
        exact Or.inl ⟨rfl, hb.symm⟩
      · rw [List.getElem?_append_left (by rw [List.length_drop, z]; omega), List.getElem?_drop] at hb
        exact Or.inr ⟨by omega, by rw [← hb]; congr 1; omega⟩
    · rw [if_neg z] at hl hb ⊢
      by_cases y : r = R.length
      · subst y
        rw [List.getElem?_append_right (Nat.le_refl _)] at hb
        simp at hb
        exact Or.inl ⟨rfl, hb.symm⟩
      · rw [List.getElem?_append_left (by omega)] at hb
        exact Or.inr ⟨by omega, by rw [← hb]; congr 1; omega⟩
  refine po_mk (fun Q hq => ?_)
  have fin : ∀ w', w' < 8 → w' = (w + 1) % 8 → AW I_X0_keep 22 [.ref 63, .ref 1] [.int (nI w'), .ref 63] (hS M L dd) 0 0 Q := by
    intro w' hw' ew
    refine m_put 0 1 dX0_keep_22 fl_X0_18 (fun r hr => by cases hr; rfl) ob_history (Nat.le_of_ble_eq_true rfl) rfl ?_
    refine m_abs (fun M1 => Fr 63 64 M M1 ∧ M1 63 0 = nI R.length ∧ M1 63 1 = nI w') ⟨fr_u fr_r (by omega), by rw [mU_s, upd_ne (by omega)]; exact r2, by rw [mU_s, upd_eq]⟩ (fun M1 ⟨f1, z0, z1⟩ => ?_)
    have hP1 : QP M1 1 a := qp_f f1 (Or.inl (by omega)) hP
    refine r_aload_n dX0_keep_25 rfl ?_
    refine m_get 0 2 dX0_keep_26 fl_X0_11 ob_history rfl ?_
    refine r_aload_n dX0_keep_29 rfl ?_
    refine m_get 0 1 dX0_keep_30 fl_X0_18 ob_history rfl ?_
    refine m_aald w' dX0_keep_33 z1 hw' ?_
    refine r_aload_n dX0_keep_34 rfl ?_
    refine m_pv1 dX0_keep_35 cv_X0_22 (c_X5_copyFrom (plk hw') pl1 (Or.inr (by omega)) hP1 h12 h8 h6 h30) (ob_place (plk hw')) ⟨_, rfl, rfl⟩ ⟨rfl, rfl⟩ (by decide) (by decide) (Nat.le_of_ble_eq_true rfl) (fun M2 L2 ⟨x1, x2, x3⟩ => ?_)
    subst x1
    have y0 : M2 63 0 = nI R.length := by rw [x2 63 (by omega)]; exact z0
    have y1 : M2 63 1 = nI w' := by rw [x2 63 (by omega)]; exact z1
    refine r_aload_n dX0_keep_38 rfl ?_
    refine r_aload_n dX0_keep_39 rfl ?_
    refine m_get 0 0 dX0_keep_40 fl_X0_26 ob_history rfl ?_
    refine r_iconst_1 dX0_keep_43 ?_
    refine r_iadd dX0_keep_44 ?_
    refine r_bipush 8 dX0_keep_45 (by decide) ?_
    refine r_mmin dX0_keep_47 k_736 k_552 k_18 k_553 (by decide) (Nat.le_of_ble_eq_true rfl) ?_
    rw [y0, nI_1]
    have emin : (if (8 : Int32) < nI (R.length + 1) then (8 : Int32) else nI (R.length + 1)) = nI (pushR R a).length := by
      rw [hlen, show (8 : Int32) = nI 8 from rfl]
      by_cases z : R.length = 8
      · rw [if_pos z, if_pos (by rw [nI_ltI (by omega) (by omega)]; omega)]
      · rw [if_neg z, if_neg (by rw [nI_ltI (by omega) (by omega)]; omega)]
    refine m_put 0 0 dX0_keep_50 fl_X0_26 (fun r hr => by cases hr; rfl) ob_history (Nat.le_of_ble_eq_true rfl) rfl ?_
    refine r_vret dX0_keep_53 rfl (hq _ _ ⟨rfl, fr_u (fr_t (fr_w f1 (by omega) (by omega)) (fr_w x2 (by omega) (by omega))) (by omega), by rw [hlen]; split <;> omega, by rw [mU_s, upd_eq]; exact emin, w', hw', by rw [mU_s, upd_ne (by omega)]; exact y1, fun r b hb => ?_⟩)
    refine qp_f (lo := 63) (hi := 64) (fr_u fr_r (by omega)) (Or.inr (by omega)) ?_
    have hl := (List.getElem?_eq_some_iff.mp hb).1
    rcases get r b hb with ⟨e1, e2⟩ | ⟨e1, e2⟩
    · rw [e2, show (w' + 9 + r - (pushR R a).length) % 8 = w' by omega]
      exact x3
    · have hl2 := (List.getElem?_eq_some_iff.mp e2).1
      have hp8 : (pushR R a).length ≤ 8 := by rw [hlen]; split <;> omega
      have hge : R.length ≤ (pushR R a).length := by rw [hlen]; split <;> omega
      have e3 := r5 _ _ e2
      have hle : (pushR R a).length ≤ R.length + 1 := by rw [hlen]; split <;> omega
      clear hb e2 get
      generalize (pushR R a).length = n' at *
      have e4 : (w + 9 + (r + R.length + 1 - n') - R.length) % 8 = (w' + 9 + r - n') % 8 := by
        rw [show w + 9 + (r + R.length + 1 - n') - R.length = w + 10 + r - n' by omega]
        rcases (show (w < 7 ∧ w' = w + 1) ∨ (w = 7 ∧ w' = 0) by omega) with ⟨g1, g2⟩ | ⟨g1, g2⟩
        · rw [g2]
        · rw [g1, g2]; omega
      rw [e4] at e3
      have hne : (w' + 9 + r - n') % 8 ≠ w' := by omega
      refine qp_f x2 ?_ (qp_f f1 (Or.inr (by omega)) e3)
      generalize (w' + 9 + r - n') % 8 = k at *
      rcases Nat.lt_or_gt_of_ne hne with h | h
      · exact Or.inl (by omega)
      · exact Or.inr (by omega)
  refine a_met (by decide +kernel) rfl rfl (Nat.le_of_ble_eq_true rfl) (by simp [Value.category]) (by decide) rfl ?_
  show AW I_X0_keep 0 [.ref 63, .ref 1] [] (hS M L dd) 0 0 Q
  refine r_aload_n dX0_keep_0 rfl ?_
  refine r_aload_n dX0_keep_1 rfl ?_
  refine m_get 0 1 dX0_keep_2 fl_X0_18 ob_history rfl ?_
  refine r_iconst_1 dX0_keep_5 ?_
  refine r_iadd dX0_keep_6 ?_
  rw [r4, nI_1]
  refine r_bipush 8 dX0_keep_7 (by decide) ?_
  refine r_icmp_ge 21 dX0_keep_9 (by decide) (fun h9 => ?_) (fun h9 => ?_)
  · rw [show (8 : Int32) = nI 8 from rfl, nI_leI (by omega) (by omega)] at h9
    refine r_iconst_0 dX0_keep_21 ?_
    exact fin 0 (by omega) (by omega)
  · rw [show (8 : Int32) = nI 8 from rfl, nI_leI (by omega) (by omega)] at h9
    refine r_aload_n dX0_keep_12 rfl ?_
    refine m_get 0 1 dX0_keep_13 fl_X0_18 ob_history rfl ?_
    refine r_iconst_1 dX0_keep_16 ?_
    refine r_iadd dX0_keep_17 ?_
    rw [r4, nI_1]
    refine r_goto 22 dX0_keep_18 (by decide) ?_
    exact fin (w + 1) (by omega) (by omega)
theorem c_X0_restore {b : Row} {w : Nat} (hw : w < 8) (h1 : M 63 1 = nI w) (hb : QP M (65 + 31 * w) b) (hW : WF T b) : PO yX0_restore I_X0_restore [.ref 63, .ref 1] M L dd none (fun M' L' => L' = L ∧ (∀ c, ¬ (1 ≤ c ∧ c < 32) → c ≠ 63 → M' c = M c) ∧ M' 63 0 = M 63 0 - 1 ∧ M' 63 1 = nI ((w + 7) % 8) ∧ QP M' 1 b) := by
  have h12 := hW.1.2.2.1
  have h8 := hW.2.2.2.2.1.2.1
  have h6 := hW.2.2.1.2.1
  have h30 := hW.2.2.2.1.2.1
  refine po_mk (fun Q hq => ?_)
  refine a_met (by decide +kernel) rfl rfl (Nat.le_of_ble_eq_true rfl) (by simp [Value.category]) (by decide) rfl ?_
  show AW I_X0_restore 0 [.ref 63, .ref 1] [] (hS M L dd) 0 0 Q
  refine r_aload_n dX0_restore_0 rfl ?_
  refine r_aload_n dX0_restore_1 rfl ?_
  refine m_get 0 2 dX0_restore_2 fl_X0_11 ob_history rfl ?_
  refine r_aload_n dX0_restore_5 rfl ?_
  refine m_get 0 1 dX0_restore_6 fl_X0_18 ob_history rfl ?_
  refine m_aald w dX0_restore_9 h1 hw ?_
  refine m_pv1 dX0_restore_10 cv_X0_22 (c_X5_copyFrom pl1 (plk hw) (Or.inl (by omega)) hb h12 h8 h6 h30) (ob_place pl1) ⟨_, rfl, rfl⟩ ⟨rfl, rfl⟩ (by decide) (by decide) (Nat.le_of_ble_eq_true rfl) (fun M2 L2 ⟨x1, x2, x3⟩ => ?_)
  subst x1
  have y1 : M2 63 1 = nI w := by rw [x2 63 (by omega)]; exact h1
  have fin : ∀ v : Int32, v = nI ((w + 7) % 8) → AW I_X0_restore 32 [.ref 63, .ref 1] [.int v, .ref 63] (hS M2 L2 dd) 0 0 Q := by
    intro v ev
    subst ev
    refine m_put 0 1 dX0_restore_32 fl_X0_18 (fun r hr => by cases hr; rfl) ob_history (Nat.le_of_ble_eq_true rfl) rfl ?_
    refine r_aload_n dX0_restore_35 rfl ?_
    refine r_dup dX0_restore_36 rfl ?_
    refine m_get 0 0 dX0_restore_37 fl_X0_26 ob_history rfl ?_
    refine r_iconst_1 dX0_restore_40 ?_
    refine r_isub dX0_restore_41 ?_
    refine m_put 0 0 dX0_restore_42 fl_X0_26 (fun r hr => by cases hr; rfl) ob_history (Nat.le_of_ble_eq_true rfl) rfl ?_
    refine r_vret dX0_restore_45 rfl (hq _ _ ⟨rfl, fun c g1 g2 => by rw [mU_n g2, mU_n g2]; exact x2 c (by omega), by rw [mU_s, upd_eq, mU_s, upd_ne (by omega), x2 63 (by omega)], by rw [mU_s, upd_ne (by omega), mU_s, upd_eq], qp_f (lo := 63) (hi := 64) (fr_u (fr_u fr_r (by omega)) (by omega)) (Or.inl (by omega)) x3⟩)
  refine r_aload_n dX0_restore_13 rfl ?_
  refine r_aload_n dX0_restore_14 rfl ?_
  refine m_get 0 1 dX0_restore_15 fl_X0_18 ob_history rfl ?_
  rw [y1]
  refine r_if_le 30 dX0_restore_18 (by decide) (fun h18 => ?_) (fun h18 => ?_)
  · have h0 : w = 0 := by rw [show (0 : Int32) = nI 0 from rfl, nI_leI (by omega) (by omega)] at h18; omega
    refine r_bipush 7 dX0_restore_30 (by decide) ?_
    exact fin _ (by rw [h0]; rfl)
  · have h0 : w ≠ 0 := by rw [show (0 : Int32) = nI 0 from rfl, nI_leI (by omega) (by omega)] at h18; omega
    refine r_aload_n dX0_restore_21 rfl ?_
    refine m_get 0 1 dX0_restore_22 fl_X0_18 ob_history rfl ?_
    refine r_iconst_1 dX0_restore_25 ?_
    refine r_isub dX0_restore_26 ?_
    refine r_goto 32 dX0_restore_27 (by decide) ?_
    exact fin _ (by rw [y1, show (1 : Int32) = nI 1 from rfl, pk_sub (by omega)]; congr 1; omega)
end HIST
