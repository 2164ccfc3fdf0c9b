/-- the check's state: its row, its kept rows -/
def MS (M : Nat → Nat → Int32) (a : Row) (R : List Row) : Prop := RE a (M 318) ∧ MH M R
/-- what a call of the check leaves alone -/
def Fx (M M' : Nat → Nat → Int32) : Prop := (∀ c, c ≠ 317 → c ≠ 318 → c ≠ 319 → c ≠ 320 → c ≠ 321 → c ≠ 323 → M' c = M c) ∧ M' 317 7 = M 317 7 ∧ M' 317 15 = M 317 15 ∧ M' 317 19 = M 317 19
theorem fx_r {M : Nat → Nat → Int32} : Fx M M := ⟨fun _ _ _ _ _ _ _ => rfl, rfl, rfl, rfl⟩
theorem fx_t {M M1 M2 : Nat → Nat → Int32} (h : Fx M M1) (h2 : Fx M1 M2) : Fx M M2 := ⟨fun c g1 g2 g3 g4 g5 g6 => (h2.1 c g1 g2 g3 g4 g5 g6).trans (h.1 c g1 g2 g3 g4 g5 g6), h2.2.1.trans h.2.1, h2.2.2.1.trans h.2.2.1, h2.2.2.2.trans h.2.2.2⟩
theorem fx_fm {M M' : Nat → Nat → Int32} (h : Fm M M') : Fx M M' := ⟨fun c g1 g2 g3 g4 g5 g6 => h c g2 g6, by rw [h 317 (by omega) (by omega)], by rw [h 317 (by omega) (by omega)], by rw [h 317 (by omega) (by omega)]⟩
theorem fx_th {M : Nat → Nat → Int32} {c : Int32} : Fx M (mU M 317 (upd (M 317) 5 c)) := ⟨fun d g1 _ _ _ _ _ => mU_n g1, by rw [mU_s, upd_ne (by omega)], by rw [mU_s, upd_ne (by omega)], by rw [mU_s, upd_ne (by omega)]⟩
theorem mh_th {M : Nat → Nat → Int32} {c : Int32} {R : List Row} (h : MH M R) : MH (mU M 317 (upd (M 317) 5 c)) R := ⟨h.1, by rw [mU_s, upd_ne (by omega)]; exact h.2.1, fun r b hr t ht => by rw [mU_n (by omega)]; exact h.2.2 r b hr t ht⟩
theorem mh_fm {M M' : Nat → Nat → Int32} {R : List Row} (h : MH M R) (hF : Fm M M') : MH M' R := ⟨h.1, by rw [hF 317 (by omega) (by omega)]; exact h.2.1, fun r b hr t ht => by rw [hF 321 (by omega) (by omega)]; exact h.2.2 r b hr t ht⟩
/-- an answer of the type that is told -/
def TR (rt : Option FieldType) (x : Value) : Prop := match rt, x with
  | some .int, .int _ => True
  | some .long, .long _ => True
  | some .float, .float _ => True
  | _, _ => False
/-- a call of the check: refused with thr, or answered with val -/
def MQa (y : MethodName) (I : a_I) (As : List Value) (M : Nat → Nat → Int32) (L : Nat → Nat → Int64) (dd : UInt64) (thr : Int32) (V : Value → Prop) (a a' : Row) (R R' : List Row) : Prop :=
  AM y I As (hS M L dd) (fun o h' => ∃ x M', o = .inl (some x) ∧ TR (i_ret I) x ∧ h' = hS M' L dd ∧ M' 317 5 = thr ∧ (thr = 0 → V x) ∧ Fx M M' ∧ (thr = 0 → MS M' a' R') ∧ (thr ≠ 0 → MS M' a R))
theorem mq_mk {y : MethodName} {I : a_I} {As : List Value} {M : Nat → Nat → Int32} {L : Nat → Nat → Int64} {dd : UInt64} {thr : Int32} {V : Value → Prop} {a a' : Row} {R R' : List Row} (h : ∀ Q : a_Q, (∀ x M', TR (i_ret I) x → M' 317 5 = thr → (thr = 0 → V x) → Fx M M' → (thr = 0 → MS M' a' R') → (thr ≠ 0 → MS M' a R) → Q (.inl (some x)) (hS M' L dd)) → AM y I As (hS M L dd) Q) : MQa y I As M L dd thr V a a' R R' := h _ (fun x M' h0 h1 h2 h3 h4 h5 => ⟨x, M', rfl, h0, rfl, h1, h2, h3, h4, h5⟩)
section MODEL7
variable {M : Nat → Nat → Int32} {L : Nat → Nat → Int64} {dd : UInt64} {a a' : Row} {R R' : List Row} {T B : Nat} {thr c : Int32} {V : Value → Prop} {x : Value} {Q : a_Q}
theorem mq_t {rt : Option FieldType} (hq : ∀ x M', TR rt x → M' 317 5 = thr → (thr = 0 → V x) → Fx M M' → (thr = 0 → MS M' a' R') → (thr ≠ 0 → MS M' a R) → Q (.inl (some x)) (hS M' L dd)) (hA : M 318 = a) (hR : MH M R) (hc : c ≠ 0) (ht : thr = c) (ti : TR rt x := by trivial) : Q (.inl (some x)) (hS (mU M 317 (upd (M 317) 5 c)) L dd) := by
  subst ht
  exact hq _ _ ti (by rw [mU_s, upd_eq]) (fun z => absurd z hc) fx_th (fun z => absurd z hc) (fun _ => ⟨by rw [mU_n (by omega), hA]; exact re_r, mh_th hR⟩)
theorem mq_v {rt : Option FieldType} (hq : ∀ x M', TR rt x → M' 317 5 = thr → (thr = 0 → V x) → Fx M M' → (thr = 0 → MS M' a R) → (thr ≠ 0 → MS M' a R) → Q (.inl (some x)) (hS M' L dd)) (hA : M 318 = a) (hR : MH M R) (ht : thr = 0) (hv : V x) (ti : TR rt x := by trivial) : Q (.inl (some x)) (hS (mU M 317 (upd (M 317) 5 0)) L dd) := by
  have h : MS (mU M 317 (upd (M 317) 5 0)) a R := ⟨by rw [mU_n (by omega), hA]; exact re_r, mh_th hR⟩
  exact hq _ _ ti (by rw [mU_s, upd_eq, ht]) (fun _ => hv) fx_th (fun _ => h) (fun _ => h)
/-- users asked about -/
def thU (a : Row) (u w : Int32) : Int32 := if ¬ (0 ≤ u ∧ u < a 4) then 1 else if 0 ≤ w ∧ w ≤ 7 then 0 else 2
def vlU (a : Row) (u : Nat) (w : Int32) : Int32 := if w = 0 then a (10 + u) else if w = 1 then a (22 + u) else if w = 2 then chS a (nI u) else if w = 3 then bse a u else if w = 4 then tkS a u else if w = 5 then sbS a (nI u) (fun k => a (34 + k)) else if w = 6 then sumI (fun j => if jb a j 3 = 1 ∧ bel a (nI u) 12 (jb a j 0) = true then 1 else 0) (nj a) else sumI (fun j => if jb a j 3 = 0 ∧ bel a (nI u) 12 (jb a j 0) = true then 1 else 0) (nj a)
theorem us_n {u : Int32} (hW : WU a) (h : 0 ≤ u ∧ u < a 4) : ∃ k, k < nu a ∧ u = nI k := by
  have h12 := hW.2.2.1
  obtain ⟨j, hj, rfl⟩ := nI_of (x := u) (by rw [Int32.not_lt]; exact h.1)
  have h1 := h.2
  rw [hW.1, nI_ltI hj (by omega)] at h1
  exact ⟨j, h1, rfl⟩
theorem c_X10_user {u w : Int32} (hA : M 318 = a) (hR : MH M R) (hW : WF T a) : MQa yX10_user I_X10_user [.ref 317, .int u, .int w] M L dd (thU a u w) (fun x => ∀ k, k < nu a → u = nI k → x = .int (vlU a k w)) a a R R := by
  have wU := hW.1
  have h12 := wU.2.2.1
  refine mq_mk (fun Q hq => ?_)
  refine a_met (by decide +kernel) rfl rfl (Nat.le_of_ble_eq_true rfl) (by simp [Value.category]) (by decide) rfl ?_
  show AW I_X10_user 0 [.ref 317, .int u, .int w] [] (hS M L dd) 0 0 Q
  refine r_aload_n dX10_user_0 rfl ?_
  refine r_aload_n dX10_user_1 rfl ?_
  refine r_iload_n dX10_user_2 rfl ?_
  refine m_cv1 dX10_user_3 cv_X10_192 (c_X10_isUser hA wU.1 h12) rfl ob_model ⟨_, rfl, rfl⟩ ⟨rfl, rfl⟩ (by decide) (by decide) (Nat.le_of_ble_eq_true rfl) ?_
  refine r_if_ne 13 dX10_user_6 (by decide) (fun h6 => ?_) (fun h6 => ?_)
  · rw [bI_0, Decidable.not_not] at h6
    obtain ⟨k, hk, rfl⟩ := us_n wU h6
    have e : (mU M 317 (upd (M 317) 5 0)) 318 = a := by rw [mU_n (by omega)]; exact hA
    refine r_iload_n dX10_user_13 rfl ?_
    refine r_iconst_0 dX10_user_14 ?_
    refine r_bipush 7 dX10_user_15 (by decide) ?_
    refine m_cs3 dX10_user_17 cs_X10_54 (c_X10_isIn) rfl ⟨rfl, rfl⟩ (by decide) (by decide) (Nat.le_of_ble_eq_true rfl) ?_
    refine r_if_eq 27 dX10_user_20 (by decide) (fun h20 => ?_) (fun h20 => ?_)
    · refine r_iconst_2 dX10_user_27 ?_
      refine m_put 10 5 dX10_user_28 fl_X10_42 (fun r hr => by cases hr; rfl) ob_model (Nat.le_of_ble_eq_true rfl) rfl ?_
      refine r_aload_n dX10_user_31 rfl ?_
      refine m_get 10 5 dX10_user_32 fl_X10_42 ob_model rfl ?_
      refine r_if_le 40 dX10_user_35 (by decide) (fun z => absurd z (by rw [mU_s, upd_eq]; decide)) (fun _ => ?_)
      refine r_iconst_0 dX10_user_38 ?_
      exact r_iret dX10_user_39 rfl (mq_t hq hA hR (by decide) (by rw [bI_0] at h20; rw [thU, if_neg (not_not_intro h6), if_neg h20]))
    · refine r_iconst_0 dX10_user_23 ?_
      refine r_goto 28 dX10_user_24 (by decide) ?_
      refine m_put 10 5 dX10_user_28 fl_X10_42 (fun r hr => by cases hr; rfl) ob_model (Nat.le_of_ble_eq_true rfl) rfl ?_
      refine r_aload_n dX10_user_31 rfl ?_
      refine m_get 10 5 dX10_user_32 fl_X10_42 ob_model rfl ?_
      refine r_if_le 40 dX10_user_35 (by decide) (fun _ => ?_) (fun z => absurd (by rw [mU_s, upd_eq]; decide) z)
      refine r_iload_n dX10_user_40 rfl ?_
      by_cases w41_0 : w = 0
      · refine r_swIn 84 dX10_user_41 (by rw [w41_0]; decide) (by rw [w41_0]; decide) (by rw [w41_0]; rfl) (by decide) ?_
        refine r_aload_n dX10_user_84 rfl ?_
        refine m_get 10 0 dX10_user_85 fl_X10_7 ob_model rfl ?_
        refine r_bipush 10 dX10_user_88 (by decide) ?_
        refine r_iload_n dX10_user_90 rfl ?_
        refine r_iadd dX10_user_91 ?_
        refine m_iald (10 + k) dX10_user_92 ai_a (nI_add 10 k) (by omega) (by first | decide | assumption) ?_
        exact r_iret dX10_user_93 rfl (mq_v hq hA hR (by rw [bI_0, Decidable.not_not] at h20; rw [thU, if_neg (not_not_intro h6), if_pos h20]) (fun k2 hk2 e2 => by rw [nI_eq (by omega) (by omega)] at e2; subst e2; simp_all [vlU]))
      by_cases w41_1 : w = 1
      · refine r_swIn 94 dX10_user_41 (by rw [w41_1]; decide) (by rw [w41_1]; decide) (by rw [w41_1]; rfl) (by decide) ?_
        refine r_aload_n dX10_user_94 rfl ?_
        refine m_get 10 0 dX10_user_95 fl_X10_7 ob_model rfl ?_
        refine r_bipush 22 dX10_user_98 (by decide) ?_
        refine r_iload_n dX10_user_100 rfl ?_
        refine r_iadd dX10_user_101 ?_
        refine m_iald (22 + k) dX10_user_102 ai_a (nI_add 22 k) (by omega) (by first | decide | assumption) ?_
        exact r_iret dX10_user_103 rfl (mq_v hq hA hR (by rw [bI_0, Decidable.not_not] at h20; rw [thU, if_neg (not_not_intro h6), if_pos h20]) (fun k2 hk2 e2 => by rw [nI_eq (by omega) (by omega)] at e2; subst e2; simp_all [vlU]))
      by_cases w41_2 : w = 2
      · refine r_swIn 104 dX10_user_41 (by rw [w41_2]; decide) (by rw [w41_2]; decide) (by rw [w41_2]; rfl) (by decide) ?_
        refine r_aload_n dX10_user_104 rfl ?_
        refine r_iload_n dX10_user_105 rfl ?_
        refine m_cv1 dX10_user_106 cv_X10_172 (c_X10_childrenOf e wU.1 h12) rfl ob_model ⟨_, rfl, rfl⟩ ⟨rfl, rfl⟩ (by decide) (by decide) (Nat.le_of_ble_eq_true rfl) ?_
        exact r_iret dX10_user_109 rfl (mq_v hq hA hR (by rw [bI_0, Decidable.not_not] at h20; rw [thU, if_neg (not_not_intro h6), if_pos h20]) (fun k2 hk2 e2 => by rw [nI_eq (by omega) (by omega)] at e2; subst e2; simp_all [vlU]))
      by_cases w41_3 : w = 3
      · refine r_swIn 110 dX10_user_41 (by rw [w41_3]; decide) (by rw [w41_3]; decide) (by rw [w41_3]; rfl) (by decide) ?_
        refine r_aload_n dX10_user_110 rfl ?_
        refine r_iload_n dX10_user_111 rfl ?_
        refine m_cv1 dX10_user_112 (cv_X10_182 _) (c_X10_baseOf e wU 14 k hk (by omega)) rfl ob_model ⟨_, rfl, rfl⟩ ⟨rfl, rfl⟩ (by decide) (by decide) (Nat.le_of_ble_eq_true rfl) ?_
        exact r_iret dX10_user_115 rfl (mq_v hq hA hR (by rw [bI_0, Decidable.not_not] at h20; rw [thU, if_neg (not_not_intro h6), if_pos h20]) (fun k2 hk2 e2 => by rw [nI_eq (by omega) (by omega)] at e2; subst e2; simp_all [vlU]))
      by_cases w41_4 : w = 4
      · refine r_swIn 116 dX10_user_41 (by rw [w41_4]; decide) (by rw [w41_4]; decide) (by rw [w41_4]; rfl) (by decide) ?_
        refine r_aload_n dX10_user_116 rfl ?_
        refine r_iload_n dX10_user_117 rfl ?_
        refine m_cv1 dX10_user_118 cv_X10_195 (c_X10_ticketsOf e wU hW.2.2.2.2.1 hk) rfl ob_model ⟨_, rfl, rfl⟩ ⟨rfl, rfl⟩ (by decide) (by decide) (Nat.le_of_ble_eq_true rfl) ?_
        exact r_iret dX10_user_121 rfl (mq_v hq hA hR (by rw [bI_0, Decidable.not_not] at h20; rw [thU, if_neg (not_not_intro h6), if_pos h20]) (fun k2 hk2 e2 => by rw [nI_eq (by omega) (by omega)] at e2; subst e2; simp_all [vlU]))
      by_cases w41_5 : w = 5
      · refine r_swIn 122 dX10_user_41 (by rw [w41_5]; decide) (by rw [w41_5]; decide) (by rw [w41_5]; rfl) (by decide) ?_
        refine r_aload_n dX10_user_122 rfl ?_
        refine r_iload_n dX10_user_123 rfl ?_
        refine m_cv1 dX10_user_124 cv_X10_198 (c_X10_useOf e wU (nI_pos' (by omega))) rfl ob_model ⟨_, rfl, rfl⟩ ⟨rfl, rfl⟩ (by decide) (by decide) (Nat.le_of_ble_eq_true rfl) ?_
        exact r_iret dX10_user_127 rfl (mq_v hq hA hR (by rw [bI_0, Decidable.not_not] at h20; rw [thU, if_neg (not_not_intro h6), if_pos h20]) (fun k2 hk2 e2 => by rw [nI_eq (by omega) (by omega)] at e2; subst e2; simp_all [vlU]))
      by_cases w41_6 : w = 6
      · refine r_swIn 128 dX10_user_41 (by rw [w41_6]; decide) (by rw [w41_6]; decide) (by rw [w41_6]; rfl) (by decide) ?_
        refine r_aload_n dX10_user_128 rfl ?_
        refine r_iload_n dX10_user_129 rfl ?_
        refine r_iconst_1 dX10_user_130 ?_
        refine m_cv2 dX10_user_131 cv_X10_201 (c_X10_jobsOf e wU hW.2.2.2.1 (nI_pos' (by omega))) rfl ob_model ⟨_, rfl, rfl⟩ ⟨rfl, rfl⟩ (by decide) (by decide) (Nat.le_of_ble_eq_true rfl) ?_
        exact r_iret dX10_user_134 rfl (mq_v hq hA hR (by rw [bI_0, Decidable.not_not] at h20; rw [thU, if_neg (not_not_intro h6), if_pos h20]) (fun k2 hk2 e2 => by rw [nI_eq (by omega) (by omega)] at e2; subst e2; simp_all [vlU]))
      refine r_swOut 135 dX10_user_41 (by have e0 : (w).toInt ≠ 0 := fun z => w41_0 (Int32.toInt_inj.mp (z.trans (by decide))); have e1 : (w).toInt ≠ 1 := fun z => w41_1 (Int32.toInt_inj.mp (z.trans (by decide))); have e2 : (w).toInt ≠ 2 := fun z => w41_2 (Int32.toInt_inj.mp (z.trans (by decide))); have e3 : (w).toInt ≠ 3 := fun z => w41_3 (Int32.toInt_inj.mp (z.trans (by decide))); have e4 : (w).toInt ≠ 4 := fun z => w41_4 (Int32.toInt_inj.mp (z.trans (by decide))); have e5 : (w).toInt ≠ 5 := fun z => w41_5 (Int32.toInt_inj.mp (z.trans (by decide))); have e6 : (w).toInt ≠ 6 := fun z => w41_6 (Int32.toInt_inj.mp (z.trans (by decide))); omega) (by decide) ?_
      refine r_aload_n dX10_user_135 rfl ?_
      refine r_iload_n dX10_user_136 rfl ?_
      refine r_iconst_0 dX10_user_137 ?_
      refine m_cv2 dX10_user_138 cv_X10_201 (c_X10_jobsOf e wU hW.2.2.2.1 (nI_pos' (by omega))) rfl ob_model ⟨_, rfl, rfl⟩ ⟨rfl, rfl⟩ (by decide) (by decide) (Nat.le_of_ble_eq_true rfl) ?_
      exact r_iret dX10_user_141 rfl (mq_v hq hA hR (by rw [bI_0, Decidable.not_not] at h20; rw [thU, if_neg (not_not_intro h6), if_pos h20]) (fun k2 hk2 e2 => by rw [nI_eq (by omega) (by omega)] at e2; subst e2; simp_all [vlU]))
  · refine r_iconst_1 dX10_user_9 ?_
    refine r_goto 28 dX10_user_10 (by decide) ?_
    refine m_put 10 5 dX10_user_28 fl_X10_42 (fun r hr => by cases hr; rfl) ob_model (Nat.le_of_ble_eq_true rfl) rfl ?_
    refine r_aload_n dX10_user_31 rfl ?_
    refine m_get 10 5 dX10_user_32 fl_X10_42 ob_model rfl ?_
    refine r_if_le 40 dX10_user_35 (by decide) (fun z => absurd z (by rw [mU_s, upd_eq]; decide)) (fun _ => ?_)
    refine r_iconst_0 dX10_user_38 ?_
    exact r_iret dX10_user_39 rfl (mq_t hq hA hR (by decide) (by rw [bI_0] at h6; rw [thU, if_pos h6]))
end MODEL7
