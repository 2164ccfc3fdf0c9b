/-! THE CLASS'S OWN CALLS: what they answer, what they throw -/
def exL (l : List String) (t : Int32) : String := l.getD (zN t - 1) ex_I
def XQa (y : MethodName) (I : a_I) (As : List Value) (M : Nat → Nat → Int32) (L : Nat → Nat → Int64) (dd : UInt64) (thr : Int32) (l : List String) (V : Value → Prop) (a a' : Row) (R R' : List Row) : Prop :=
  AM y I As (hS M L dd) (fun o h' => ∃ M' L', h' = hS M' L' dd ∧ Gx M M' ∧ GL L L' ∧ ((thr = 0 ∧ (∃ x, o = .inl (some x) ∧ V x) ∧ CS M' a' R') ∨ (thr ≠ 0 ∧ o = .inr (exL l thr) ∧ CS M' a R)))
theorem xq_mk {y : MethodName} {I : a_I} {As : List Value} {M : Nat → Nat → Int32} {L : Nat → Nat → Int64} {dd : UInt64} {thr : Int32} {l : List String} {V : Value → Prop} {a a' : Row} {R R' : List Row}
    (h : ∀ Q : a_Q, (∀ x M' L', thr = 0 → V x → Gx M M' → GL L L' → CS M' a' R' → Q (.inl (some x)) (hS M' L' dd)) → (∀ t E M' L', thr = t → t ≠ 0 → exL l t = E → Gx M M' → GL L L' → CS M' a R → Q (.inr E) (hS M' L' dd)) → AM y I As (hS M L dd) Q) : XQa y I As M L dd thr l V a a' R R' :=
  h _ (fun x M' L' h1 h2 h3 h4 h5 => ⟨M', L', rfl, h3, h4, Or.inl ⟨h1, ⟨x, rfl, h2⟩, h5⟩⟩) (fun t E M' L' h1 h2 h3 h4 h5 h6 => ⟨M', L', rfl, h4, h5, Or.inr ⟨by rw [h1]; exact h2, by rw [h1, h3], h6⟩⟩)
theorem sumI_one {f : Nat → Int32} {n j : Nat} (hj : j < n) (h : ∀ k, k < n → k ≠ j → f k = 0) : sumI f n = f j := by
  rw [sumI_ch (f := fun _ => 0) (g := f) hj (fun k hk hne => h k hk hne), sumI_0, Int32.sub_zero, Int32.zero_add]
section X9Q
variable {M : Nat → Nat → Int32} {L : Nat → Nat → Int64} {dd : UInt64} {a : Row} {R : List Row} {T : Nat} {Q : a_Q}
theorem cs_sv {M' : Nat → Nat → Int32} (h : Fr (1 + 24) (1 + 28) M M') (hC : CS M a R) : CS M' a R := ⟨qp_f2 h hC.1, hr_f h (by omega) hC.2⟩
/-- jobs below a user, counted by users or by jobs -/
theorem jobs_sw (wU : WU a) (wJ : WJ a) (t s : Int32) : ∀ n, n ≤ nj a → sumI (fun u => if lfS a u ∧ bel a t 12 (nI u) = true then sumI (fun j => if jb a j 3 = s ∧ jb a j 0 = nI u then 1 else 0) n else 0) (nu a) = sumI (fun j => if jb a j 3 = s ∧ bel a t 12 (jb a j 0) = true then 1 else 0) n := by
  have h12 := wU.2.2.1
  intro n
  induction n with
  | zero =>
    intro _
    rw [sumI_cong (g := fun _ => 0) (fun k hk => by simp only [sumI]; split <;> rfl), sumI_0]; rfl
  | succ n ih =>
    intro hn
    obtain ⟨v, hv, ev, lv⟩ := wJ.2.2.1 n (by omega)
    rw [sumI_cong (g := fun u => (if lfS a u ∧ bel a t 12 (nI u) = true then sumI (fun j => if jb a j 3 = s ∧ jb a j 0 = nI u then 1 else 0) n else 0) + (if lfS a u ∧ bel a t 12 (nI u) = true then (if jb a n 3 = s ∧ jb a n 0 = nI u then 1 else 0) else 0)) (fun k hk => by
      simp only [sumI]
      by_cases z : lfS a k ∧ bel a t 12 (nI k) = true
      · rw [if_pos z, if_pos z, if_pos z]
      · rw [if_neg z, if_neg z, if_neg z, Int32.add_zero]), sumI_add, ih (by omega), sumI]
    congr 1
    rw [sumI_one hv (fun k hk hne => by
      by_cases z : lfS a k ∧ bel a t 12 (nI k) = true
      · rw [if_pos z, if_neg (fun y => by rw [ev, nI_eq (by omega) (by omega)] at y; exact hne y.2.symm)]
      · rw [if_neg z])]
    rw [ev]
    by_cases z : bel a t 12 (nI v) = true
    · rw [if_pos ⟨lv, z⟩]; simp [z]
    · rw [if_neg (fun y => z y.2), if_neg (fun y => z y.2)]
theorem c_X9_needUser {u : Int32} (hT : M 2 0 = a 4) : NE yX9_needUser I_X9_needUser [.ref 0, .int u] M L dd (0 ≤ u ∧ u < a 4) ex_I := by
  refine ne_mk (fun Q hq hx => ?_)
  refine a_met (by decide +kernel) rfl rfl (Nat.le_of_ble_eq_true rfl) (by simp [Value.category]) (by decide) rfl ?_
  show AW I_X9_needUser 0 [.ref 0, .int u] [] (hS M L dd) 0 0 Q
  refine r_aload_n dX9_needUser_0 rfl ?_
  refine m_get 9 0 dX9_needUser_1 fl_X9_10 ob_x rfl ?_
  refine m_get 5 0 dX9_needUser_4 fl_X9_77 (ob_place pl1) rfl ?_
  refine r_iload_n dX9_needUser_7 rfl ?_
  refine m_cv1 dX9_needUser_8 cv_X9_361 (c_X8_has pl1) rfl (ob_tree pl1) ⟨_, rfl, rfl⟩ ⟨rfl, rfl⟩ (by decide) (by decide) (Nat.le_of_ble_eq_true rfl) ?_
  refine r_if_ne 25 dX9_needUser_11 (by decide) (fun h11 => ?_) (fun h11 => ?_)
  · rw [bI_0, Decidable.not_not] at h11
    exact r_vret dX9_needUser_25 rfl (hq (by rw [← hT]; exact h11))
  · rw [bI_0] at h11
    exact r_throw th_X9_needUser_14 rfl (by decide) (by decide) (Nat.le_of_ble_eq_true rfl) (Nat.le_of_ble_eq_true rfl) (hx (by rw [← hT]; exact h11))
theorem c_X9_needRange {v lo hi : Int32} : NE yX9_needRange I_X9_needRange [.int v, .int lo, .int hi] M L dd (lo ≤ v ∧ v ≤ hi) ex_A := by
  refine ne_mk (fun Q hq hx => ?_)
  refine a_met (by decide +kernel) rfl rfl (Nat.le_of_ble_eq_true rfl) (by simp [Value.category]) (by decide) rfl ?_
  show AW I_X9_needRange 0 [.int v, .int lo, .int hi] [] (hS M L dd) 0 0 Q
  refine r_iload_n dX9_needRange_0 rfl ?_
  refine r_iload_n dX9_needRange_1 rfl ?_
  refine r_icmp_lt 10 dX9_needRange_2 (by decide) (fun h2 => ?_) (fun h2 => ?_)
  · exact r_throw th_X9_needRange_10 rfl (by decide) (by decide) (Nat.le_of_ble_eq_true rfl) (Nat.le_of_ble_eq_true rfl) (hx (by first | exact fun z => Int32.not_le.mpr h2 z.1 | exact fun z => h7 z.2))
  · refine r_iload_n dX9_needRange_5 rfl ?_
    refine r_iload_n dX9_needRange_6 rfl ?_
    refine r_icmp_le 21 dX9_needRange_7 (by decide) (fun h7 => ?_) (fun h7 => ?_)
    · exact r_vret dX9_needRange_21 rfl (hq ⟨Int32.not_lt.mp h2, h7⟩)
    · exact r_throw th_X9_needRange_10 rfl (by decide) (by decide) (Nat.le_of_ble_eq_true rfl) (Nat.le_of_ble_eq_true rfl) (hx (by first | exact fun z => Int32.not_le.mpr h2 z.1 | exact fun z => h7 z.2))
theorem c_X9_needLeaf {u : Nat} (hT : QT M 1 a) (hW : WU a) (hu : u < nu a) : NE yX9_needLeaf I_X9_needLeaf [.ref 0, .int (nI u)] M L dd (lfS a u) ex_S := by
  refine ne_mk (fun Q hq hx => ?_)
  refine a_met (by decide +kernel) rfl rfl (Nat.le_of_ble_eq_true rfl) (by simp [Value.category]) (by decide) rfl ?_
  show AW I_X9_needLeaf 0 [.ref 0, .int (nI u)] [] (hS M L dd) 0 0 Q
  refine r_aload_n dX9_needLeaf_0 rfl ?_
  refine m_get 9 0 dX9_needLeaf_1 fl_X9_10 ob_x rfl ?_
  refine m_get 5 0 dX9_needLeaf_4 fl_X9_77 (ob_place pl1) rfl ?_
  refine r_iload_n dX9_needLeaf_7 rfl ?_
  refine m_cv1 dX9_needLeaf_8 cv_X9_326 (c_X8_isLeaf pl1 hT hW hu) rfl (ob_tree pl1) ⟨_, rfl, rfl⟩ ⟨rfl, rfl⟩ (by decide) (by decide) (Nat.le_of_ble_eq_true rfl) ?_
  refine r_if_ne 25 dX9_needLeaf_11 (by decide) (fun h11 => ?_) (fun h11 => ?_)
  · rw [bI_0, Decidable.not_not] at h11
    exact r_vret dX9_needLeaf_25 rfl (hq h11)
  · rw [bI_0] at h11
    exact r_throw th_X9_needLeaf_14 rfl (by decide) (by decide) (Nat.le_of_ble_eq_true rfl) (Nat.le_of_ble_eq_true rfl) (hx h11)
theorem c_X9_needMachine {u : Int32} (hT : M 13 0 = a 5) : NE yX9_needMachine I_X9_needMachine [.ref 0, .int u] M L dd (0 ≤ u ∧ u < a 5) ex_I := by
  refine ne_mk (fun Q hq hx => ?_)
  refine a_met (by decide +kernel) rfl rfl (Nat.le_of_ble_eq_true rfl) (by simp [Value.category]) (by decide) rfl ?_
  show AW I_X9_needMachine 0 [.ref 0, .int u] [] (hS M L dd) 0 0 Q
  refine r_aload_n dX9_needMachine_0 rfl ?_
  refine m_get 9 0 dX9_needMachine_1 fl_X9_10 ob_x rfl ?_
  refine m_get 5 2 dX9_needMachine_4 fl_X9_89 (ob_place pl1) rfl ?_
  refine r_iload_n dX9_needMachine_7 rfl ?_
  refine m_cv1 dX9_needMachine_8 cv_X9_366 (c_X3_has pl1) rfl (ob_machines pl1) ⟨_, rfl, rfl⟩ ⟨rfl, rfl⟩ (by decide) (by decide) (Nat.le_of_ble_eq_true rfl) ?_
  refine r_if_ne 25 dX9_needMachine_11 (by decide) (fun h11 => ?_) (fun h11 => ?_)
  · rw [bI_0, Decidable.not_not] at h11
    exact r_vret dX9_needMachine_25 rfl (hq (by rw [← hT]; exact h11))
  · rw [bI_0] at h11
    exact r_throw th_X9_needMachine_14 rfl (by decide) (by decide) (Nat.le_of_ble_eq_true rfl) (Nat.le_of_ble_eq_true rfl) (hx (by rw [← hT]; exact h11))
theorem c_X9_needJob {u : Int32} (hT : M 16 0 = a 6) : NE yX9_needJob I_X9_needJob [.ref 0, .int u] M L dd (0 ≤ u ∧ u < a 6) ex_I := by
  refine ne_mk (fun Q hq hx => ?_)
  refine a_met (by decide +kernel) rfl rfl (Nat.le_of_ble_eq_true rfl) (by simp [Value.category]) (by decide) rfl ?_
  show AW I_X9_needJob 0 [.ref 0, .int u] [] (hS M L dd) 0 0 Q
  refine r_aload_n dX9_needJob_0 rfl ?_
  refine m_get 9 0 dX9_needJob_1 fl_X9_10 ob_x rfl ?_
  refine m_get 5 3 dX9_needJob_4 fl_X9_96 (ob_place pl1) rfl ?_
  refine r_iload_n dX9_needJob_7 rfl ?_
  refine m_cv1 dX9_needJob_8 cv_X9_369 (c_X1_has pl1) rfl (ob_jobs pl1) ⟨_, rfl, rfl⟩ ⟨rfl, rfl⟩ (by decide) (by decide) (Nat.le_of_ble_eq_true rfl) ?_
  refine r_if_ne 25 dX9_needJob_11 (by decide) (fun h11 => ?_) (fun h11 => ?_)
  · rw [bI_0, Decidable.not_not] at h11
    exact r_vret dX9_needJob_25 rfl (hq (by rw [← hT]; exact h11))
  · rw [bI_0] at h11
    exact r_throw th_X9_needJob_14 rfl (by decide) (by decide) (Nat.le_of_ble_eq_true rfl) (Nat.le_of_ble_eq_true rfl) (hx (by rw [← hT]; exact h11))
theorem c_X9_needOpen {j : Nat} (hT : QJ M 1 a) (wJ : WJ a) (hj : j < nj a) : NE yX9_needOpen I_X9_needOpen [.ref 0, .int (nI j)] M L dd (jb a j 3 = 0 ∨ jb a j 3 = 1) ex_S := by
  refine ne_mk (fun Q hq hx => ?_)
  refine a_met (by decide +kernel) rfl rfl (Nat.le_of_ble_eq_true rfl) (by simp [Value.category]) (by decide) rfl ?_
  show AW I_X9_needOpen 0 [.ref 0, .int (nI j)] [] (hS M L dd) 0 0 Q
  refine r_aload_n dX9_needOpen_0 rfl ?_
  refine m_get 9 0 dX9_needOpen_1 fl_X9_10 ob_x rfl ?_
  refine m_get 5 3 dX9_needOpen_4 fl_X9_96 (ob_place pl1) rfl ?_
  refine r_iload_n dX9_needOpen_7 rfl ?_
  refine m_cv1 dX9_needOpen_8 cv_X9_372 (c_X1_isOpen pl1 hT wJ.1 wJ.2.1 hj) rfl (ob_jobs pl1) ⟨_, rfl, rfl⟩ ⟨rfl, rfl⟩ (by decide) (by decide) (Nat.le_of_ble_eq_true rfl) ?_
  refine r_if_ne 25 dX9_needOpen_11 (by decide) (fun h11 => ?_) (fun h11 => ?_)
  · rw [bI_0, Decidable.not_not] at h11
    exact r_vret dX9_needOpen_25 rfl (hq h11)
  · rw [bI_0] at h11
    exact r_throw th_X9_needOpen_14 rfl (by decide) (by decide) (Nat.le_of_ble_eq_true rfl) (Nat.le_of_ble_eq_true rfl) (hx h11)
theorem c_X9_user {u w : Int32} (hC : CS M a R) (hW : WF T a) : XQa yX9_user I_X9_user [.ref 0, .int u, .int w] M L dd (thU a u w) [ex_I, ex_A] (fun x => ∀ k, k < nu a → u = nI k → x = .int (vlU a k w)) a a R R := by
  have hQ := hC.1
  have wU := hW.1
  have wJ := hW.2.2.2.1
  have h12 := wU.2.2.1
  refine xq_mk (fun Q hq hx => ?_)
  refine a_met (by decide +kernel) rfl rfl (Nat.le_of_ble_eq_true rfl) (by simp [Value.category]) (by decide) rfl ?_
  show AW I_X9_user 0 [.ref 0, .int u, .int w, .null] [] (hS M L dd) 0 0 Q
  refine r_aload_n dX9_user_0 rfl ?_
  refine r_iload_n dX9_user_1 rfl ?_
  refine m_nv1 dX9_user_2 cv_X9_133 (c_X9_needUser hQ.1.1) ob_x ⟨_, rfl, rfl⟩ (by decide) (by decide) (Nat.le_of_ble_eq_true rfl) (Nat.le_of_ble_eq_true rfl) (Nat.le_of_ble_eq_true rfl) rfl (fun hp => hx 1 ex_I _ _ (by rw [thU, if_pos hp]) (by decide) rfl gx_r gl_r hC) (fun hp => ?_)
  obtain ⟨k, hk, rfl⟩ := ix_n wU.1 (by omega) hp
  refine r_aload_n dX9_user_5 rfl ?_
  refine m_get 9 0 dX9_user_6 fl_X9_10 ob_x rfl ?_
  refine m_get 5 0 dX9_user_9 fl_X9_77 (ob_place pl1) rfl ?_
  refine s_astore_n 3 dX9_user_12 (by decide) rfl rfl ?_
  refine r_aload_n dX9_user_13 rfl ?_
  refine m_get 9 0 dX9_user_14 fl_X9_10 ob_x rfl ?_
  refine m_get 5 4 dX9_user_17 fl_X9_136 (ob_place pl1) rfl ?_
  refine r_aload_n dX9_user_20 rfl ?_
  refine m_get 9 0 dX9_user_21 fl_X9_10 ob_x rfl ?_
  refine m_pv1 dX9_user_24 cv_X9_140 (c_X6_survey pl1 hQ hW) (ob_scale pl1) ⟨_, rfl, rfl⟩ ⟨rfl, rfl⟩ (by decide) (by decide) (Nat.le_of_ble_eq_true rfl) (fun M1 L1 ⟨x1, x2, x3, x4⟩ => ?_)
  refine r_iload_n dX9_user_27 rfl ?_
  have hC1 := cs_sv x1 hC
  have hQ1 := hC1.1
  have hT := hQ1.1
  have fin : ∀ x : Int32, 0 ≤ w ∧ w ≤ 7 → x = vlU a k w → Q (.inl (some (.int x))) (hS M1 L1 dd) := fun x hw hxx => hq _ _ _ (by rw [thU, if_neg (not_not_intro hp), if_pos hw]) (fun k2 hk2 e2 => by rw [nI_eq (by omega) (by omega)] at e2; subst e2; rw [hxx]) (gx_f x1 (by omega)) (gl_f x2 (by omega)) hC1
  by_cases w28_0 : w = 0
  · refine r_swIn 76 dX9_user_28 (by rw [w28_0]; decide) (by rw [w28_0]; decide) (by rw [w28_0]; rfl) (by decide) ?_
    refine r_aload_n dX9_user_76 rfl ?_
    refine m_get 8 1 dX9_user_77 fl_X9_145 (ob_tree pl1) rfl ?_
    refine r_iload_n dX9_user_80 rfl ?_
    refine m_iald k dX9_user_81 (ai_parent pl1) rfl (by omega) (by first | decide | assumption) ?_
    exact r_iret dX9_user_82 rfl (fin _ (by rw [w28_0]; decide) (by rw [vlU, if_pos w28_0]; exact (hT.2 k hk).1))
  by_cases w28_1 : w = 1
  · refine r_swIn 83 dX9_user_28 (by rw [w28_1]; decide) (by rw [w28_1]; decide) (by rw [w28_1]; rfl) (by decide) ?_
    refine r_aload_n dX9_user_83 rfl ?_
    refine m_get 8 2 dX9_user_84 fl_X9_148 (ob_tree pl1) rfl ?_
    refine r_iload_n dX9_user_87 rfl ?_
    refine m_iald _ dX9_user_88 (ai_shares pl1) (by first | rfl | assumption) (by omega) (by first | decide | assumption) ?_
    exact r_iret dX9_user_89 rfl (fin _ (by rw [w28_1]; decide) (by rw [vlU, if_neg w28_0, if_pos w28_1]; exact (hT.2 k hk).2.1))
  by_cases w28_2 : w = 2
  · refine r_swIn 90 dX9_user_28 (by rw [w28_2]; decide) (by rw [w28_2]; decide) (by rw [w28_2]; rfl) (by decide) ?_
    refine r_aload_n dX9_user_90 rfl ?_
    refine r_iload_n dX9_user_91 rfl ?_
    refine m_cv1 dX9_user_92 cv_X9_151 (c_X8_childrenOf pl1 hT wU (nI_pos' (by omega))) rfl (ob_tree pl1) ⟨_, rfl, rfl⟩ ⟨rfl, rfl⟩ (by decide) (by decide) (Nat.le_of_ble_eq_true rfl) ?_
    exact r_iret dX9_user_95 rfl (fin _ (by rw [w28_2]; decide) (by rw [vlU, if_neg w28_0, if_neg w28_1, if_pos w28_2]))
  by_cases w28_3 : w = 3
  · refine r_swIn 96 dX9_user_28 (by rw [w28_3]; decide) (by rw [w28_3]; decide) (by rw [w28_3]; rfl) (by decide) ?_
    refine r_aload_n dX9_user_96 rfl ?_
    refine m_get 8 4 dX9_user_97 fl_X9_154 (ob_tree pl1) rfl ?_
    refine r_iload_n dX9_user_100 rfl ?_
    refine m_iald k dX9_user_101 (ai_base pl1) rfl (by omega) (by first | decide | assumption) ?_
    exact r_iret dX9_user_102 rfl (fin _ (by rw [w28_3]; decide) (by rw [vlU, if_neg w28_0, if_neg w28_1, if_neg w28_2, if_pos w28_3]; exact hQ1.2.1 k hk))
  by_cases w28_4 : w = 4
  · refine r_swIn 103 dX9_user_28 (by rw [w28_4]; decide) (by rw [w28_4]; decide) (by rw [w28_4]; rfl) (by decide) ?_
    refine r_aload_n dX9_user_103 rfl ?_
    refine m_get 9 0 dX9_user_104 fl_X9_10 ob_x rfl ?_
    refine m_get 5 4 dX9_user_107 fl_X9_136 (ob_place pl1) rfl ?_
    refine m_get 6 2 dX9_user_110 fl_X9_157 (ob_scale pl1) rfl ?_
    refine r_iload_n dX9_user_113 rfl ?_
    refine m_iald k dX9_user_114 (ai_tickets pl1) rfl (by omega) (by first | decide | assumption) ?_
    exact r_iret dX9_user_115 rfl (fin _ (by rw [w28_4]; decide) (by rw [vlU, if_neg w28_0, if_neg w28_1, if_neg w28_2, if_neg w28_3, if_pos w28_4]; exact (x3.1 k hk).2.1))
  by_cases w28_5 : w = 5
  · refine r_swIn 116 dX9_user_28 (by rw [w28_5]; decide) (by rw [w28_5]; decide) (by rw [w28_5]; rfl) (by decide) ?_
    refine r_aload_n dX9_user_116 rfl ?_
    refine r_iload_n dX9_user_117 rfl ?_
    refine r_aload_n dX9_user_118 rfl ?_
    refine m_get 8 3 dX9_user_119 fl_X9_160 (ob_tree pl1) rfl ?_
    refine m_cv2 dX9_user_122 cv_X9_163 (c_X8_sumBelow (r := fun k => a (34 + k)) pl1 hT wU (ai_use pl1) h12 (by decide) (fun k hk => (hT.2 k hk).2.2)) rfl (ob_tree pl1) ⟨_, rfl, rfl⟩ ⟨rfl, rfl⟩ (by decide) (by decide) (Nat.le_of_ble_eq_true rfl) ?_
    exact r_iret dX9_user_125 rfl (fin _ (by rw [w28_5]; decide) (by rw [vlU, if_neg w28_0, if_neg w28_1, if_neg w28_2, if_neg w28_3, if_neg w28_4, if_pos w28_5]))
  by_cases w28_6 : w = 6
  · refine r_swIn 126 dX9_user_28 (by rw [w28_6]; decide) (by rw [w28_6]; decide) (by rw [w28_6]; rfl) (by decide) ?_
    refine r_aload_n dX9_user_126 rfl ?_
    refine r_iload_n dX9_user_127 rfl ?_
    refine r_aload_n dX9_user_128 rfl ?_
    refine m_get 9 0 dX9_user_129 fl_X9_10 ob_x rfl ?_
    refine m_get 5 4 dX9_user_132 fl_X9_136 (ob_place pl1) rfl ?_
    refine m_get 6 0 dX9_user_135 fl_X9_167 (ob_scale pl1) rfl ?_
    refine m_cv2 dX9_user_138 cv_X9_163 (c_X8_sumBelow (r := fun k => loS a k) pl1 hT wU (ai_load pl1) h12 (by decide) (fun k hk => (x3.1 k hk).1)) rfl (ob_tree pl1) ⟨_, rfl, rfl⟩ ⟨rfl, rfl⟩ (by decide) (by decide) (Nat.le_of_ble_eq_true rfl) ?_
    exact r_iret dX9_user_141 rfl (fin _ (by rw [w28_6]; decide) (by rw [vlU, if_neg w28_0, if_neg w28_1, if_neg w28_2, if_neg w28_3, if_neg w28_4, if_neg w28_5, if_pos w28_6]; exact jobs_sw wU wJ _ 1 _ (Nat.le_refl _)))
  by_cases w28_7 : w = 7
  · refine r_swIn 142 dX9_user_28 (by rw [w28_7]; decide) (by rw [w28_7]; decide) (by rw [w28_7]; rfl) (by decide) ?_
    refine r_aload_n dX9_user_142 rfl ?_
    refine r_iload_n dX9_user_143 rfl ?_
    refine r_aload_n dX9_user_144 rfl ?_
    refine m_get 9 0 dX9_user_145 fl_X9_10 ob_x rfl ?_
    refine m_get 5 4 dX9_user_148 fl_X9_136 (ob_place pl1) rfl ?_
    refine m_get 6 1 dX9_user_151 fl_X9_170 (ob_scale pl1) rfl ?_
    refine m_cv2 dX9_user_154 cv_X9_163 (c_X8_sumBelow (r := fun k => waS a k) pl1 hT wU (ai_waiting pl1) h12 (by decide) (fun k hk => x4 k hk)) rfl (ob_tree pl1) ⟨_, rfl, rfl⟩ ⟨rfl, rfl⟩ (by decide) (by decide) (Nat.le_of_ble_eq_true rfl) ?_
    exact r_iret dX9_user_157 rfl (fin _ (by rw [w28_7]; decide) (by rw [vlU, if_neg w28_0, if_neg w28_1, if_neg w28_2, if_neg w28_3, if_neg w28_4, if_neg w28_5, if_neg w28_6]; exact jobs_sw wU wJ _ 0 _ (Nat.le_refl _)))
  refine r_swOut 158 dX9_user_28 (by have e0 : (w).toInt ≠ 0 := fun z => w28_0 (Int32.toInt_inj.mp (z.trans (by decide))); have e1 : (w).toInt ≠ 1 := fun z => w28_1 (Int32.toInt_inj.mp (z.trans (by decide))); have e2 : (w).toInt ≠ 2 := fun z => w28_2 (Int32.toInt_inj.mp (z.trans (by decide))); have e3 : (w).toInt ≠ 3 := fun z => w28_3 (Int32.toInt_inj.mp (z.trans (by decide))); have e4 : (w).toInt ≠ 4 := fun z => w28_4 (Int32.toInt_inj.mp (z.trans (by decide))); have e5 : (w).toInt ≠ 5 := fun z => w28_5 (Int32.toInt_inj.mp (z.trans (by decide))); have e6 : (w).toInt ≠ 6 := fun z => w28_6 (Int32.toInt_inj.mp (z.trans (by decide))); have e7 : (w).toInt ≠ 7 := fun z => w28_7 (Int32.toInt_inj.mp (z.trans (by decide))); omega) (by decide) ?_
  exact r_throw th_X9_user_158 rfl (by decide) (by decide) (Nat.le_of_ble_eq_true rfl) (Nat.le_of_ble_eq_true rfl) (hx 2 ex_A _ _ (by rw [thU, if_neg (not_not_intro hp), if_neg (fun z => by obtain ⟨k9, hk9, e9⟩ := ix_c 7 (by omega) z; exact match k9, hk9, e9 with | 0, _, e9 => w28_0 e9 | 1, _, e9 => w28_1 e9 | 2, _, e9 => w28_2 e9 | 3, _, e9 => w28_3 e9 | 4, _, e9 => w28_4 e9 | 5, _, e9 => w28_5 e9 | 6, _, e9 => w28_6 e9 | 7, _, e9 => w28_7 e9 | k9 + 8, h9, _ => absurd h9 (by omega))]) (by decide) rfl (gx_f x1 (by omega)) (gl_f x2 (by omega)) hC1)
end X9Q
