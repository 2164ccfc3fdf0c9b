section MODEL13
variable {M : Nat → Nat → Int32} {L : Nat → Nat → Int64} {dd : UInt64} {a a' : Row} {R R' : List Row} {T B : Nat} {thr c : Int32} {V : Value → Prop} {x : Value} {Q : a_Q}
theorem lg_eq0 {x y : Int64} : lg_cmp x y = 0 ↔ x = y := by
  unfold lg_cmp
  by_cases h : x > y
  · rw [if_pos h]
    exact ⟨fun z => absurd z (by decide), fun z => by subst z; rw [gt_iff_lt, Int64.lt_iff_toInt_lt] at h; omega⟩
  · rw [if_neg h]
    by_cases h2 : x = y
    · simp [h2]
    · simp [h2]
def thR (a : Row) (r : Int32) : Int32 := if lkS a r = -1 then 1 else 0
theorem c_X10_ranked {r : Int32} (hA : M 318 = a) (hR : MH M R) (hW : WF T a) : MQa yX10_ranked I_X10_ranked [.ref 317, .int r] M L dd (thR a r) (fun x => x = .int (lkS a r)) a a R R := by
  have wU := hW.1
  have wJ := hW.2.2.2.1
  have h12 := wU.2.2.1
  have h30 := wJ.2.1
  have hx := hW.2.1.1
  refine mq_mk (fun Q hq => ?_)
  refine a_met (by decide +kernel) rfl rfl (Nat.le_of_ble_eq_true rfl) (by simp [Value.category]) (by decide) rfl ?_
  show AW I_X10_ranked 0 [.ref 317, .int r, .null, .null, .null, .null, .null] [] (hS M L dd) 0 0 Q
  refine r_aload_n dX10_ranked_0 rfl ?_
  refine m_pv0 dX10_ranked_1 cv_X10_227 (c_X10_worksTickets hA wU hW.2.2.2.2.1) ob_model ⟨_, rfl, rfl⟩ ⟨rfl, rfl⟩ (by decide) (by decide) (Nat.le_of_ble_eq_true rfl) (fun M1 L1 ⟨x1, x2, x3⟩ => ?_)
  subst x1
  have e1 : M1 318 = a := (x2 318 (by omega)).trans hA
  have hF : Fm M M1 := fun c h1 h2 => x2 c (by omega)
  have hR1 := mh_fm hR hF
  have bad : ∀ (M2 : Nat → Nat → Int32) (dn : Int64) (f n : Int32), M2 317 5 = 1 → M2 318 = a → MH M2 R → Fx M M2 → lkS a r = -1 → AW I_X10_ranked 153 [.ref 317, .int r, .long dn, .null, .int f, .int n, .null] [] (hS M2 L1 dd) 0 0 Q := by
    intro M2 dn f n t2 a2 r2 f2 hk
    refine r_aload_n dX10_ranked_153 rfl ?_
    refine m_get 10 5 dX10_ranked_154 fl_X10_42 ob_model rfl ?_
    refine r_if_le 164 dX10_ranked_157 (by decide) (fun z => absurd z (by rw [t2]; decide)) (fun _ => ?_)
    refine r_iconst_0 dX10_ranked_160 ?_
    refine r_goto 166 dX10_ranked_161 (by decide) ?_
    exact r_iret dX10_ranked_166 rfl (mq_w hq a2 f2 r2 (by rw [t2, thR, if_pos hk]) (fun z => by rw [thR, if_pos hk] at z; exact absurd z (by decide)))
  have good : ∀ (M2 : Nat → Nat → Int32) (dn : Int64) (f n : Int32), M2 317 5 = 0 → M2 318 = a → MH M2 R → Fx M M2 → lkS a r = f → ¬ f = -1 → AW I_X10_ranked 153 [.ref 317, .int r, .long dn, .null, .int f, .int n, .null] [] (hS M2 L1 dd) 0 0 Q := by
    intro M2 dn f n t2 a2 r2 f2 hk hne
    refine r_aload_n dX10_ranked_153 rfl ?_
    refine m_get 10 5 dX10_ranked_154 fl_X10_42 ob_model rfl ?_
    refine r_if_le 164 dX10_ranked_157 (by decide) (fun _ => ?_) (fun z => absurd (by rw [t2]; decide) z)
    refine r_iload dX10_ranked_164 rfl ?_
    exact r_iret dX10_ranked_166 rfl (mq_w hq a2 f2 r2 (by rw [t2, thR, if_neg (by rw [hk]; exact hne)]) (fun _ => by rw [hk]))
  have main : ∀ p, r = nI p → p < 2 ^ 31 → ∀ d n, n + d = 13 → cnN a n = n → n ≤ p + 1 → ∀ (M2 : Nat → Nat → Int32) (dn : Int64) (f : Int32), M2 317 5 = 0 → M2 318 = a → MK M2 a → MH M2 R → Fx M M2 → (∀ u, u < 12 → (dB dn u ↔ u < nu a ∧ lfS a u ∧ lbN a u < n)) → (n ≠ 0 → ∃ u, u < nu a ∧ lfS a u ∧ lbN a u = n - 1 ∧ f = nI u) → AW I_X10_ranked 25 [.ref 317, .int r, .long dn, .null, .int f, .int (nI n), .null] [] (hS M2 L1 dd) 0 0 Q := by
    intro p ep hp d
    subst ep
    induction d with
    | zero => intro n h1 h2; have := cnN_le (a := a) n; omega
    | succ d ih =>
      intro n h1 h2 h3 M2 dn f t2 a2 k2 r2 f2 hd hf
      have n12 : n ≤ 12 := by have := cnN_le (a := a) n; omega
      refine r_iload dX10_ranked_25 rfl ?_
      refine r_iload_n dX10_ranked_27 rfl ?_
      refine r_icmp_gt 153 dX10_ranked_28 (by decide) (fun h28 => ?_) (fun h28 => ?_)
      · rw [nI_ltI hp (by omega)] at h28
        have hn0 : n ≠ 0 := by omega
        obtain ⟨u, hu, lu, hl, ef⟩ := hf hn0
        clear hf hd ih
        have e5 : n - 1 = p := by omega
        have e6 : u < 2 ^ 31 := by omega
        subst ef
        exact good M2 dn _ _ t2 a2 r2 f2 (lk_y h12 hu lu (by rw [hl, e5])) (nI_m1 e6)
      · rw [nI_ltI hp (by omega)] at h28
        have inner : ∀ k, k ≤ nu a → AW I_X10_ranked 44 [.ref 317, .int (nI p), .long dn, .null, .int (rkF a n k), .int (nI n), .int (nI k)] [] (hS M2 L1 dd) 0 0 Q := by
          refine lp_up _ ?_ ?_
          · refine r_iload dX10_ranked_44 rfl ?_
            refine r_aload_n dX10_ranked_46 rfl ?_
            refine m_get 10 0 dX10_ranked_47 fl_X10_7 ob_model rfl ?_
            refine r_iconst_4 dX10_ranked_50 ?_
            refine m_iald 4 dX10_ranked_51 ai_a rfl (by omega) (by first | decide | assumption) ?_
            refine r_icmp_ge 126 dX10_ranked_52 (by decide) (fun _ => ?_) (fun z => absurd (by rw [a2, wU.1]; exact nI_le (Nat.le_refl _) (by omega)) z)
            refine r_iload dX10_ranked_126 rfl ?_
            refine r_iconst_m1 dX10_ranked_128 ?_
            refine r_icmp_ne 140 dX10_ranked_129 (by decide) (fun h129 => ?_) (fun h129 => ?_)
            · obtain ⟨u, hu, eu, lu, hnu, hbest⟩ := (rkF_ok (a := a) (n := n) (nu a) h12).resolve_left (fun z => h129 z.1)
              have hl := (rk_n hu lu hnu hbest).trans h2
              rw [eu]
              refine r_lload_n dX10_ranked_140 rfl ?_
              refine r_lconst_1 dX10_ranked_141 ?_
              refine r_iload dX10_ranked_142 rfl ?_
              refine r_lshl dX10_ranked_144 ?_
              refine r_lor dX10_ranked_145 ?_
              refine s_lstore_n 2 dX10_ranked_146 (by decide) rfl rfl ?_
              refine s_iinc dX10_ranked_147 rfl (by decide) rfl ?_
              refine r_goto 25 dX10_ranked_150 (by decide) ?_
              refine m_sub (ih (n + 1) (by omega) (by rw [cn_s hu lu hl, h2]) (by omega) M2 (dn ||| ((1 : Int64) <<< ((nI u).toInt64 &&& 63))) (nI u) t2 a2 k2 r2 f2 (fun v hv => ?_) (fun _ => ⟨u, hu, lu, by omega, rfl⟩)) (by simp [a_sub, nI_succ])
              rw [shl_b hv (by omega), hd v hv]
              refine ⟨fun z => z.elim (fun y => ⟨y.1, y.2.1, by omega⟩) (fun y => by subst y; exact ⟨hu, lu, by omega⟩), fun z => ?_⟩
              by_cases y : lbN a v < n
              · exact Or.inl ⟨z.1, z.2.1, y⟩
              · exact Or.inr (rk_u z.1 z.2.1 hu lu (by omega))
            · have hno : ∀ o, o < nu a → lfS a o → ¬ n ≤ lbN a o := by
                rcases rkF_ok (a := a) (n := n) (nu a) h12 with z | ⟨u, hu, eu, -⟩
                · exact z.2
                · rw [h129] at eu; exact absurd eu.symm (nI_m1 (by omega))
              have hlk : lkS a (nI p) = -1 := lk_n h12 (fun u hu lu e => by
                have hb := lbN_lt (a := a) h12 u
                rw [nI_eq hp (by omega)] at e
                have := hno u hu lu
                omega)
              refine r_aload_n dX10_ranked_132 rfl ?_
              refine r_iconst_1 dX10_ranked_133 ?_
              refine m_put 10 5 dX10_ranked_134 fl_X10_42 (fun r hr => by cases hr; rfl) ob_model (Nat.le_of_ble_eq_true rfl) rfl ?_
              refine r_goto 147 dX10_ranked_137 (by decide) ?_
              refine s_iinc dX10_ranked_147 rfl (by decide) rfl ?_
              refine r_goto 25 dX10_ranked_150 (by decide) ?_
              refine r_iload dX10_ranked_25 rfl ?_
              refine r_iload_n dX10_ranked_27 rfl ?_
              refine r_icmp_gt 153 dX10_ranked_28 (by decide) (fun g28 => ?_) (fun g28 => ?_)
              · exact m_sub (bad _ dn (-1) (nI n + 1) (by rw [mU_s, upd_eq]) (by rw [mU_n (by omega)]; exact a2) (mh_th r2) (fx_t f2 fx_th) hlk) (by simp [a_sub, h129])
              · refine r_aload_n dX10_ranked_31 rfl ?_
                refine m_get 10 5 dX10_ranked_32 fl_X10_42 ob_model rfl ?_
                refine r_if_ne 153 dX10_ranked_35 (by decide) (fun _ => ?_) (fun z => absurd z (by rw [mU_s, upd_eq]; decide))
                exact m_sub (bad _ dn (-1) (nI n + 1) (by rw [mU_s, upd_eq]) (by rw [mU_n (by omega)]; exact a2) (mh_th r2) (fx_t f2 fx_th) hlk) (by simp [a_sub, h129])
          · intro k hk ih2 
            refine r_iload dX10_ranked_44 rfl ?_
            refine r_aload_n dX10_ranked_46 rfl ?_
            refine m_get 10 0 dX10_ranked_47 fl_X10_7 ob_model rfl ?_
            refine r_iconst_4 dX10_ranked_50 ?_
            refine m_iald 4 dX10_ranked_51 ai_a rfl (by omega) (by first | decide | assumption) ?_
            refine r_icmp_ge 126 dX10_ranked_52 (by decide) (fun z => absurd z (by rw [a2, wU.1]; exact nI_ge hk (by omega))) (fun _ => ?_)
            refine r_aload_n dX10_ranked_55 rfl ?_
            refine r_iload dX10_ranked_56 rfl ?_
            refine m_cv1 dX10_ranked_58 cv_X10_119 (c_X10_isLeaf a2 wU.1 h12) rfl ob_model ⟨_, rfl, rfl⟩ ⟨rfl, rfl⟩ (by decide) (by decide) (Nat.le_of_ble_eq_true rfl) ?_
            refine r_if_eq 120 dX10_ranked_61 (by decide) (fun h61 => ?_) (fun h61 => ?_)
            · rw [bI_0] at h61
              have e := rkF_n (a := a) (n := n) (u := k) (fun z => h61 z.1)
              refine s_iinc dX10_ranked_120 rfl (by decide) rfl ?_
              refine r_goto 44 dX10_ranked_123 (by decide) ?_
              exact m_sub ih2 (by rw [e]; simp [a_sub, nI_succ])
            · rw [bI_0, Decidable.not_not] at h61
              refine r_lload_n dX10_ranked_64 rfl ?_
              refine r_iload dX10_ranked_65 rfl ?_
              refine r_lshr dX10_ranked_67 ?_
              refine r_lconst_1 dX10_ranked_68 ?_
              refine r_land dX10_ranked_69 ?_
              refine r_lconst_1 dX10_ranked_70 ?_
              refine r_lcmp dX10_ranked_71 ?_
              refine r_if_ne 78 dX10_ranked_72 (by decide) (fun h72 => ?_) (fun h72 => ?_)
              · rw [lg_eq0, shr_b (by omega), hd k (by omega)] at h72
                have hn : n ≤ lbN a k := by
                  by_cases z : n ≤ lbN a k
                  · exact z
                  · exact absurd ⟨hk, h61, by omega⟩ h72
                refine r_iload dX10_ranked_78 rfl ?_
                refine r_iconst_m1 dX10_ranked_80 ?_
                refine r_icmp_eq 116 dX10_ranked_81 (by decide) (fun h81 => ?_) (fun h81 => ?_)
                · have e := rkF_y (a := a) (n := n) (u := k) ⟨h61, hn, Or.inl h81⟩
                  refine r_iload dX10_ranked_116 rfl ?_
                  refine s_istore dX10_ranked_118 (by decide) rfl ?_
                  refine s_iinc dX10_ranked_120 rfl (by decide) rfl ?_
                  refine r_goto 44 dX10_ranked_123 (by decide) ?_
                  exact m_sub ih2 (by rw [e]; simp [a_sub, nI_succ])
                · obtain ⟨v, hv, ev, lv, hnv, -⟩ := (rkF_ok (a := a) (n := n) k (by omega)).resolve_left (fun z => h81 z.1)
                  have zv : zN (rkF a n k) = v := by rw [ev]; exact nI_clamp (by omega)
                  obtain ⟨q1, hq1, eq1⟩ := loS_nat a k
                  obtain ⟨q2, hq2, eq2⟩ := loS_nat a v
                  refine r_aload_n dX10_ranked_84 rfl ?_
                  refine r_iload dX10_ranked_85 rfl ?_
                  refine r_aload_n dX10_ranked_87 rfl ?_
                  refine r_iload dX10_ranked_88 rfl ?_
                  refine m_cv1 dX10_ranked_90 cv_X10_216 (c_X10_loadOf a2 wJ.1 h30) rfl ob_model ⟨_, rfl, rfl⟩ ⟨rfl, rfl⟩ (by decide) (by decide) (Nat.le_of_ble_eq_true rfl) ?_
                  refine r_iconst_1 dX10_ranked_93 ?_
                  refine r_iadd dX10_ranked_94 ?_
                  refine m_cv2 dX10_ranked_95 cv_X10_219 (c_X10_worthOf (q := q1 + 1) a2 k2 h12 hk (hx k hk) (by rw [eq1, nI_1]) (by omega) (by omega)) rfl ob_model ⟨_, rfl, rfl⟩ ⟨rfl, rfl⟩ (by decide) (by decide) (Nat.le_of_ble_eq_true rfl) ?_
                  rw [ev]
                  refine r_aload_n dX10_ranked_98 rfl ?_
                  refine r_iload dX10_ranked_99 rfl ?_
                  refine r_aload_n dX10_ranked_101 rfl ?_
                  refine r_iload dX10_ranked_102 rfl ?_
                  refine m_cv1 dX10_ranked_104 cv_X10_216 (c_X10_loadOf a2 wJ.1 h30) rfl ob_model ⟨_, rfl, rfl⟩ ⟨rfl, rfl⟩ (by decide) (by decide) (Nat.le_of_ble_eq_true rfl) ?_
                  refine r_iconst_1 dX10_ranked_107 ?_
                  refine r_iadd dX10_ranked_108 ?_
                  refine m_cv2 dX10_ranked_109 cv_X10_219 (c_X10_worthOf (q := q2 + 1) a2 k2 h12 (show v < nu a by omega) (hx v (by omega)) (by rw [eq2, nI_1]) (by omega) (by omega)) rfl ob_model ⟨_, rfl, rfl⟩ ⟨rfl, rfl⟩ (by decide) (by decide) (Nat.le_of_ble_eq_true rfl) ?_
                  refine r_lcmp dX10_ranked_112 ?_
                  refine r_if_le 120 dX10_ranked_113 (by decide) (fun h113 => ?_) (fun h113 => ?_)
                  · have h5 : wnS a k ≤ wnS a v := lg_le.mp h113
                    have e := rkF_n (a := a) (n := n) (u := k) (fun z => z.2.2.elim h81 (fun w => by rw [zv] at w; rw [Int64.lt_iff_toInt_lt] at w; rw [Int64.le_iff_toInt_le] at h5; omega))
                    refine s_iinc dX10_ranked_120 rfl (by decide) rfl ?_
                    refine r_goto 44 dX10_ranked_123 (by decide) ?_
                    exact m_sub ih2 (by rw [e, ev]; simp [a_sub, nI_succ])
                  · have h5 : ¬ wnS a k ≤ wnS a v := fun z => h113 (lg_le.mpr z)
                    have e := rkF_y (a := a) (n := n) (u := k) ⟨h61, hn, Or.inr (by rw [zv]; rw [Int64.le_iff_toInt_le] at h5; rw [Int64.lt_iff_toInt_lt]; omega)⟩
                    refine r_iload dX10_ranked_116 rfl ?_
                    refine s_istore dX10_ranked_118 (by decide) rfl ?_
                    refine s_iinc dX10_ranked_120 rfl (by decide) rfl ?_
                    refine r_goto 44 dX10_ranked_123 (by decide) ?_
                    exact m_sub ih2 (by rw [e]; simp [a_sub, nI_succ])
              · rw [lg_eq0, shr_b (by omega), hd k (by omega)] at h72
                have e := rkF_n (a := a) (n := n) (u := k) (fun z => by have z1 := z.2.1; have z2 := h72.2.2; omega)
                refine r_goto 120 dX10_ranked_75 (by decide) ?_
                refine s_iinc dX10_ranked_120 rfl (by decide) rfl ?_
                refine r_goto 44 dX10_ranked_123 (by decide) ?_
                exact m_sub ih2 (by rw [e]; simp [a_sub, nI_succ])
        refine r_aload_n dX10_ranked_31 rfl ?_
        refine m_get 10 5 dX10_ranked_32 fl_X10_42 ob_model rfl ?_
        refine r_if_ne 153 dX10_ranked_35 (by decide) (fun z => absurd t2 z) (fun _ => ?_)
        refine r_iconst_m1 dX10_ranked_38 ?_
        refine s_istore dX10_ranked_39 (by decide) rfl ?_
        refine r_iconst_0 dX10_ranked_41 ?_
        refine s_istore dX10_ranked_42 (by decide) rfl ?_
        exact m_sub (inner 0 (Nat.zero_le _)) (by rw [rkF_0]; simp [a_sub, nI_0])
  refine r_lconst_0 dX10_ranked_4 ?_
  refine s_lstore_n 2 dX10_ranked_5 (by decide) rfl rfl ?_
  refine r_iconst_m1 dX10_ranked_6 ?_
  refine s_istore dX10_ranked_7 (by decide) rfl ?_
  refine r_aload_n dX10_ranked_9 rfl ?_
  refine r_iload_n dX10_ranked_10 rfl ?_
  refine r_if_ge 18 dX10_ranked_11 (by decide) (fun h11 => ?_) (fun h11 => ?_)
  · obtain ⟨p, hp, rfl⟩ := nI_of (x := r) (by rw [Int32.not_lt]; exact h11)
    refine r_iconst_0 dX10_ranked_18 ?_
    refine m_put 10 5 dX10_ranked_19 fl_X10_42 (fun r hr => by cases hr; rfl) ob_model (Nat.le_of_ble_eq_true rfl) rfl ?_
    refine r_iconst_0 dX10_ranked_22 ?_
    refine s_istore dX10_ranked_23 (by decide) rfl ?_
    exact m_sub (main p rfl hp 13 0 (by omega) cn_0 (by omega) _ 0 (-1) (by rw [mU_s, upd_eq]) (by rw [mU_n (by omega)]; exact e1) (fun u hu => by rw [mU_n (by omega)]; exact x3 u hu) (mh_th hR1) (fx_t (fx_fm hF) fx_th) (fun u hu => ⟨fun z => absurd z dB_0, fun z => by omega⟩) (fun z => absurd rfl z)) (by simp [a_sub, nI_0])
  · have hlk : lkS a r = -1 := lk_n h12 (fun u hu lu e => by
      have hb := lbN_lt (a := a) h12 u
      rw [e] at h11
      exact h11 (nI_pos' (by omega)))
    refine r_iconst_1 dX10_ranked_14 ?_
    refine r_goto 19 dX10_ranked_15 (by decide) ?_
    refine m_put 10 5 dX10_ranked_19 fl_X10_42 (fun r hr => by cases hr; rfl) ob_model (Nat.le_of_ble_eq_true rfl) rfl ?_
    refine r_iconst_0 dX10_ranked_22 ?_
    refine s_istore dX10_ranked_23 (by decide) rfl ?_
    skip
    refine r_iload dX10_ranked_25 rfl ?_
    refine r_iload_n dX10_ranked_27 rfl ?_
    refine r_icmp_gt 153 dX10_ranked_28 (by decide) (fun _ => ?_) (fun z => absurd (by rw [Int32.not_le] at h11; exact h11) z)
    exact m_sub (bad _ 0 (-1) 0 (by rw [mU_s, upd_eq]) (by rw [mU_n (by omega)]; exact e1) (mh_th hR1) (fx_t (fx_fm hF) fx_th) hlk) (by simp [a_sub])
end MODEL13
