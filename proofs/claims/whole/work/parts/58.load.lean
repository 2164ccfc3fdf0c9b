/-! THE CLASS LOADS -/
section LOAD
variable {M : Nat → Nat → Int32} {L : Nat → Nat → Int64} {dd : UInt64} {n : Nat} {s : PS} {Q : a_Q} {g : Nat → Int32} {a : Row} {R : List Row} {T : Nat} {r0 : Row}
abbrev iniP (r0 : Row) : PS := (r0, 0, 0, -1)
abbrev ldP (g : Nat → Int32) (n : Nat) (r0 : Row) : PS := prs g n (n + 1) (iniP r0)
theorem ini_pi (hr : RE iniS r0) : PI n (iniP r0) := ⟨Nat.zero_le _, wf_re hr ini_wf.1, wv_re hr ini_wf.1.2.2.1.2.1 ini_wf.1.2.2.2.1.2.1 ini_wf.2.1, by show zN (r0 7) = 0; rw [hr 7 (by omega)]; rfl⟩
theorem ld_pi (hr : RE iniS r0) : PI n (ldP g n r0) := prs_c _ _ (ini_pi hr)
theorem c_X7_read (hr : RE iniS r0) (hg : M 314 = g) (hn : n ≤ 600) : PO yX7_read I_X7_read [.ref 313, .int (nI n), .ref 32] M L dd none (fun M' L' => L' = L ∧ (∀ c, ¬ (32 ≤ c ∧ c < 63) → c ≠ 313 → M' c = M c) ∧ M' 313 0 = 0 ∧ M' 313 1 = (ldP g n r0).er ∧ M' 313 2 = (ldP g n r0).ea ∧ QP M' 32 (ldP g n r0).ra) := by
  refine po_mk (fun Q hq => ?_)
  refine a_met (by decide +kernel) rfl rfl (Nat.le_of_ble_eq_true rfl) (by simp [Value.category]) (by decide) rfl ?_
  show AW I_X7_read 0 [.ref 313, .int (nI n), .ref 32, .null] [] (hS M L dd) 0 0 Q
  refine r_aload_n dX7_read_0 rfl ?_
  refine r_iload_n dX7_read_1 rfl ?_
  refine r_sipush 600 dX7_read_2 (by decide) ?_
  refine r_mmin dX7_read_5 k_551 k_552 k_18 k_553 (by decide) (Nat.le_of_ble_eq_true rfl) ?_
  rw [if_neg (show ¬ (600 : Int32) < nI n from nI_nlt (a := 600) hn (by decide))]
  refine m_put 7 4 dX7_read_8 fl_X7_28 (fun r hr => by cases hr; rfl) ob_text (Nat.le_of_ble_eq_true rfl) rfl ?_
  refine r_aload_n dX7_read_11 rfl ?_
  refine r_iconst_0 dX7_read_12 ?_
  refine m_put 7 5 dX7_read_13 fl_X7_31 (fun r hr => by cases hr; rfl) ob_text (Nat.le_of_ble_eq_true rfl) rfl ?_
  refine r_aload_n dX7_read_16 rfl ?_
  refine r_iconst_0 dX7_read_17 ?_
  refine m_put 7 1 dX7_read_18 fl_X7_34 (fun r hr => by cases hr; rfl) ob_text (Nat.le_of_ble_eq_true rfl) rfl ?_
  refine r_aload_n dX7_read_21 rfl ?_
  refine r_iconst_m1 dX7_read_22 ?_
  refine m_put 7 2 dX7_read_23 fl_X7_9 (fun r hr => by cases hr; rfl) ob_text (Nat.le_of_ble_eq_true rfl) rfl ?_
  refine r_aload_n dX7_read_26 rfl ?_
  refine m_pv0 dX7_read_27 cv_X7_37 (c_X5_clear pl32) (ob_place pl32) ⟨_, rfl, rfl⟩ ⟨rfl, rfl⟩ (by decide) (by decide) (Nat.le_of_ble_eq_true rfl) (fun M1 L1 ⟨x1, x2, x3⟩ => ?_)
  subst x1
  have f1 : Fp M M1 ∨ True := Or.inr trivial
  have k1 : ∀ c, ¬ (32 ≤ c ∧ c < 63) → c ≠ 313 → M1 c = M c := fun c h1 h2 => by rw [x2 c (by omega)]; simp [mU, h2]
  have t1 : TX M1 n (iniP r0) := by
    unfold TX
    rw [x2 313 (by omega)]
    exact ⟨by simp [mU, upd], by simp [mU, upd]; rfl, by simp [mU, upd], by simp [mU, upd]⟩
  have q1 : QP M1 32 r0 := qp_re hr ini_wf.1 x3
  have fin : ∀ (M2 : Nat → Nat → Int32) (v : Value), (∀ c, ¬ (32 ≤ c ∧ c < 63) → c ≠ 313 → M2 c = M c) → TX M2 n (ldP g n r0) → QP M2 32 (ldP g n r0).ra → AW I_X7_read 65 [.ref 313, .int (nI n), .ref 32, v] [] (hS M2 L1 dd) 0 0 Q := by
    intro M2 v f2 t2 q2
    refine r_aload_n dX7_read_65 rfl ?_
    refine r_iconst_0 dX7_read_66 ?_
    refine m_put 7 0 dX7_read_67 fl_X7_19 (fun r hr => by cases hr; rfl) ob_text (Nat.le_of_ble_eq_true rfl) rfl ?_
    exact r_vret dX7_read_70 rfl (hq _ _ ⟨rfl, fun c h1 h2 => by rw [mU_n h2]; exact f2 c h1 h2, by rw [mU_s, upd_eq], by rw [mU_s, upd_ne (by decide)]; exact t2.2.2.1, by rw [mU_s, upd_ne (by decide)]; exact t2.2.2.2, qp_f (lo := 313) (hi := 314) (fun c hc => mU_n (by omega)) (Or.inl (by omega)) q2⟩)
  have lp : ∀ k, k ≤ n + 1 → ∀ (M2 : Nat → Nat → Int32) (s2 : PS), (∀ c, ¬ (32 ≤ c ∧ c < 63) → c ≠ 313 → M2 c = M c) → TX M2 n s2 → PI n s2 → QP M2 32 s2.ra → prs g n (n + 1 - k) s2 = ldP g n r0 → AW I_X7_read 32 [.ref 313, .int (nI n), .ref 32, .int (nI k)] [] (hS M2 L1 dd) 0 0 Q := by
    refine lp_up _ ?_ ?_
    · intro M2 s2 f2 t2 i2 q2 e2 
      rw [Nat.sub_self, prs] at e2
      subst e2
      refine r_iload_n dX7_read_32 rfl ?_
      refine r_aload_n dX7_read_33 rfl ?_
      refine m_get 7 4 dX7_read_34 fl_X7_28 ob_text rfl ?_
      refine r_icmp_gt 65 dX7_read_37 (by decide) (fun _ => ?_) (fun z => absurd (by rw [t2.1]; exact nI_lt (by omega) (by omega)) z)
      exact fin M2 _ f2 t2 q2
    · intro k hk ih M2 s2 f2 t2 i2 q2 e2 
      rw [show n + 1 - k = (n + 1 - (k + 1)) + 1 by omega, prs] at e2
      have g2 : M2 314 = g := (f2 314 (by omega) (by omega)).trans hg
      have b2 : s2.po ≤ skp g n s2.po ∧ skp g n s2.po ≤ n := en_b i2.1
      refine r_iload_n dX7_read_32 rfl ?_
      refine r_aload_n dX7_read_33 rfl ?_
      refine m_get 7 4 dX7_read_34 fl_X7_28 ob_text rfl ?_
      refine r_icmp_gt 65 dX7_read_37 (by decide) (fun z => absurd z (by rw [t2.1]; exact nI_nlt (by omega) (by omega))) (fun _ => ?_)
      refine r_aload_n dX7_read_40 rfl ?_
      refine m_get 7 1 dX7_read_41 fl_X7_34 ob_text rfl ?_
      rw [t2.2.2.1]
      refine r_if_ne 65 dX7_read_44 (by decide) (fun h44 => ?_) (fun h44 => ?_)
      · rw [if_neg h44] at e2
        subst e2
        exact fin M2 _ f2 t2 q2
      · rw [if_pos h44] at e2
        refine r_aload_n dX7_read_47 rfl ?_
        refine m_pv0 dX7_read_48 cv_X7_42 (w_over g2 hn t2 i2.1) ob_text ⟨_, rfl, rfl⟩ ⟨rfl, rfl⟩ (by decide) (by decide) (Nat.le_of_ble_eq_true rfl) (fun M3 L3 ⟨y1, y2, y3⟩ => ?_)
        subst y1
        have f3 : ∀ c, ¬ (32 ≤ c ∧ c < 63) → c ≠ 313 → M3 c = M c := fun c h1 h2 => (y2.1 c h2).trans (f2 c h1 h2)
        have q3 : QP M3 32 s2.ra := qp_x y2 q2
        refine r_if_ne 65 dX7_read_51 (by decide) (fun h51 => ?_) (fun h51 => ?_)
        · rw [bI_0, Decidable.not_not] at h51
          rw [if_neg (Nat.not_lt.mpr h51)] at e2
          rw [e2] at y3
          exact fin M3 _ f3 y3 (by rw [← e2]; exact q3)
        · rw [bI_0] at h51
          rw [if_pos (Nat.not_le.mp h51)] at e2
          have i3 : PI n (⟨s2.ra, skp g n s2.po, s2.er, s2.ea⟩ : PS) := ⟨b2.2, i2.2⟩
          have q3 : QP M3 32 (PS.ra (⟨s2.ra, skp g n s2.po, s2.er, s2.ea⟩ : PS)) := q3
          generalize (⟨s2.ra, skp g n s2.po, s2.er, s2.ea⟩ : PS) = s3 at y3 i3 q3 e2
          refine r_aload_n dX7_read_54 rfl ?_
          refine r_aload_n dX7_read_55 rfl ?_
          refine m_pv1 dX7_read_56 cv_X7_46 (c_X7_readStatement ((f3 314 (by omega) (by omega)).trans hg) hn y3 i3 q3) ob_text ⟨_, rfl, rfl⟩ ⟨rfl, rfl⟩ (by decide) (by decide) (Nat.le_of_ble_eq_true rfl) (fun M4 L4 ⟨z1, z2, z3, z4⟩ => ?_)
          subst z1
          refine s_iinc dX7_read_59 rfl (by decide) rfl ?_
          refine r_goto 32 dX7_read_62 (by decide) ?_
          exact m_sub (ih M4 _ (fun c h1 h2 => (z2.1 c h1 h2).trans (f3 c h1 h2)) z3 (stm_c i3).1 z4 e2) (by simp [a_sub, nI_succ])
  refine r_iconst_0 dX7_read_30 ?_
  refine s_istore_n 3 dX7_read_31 (by decide) rfl rfl ?_
  exact m_sub (lp 0 (by omega) M1 _ k1 t1 (ini_pi hr) q1 rfl) (by simp [a_sub, nI_0])
theorem c_X9_load (hr : RE iniS r0) {m : Int32} {N : Nat} (hC : CS M a R) (hW : WF T a) (hF : M 313 0 = nI N) (hN : N ≤ 600) : AM yX9_load I_X9_load [.ref 0, .int m] (hS M L dd) (fun o h' => ∃ M' L', h' = hS M' L' dd ∧ (∀ c, 314 ≤ c → M' c = M c) ∧ GL L L' ∧ ((¬ (0 ≤ m ∧ m ≤ nI N) ∧ o = .inr ex_A ∧ M' = M ∧ L' = L) ∨ ∃ n, n ≤ N ∧ m = nI n ∧ M' 313 0 = 0 ∧ M' 313 2 = (ldP (M 314) n r0).ea ∧ (((ldP (M 314) n r0).er ≠ 0 ∧ o = .inl (some (.int (ldP (M 314) n r0).er)) ∧ CS M' a R) ∨ ((ldP (M 314) n r0).er = 0 ∧ o = .inl (some (.int (fiS (ldP (M 314) n r0).ra 4))) ∧ CS M' (fiS (ldP (M 314) n r0).ra) (pushR R a))))) := by
  refine am_mk (fun Q hq => ?_)
  refine a_met (by decide +kernel) rfl rfl (Nat.le_of_ble_eq_true rfl) (by simp [Value.category]) (by decide) rfl ?_
  show AW I_X9_load 0 [.ref 0, .int m] [] (hS M L dd) 0 0 Q
  have c25 : ∀ n, n ≤ N → m = nI n → AW I_X9_load 25 [.ref 0, .int m] [] (hS M L dd) 0 0 Q := by
    intro n hn em
    subst em
    have hI : PI n (ldP (M 314) n r0) := ld_pi hr
    have hq2 : ∀ (o : a_O) (M' : Nat → Nat → Int32) (L' : Nat → Nat → Int64), (∀ c, 314 ≤ c → M' c = M c) → GL L L' → M' 313 0 = 0 → M' 313 2 = (ldP (M 314) n r0).ea → (((ldP (M 314) n r0).er ≠ 0 ∧ o = .inl (some (.int (ldP (M 314) n r0).er)) ∧ CS M' a R) ∨ ((ldP (M 314) n r0).er = 0 ∧ o = .inl (some (.int (fiS (ldP (M 314) n r0).ra 4))) ∧ CS M' (fiS (ldP (M 314) n r0).ra) (pushR R a))) → Q o (hS M' L' dd) := fun o M' L' g1 g2 g3 g4 g5 => hq _ _ ⟨M', L', rfl, g1, g2, Or.inr ⟨n, hn, rfl, g3, g4, g5⟩⟩
    refine r_aload_n dX9_load_25 rfl ?_
    refine m_get 9 3 dX9_load_26 fl_X9_29 ob_x rfl ?_
    refine r_iload_n dX9_load_29 rfl ?_
    refine r_aload_n dX9_load_30 rfl ?_
    refine m_get 9 1 dX9_load_31 fl_X9_16 ob_x rfl ?_
    refine m_pv2 dX9_load_34 cv_X9_60 (c_X7_read hr rfl (show n ≤ 600 by omega)) ob_text ⟨_, rfl, rfl⟩ ⟨rfl, rfl⟩ (by decide) (by decide) (Nat.le_of_ble_eq_true rfl) (fun M1 L1 ⟨x1, x2, x3, x4, x5, x6⟩ => ?_)
    subst x1
    have y1 : Fr 32 63 M (mU M1 313 (M 313)) := fun c hc => by
      by_cases z : c = 313
      · subst z; exact mU_s
      · rw [mU_n z]; exact x2 c hc z
    have y2 : Fr 313 314 (mU M1 313 (M 313)) M1 := fun c hc => (mU_n (by omega)).symm
    have k1 : QP M1 1 a := qp_f y2 (Or.inl (by omega)) (qp_f y1 (Or.inl (by omega)) hC.1)
    have k2 : HR M1 R := by
      obtain ⟨r1, r2, w, r3, r4, r5⟩ := hC.2
      have e63 : M1 63 = M 63 := x2 63 (by omega) (by omega)
      exact ⟨r1, by rw [e63]; exact r2, w, r3, by rw [e63]; exact r4, fun r b hb => qp_f y2 (Or.inl (by omega)) (qp_f y1 (Or.inr (by omega)) (r5 r b hb))⟩
    have kf : ∀ c, 314 ≤ c → M1 c = M c := fun c hc => x2 c (by omega) (by omega)
    generalize ldP (M 314) n r0 = P at x4 x5 x6 hI hq2
    refine r_aload_n dX9_load_37 rfl ?_
    refine m_get 9 3 dX9_load_38 fl_X9_29 ob_x rfl ?_
    refine m_get 7 1 dX9_load_41 fl_X9_64 ob_text rfl ?_
    rw [x4]
    refine r_if_eq 55 dX9_load_44 (by decide) (fun h44 => ?_) (fun h44 => ?_)
    · have c55 : ∀ (M3 : Nat → Nat → Int32), Fr 63 313 M1 M3 → HR M3 (pushR R a) → QP M3 1 a → QP M3 32 P.ra → AW I_X9_load 66 [.ref 0, .int (nI n)] [] (hS M3 L1 dd) 0 0 Q := by
        intro M3 f3 h3 p3 q3
        have hW3 := hI.2.1
        refine r_aload_n dX9_load_66 rfl ?_
        refine m_get 9 0 dX9_load_67 fl_X9_10 ob_x rfl ?_
        refine r_aload_n dX9_load_70 rfl ?_
        refine m_get 9 1 dX9_load_71 fl_X9_16 ob_x rfl ?_
        refine m_pv1 dX9_load_74 cv_X9_71 (c_X5_copyFrom pl1 pl32 (Or.inl (by omega)) q3 hW3.1.2.2.1 hW3.2.2.2.2.1.2.1 hW3.2.2.1.2.1 hW3.2.2.2.1.2.1) (ob_place pl1) ⟨_, rfl, rfl⟩ ⟨rfl, rfl⟩ (by decide) (by decide) (Nat.le_of_ble_eq_true rfl) (fun M4 L4 ⟨u1, u2, u3⟩ => ?_)
        subst u1
        refine r_aload_n dX9_load_77 rfl ?_
        refine m_get 9 0 dX9_load_78 fl_X9_10 ob_x rfl ?_
        refine m_pv0 dX9_load_81 cv_X9_74 (c_X5_settle pl1 u3 hW3) (ob_place pl1) ⟨_, rfl, rfl⟩ ⟨rfl, rfl⟩ (by decide) (by decide) (Nat.le_of_ble_eq_true rfl) (fun M5 L5 ⟨v1, v2, v3, v4⟩ => ?_)
        refine r_aload_n dX9_load_84 rfl ?_
        refine m_get 9 0 dX9_load_85 fl_X9_10 ob_x rfl ?_
        refine m_get 5 0 dX9_load_88 fl_X9_77 (ob_place pl1) rfl ?_
        refine m_get 8 0 dX9_load_91 fl_X9_81 (ob_tree pl1) rfl ?_
        rw [show M5 (1 + 1) 0 = fiS P.ra 4 from v3.1.1]
        have m5 : ∀ c, 313 ≤ c → M5 c = M1 c := fun c hc => by rw [v1 c (by omega), u2 c (by omega), f3 c (by omega)]
        exact r_iret dX9_load_94 rfl (hq2 _ M5 L5 (fun c hc => (m5 c (by omega)).trans (kf c hc)) (gl_f v2 (by omega)) (by rw [m5 313 (by omega)]; exact x3) (by rw [m5 313 (by omega)]; exact x5) (Or.inr ⟨h44, rfl, v3, hr_f v1 (by omega) (hr_f u2 (by omega) h3)⟩))
      refine r_aload_n dX9_load_55 rfl ?_
      refine m_get 9 2 dX9_load_56 fl_X9_22 ob_x rfl ?_
      refine r_aload_n dX9_load_59 rfl ?_
      refine m_get 9 0 dX9_load_60 fl_X9_10 ob_x rfl ?_
      refine m_pv1 dX9_load_63 cv_X9_67 (c_X0_keep k1 k2 hW) ob_history ⟨_, rfl, rfl⟩ ⟨rfl, rfl⟩ (by decide) (by decide) (Nat.le_of_ble_eq_true rfl) (fun M2 L2 ⟨z1, z2, z3⟩ => ?_)
      subst z1
      exact c55 M2 z2 z3 (qp_f z2 (Or.inl (by omega)) k1) (qp_f z2 (Or.inl (by omega)) x6)
    · refine r_aload_n dX9_load_47 rfl ?_
      refine m_get 9 3 dX9_load_48 fl_X9_29 ob_x rfl ?_
      refine m_get 7 1 dX9_load_51 fl_X9_64 ob_text rfl ?_
      rw [x4]
      exact r_iret dX9_load_54 rfl (hq2 _ M1 L1 kf gl_r x3 x5 (Or.inl ⟨h44, rfl, k1, k2⟩))
  have thr : ¬ (0 ≤ m ∧ m ≤ nI N) → AW I_X9_load 15 [.ref 0, .int m] [] (hS M L dd) 0 0 Q := fun hz => r_throw th_X9_load_15 rfl (by decide) (by decide) (Nat.le_of_ble_eq_true rfl) (Nat.le_of_ble_eq_true rfl) (hq _ _ ⟨M, L, rfl, fun _ _ => rfl, gl_r, Or.inl ⟨hz, rfl, rfl, rfl⟩⟩)
  refine r_iload_n dX9_load_0 rfl ?_
  refine r_if_lt 15 dX9_load_1 (by decide) (fun h1 => ?_) (fun h1 => ?_)
  · exact thr (fun z => Int32.not_le.mpr h1 z.1)
  · refine r_iload_n dX9_load_4 rfl ?_
    refine r_aload_n dX9_load_5 rfl ?_
    refine m_get 9 3 dX9_load_6 fl_X9_29 ob_x rfl ?_
    refine m_get 7 0 dX9_load_9 fl_X9_40 ob_text rfl ?_
    rw [hF]
    obtain ⟨j, hj, rfl⟩ := nI_of h1
    refine r_icmp_le 25 dX9_load_12 (by decide) (fun h12 => ?_) (fun h12 => ?_)
    · exact c25 j ((nI_leI hj (by omega)).mp h12) rfl
    · exact thr (fun z => h12 z.2)
end LOAD
