section MODEL11
variable {M : Nat → Nat → Int32} {L : Nat → Nat → Int64} {dd : UInt64} {a a' : Row} {R R' : List Row} {T B : Nat} {thr c : Int32} {V : Value → Prop} {x : Value} {Q : a_Q}
def lsI (k : Nat) : Int32 := if k = 2 then 0 else 1
def msI (k : Nat) : Int32 := if k = 1 then 50 else if k = 2 then 400 else 20
theorem c_X10_least {k : Nat} (hk : k < 100) : AD yX10_least I_X10_least [.int (nI k)] (hS M L dd) (.inl (some (.int (lsI k)))) (hS M L dd) := by
  have e2 : nI k = 2 ↔ k = 2 := nI_eq (by omega) (by decide)
  intro Q hq
  refine a_met (by decide +kernel) rfl rfl (Nat.le_of_ble_eq_true rfl) (by simp [Value.category]) (by decide) rfl ?_
  show AW I_X10_least 0 [.int (nI k)] [] (hS M L dd) 0 0 Q
  refine r_iload_n dX10_least_0 rfl ?_
  refine r_iconst_2 dX10_least_1 ?_
  refine r_icmp_ne 9 dX10_least_2 (by decide) (fun h2 => ?_) (fun h2 => ?_)
  · refine r_iconst_1 dX10_least_9 ?_
    exact e_iret dX10_least_10 rfl hq (by simp_all [lsI])
  · refine r_iconst_0 dX10_least_5 ?_
    refine r_goto 10 dX10_least_6 (by decide) ?_
    exact e_iret dX10_least_10 rfl hq (by simp_all [lsI])
theorem c_X10_most {k : Nat} (hk : k < 100) : AD yX10_most I_X10_most [.int (nI k)] (hS M L dd) (.inl (some (.int (msI k)))) (hS M L dd) := by
  have e1 : nI k = 1 ↔ k = 1 := nI_eq (by omega) (by decide)
  have e2 : nI k = 2 ↔ k = 2 := nI_eq (by omega) (by decide)
  intro Q hq
  refine a_met (by decide +kernel) rfl rfl (Nat.le_of_ble_eq_true rfl) (by simp [Value.category]) (by decide) rfl ?_
  show AW I_X10_most 0 [.int (nI k)] [] (hS M L dd) 0 0 Q
  refine r_iload_n dX10_most_0 rfl ?_
  refine r_iconst_1 dX10_most_1 ?_
  refine r_icmp_ne 10 dX10_most_2 (by decide) (fun h2 => ?_) (fun h2 => ?_)
  · refine r_iload_n dX10_most_10 rfl ?_
    refine r_iconst_2 dX10_most_11 ?_
    refine r_icmp_ne 21 dX10_most_12 (by decide) (fun h12 => ?_) (fun h12 => ?_)
    · refine r_bipush 20 dX10_most_21 (by decide) ?_
      exact e_iret dX10_most_23 rfl hq (by simp_all [msI])
    · refine r_sipush 400 dX10_most_15 (by decide) ?_
      refine r_goto 23 dX10_most_18 (by decide) ?_
      exact e_iret dX10_most_23 rfl hq (by simp_all [msI])
  · refine r_bipush 50 dX10_most_5 (by decide) ?_
    refine r_goto 23 dX10_most_7 (by decide) ?_
    exact e_iret dX10_most_23 rfl hq (by simp_all [msI])
def thSt (w v : Int32) : Int32 := if (0 ≤ w ∧ w ≤ 2) ∧ (lsI (zN w + 1) ≤ v ∧ v ≤ msI (zN w + 1)) then 0 else 1
theorem c_X10_set {w v : Int32} (hA : M 318 = a) (hR : MH M R) (hW : WF T a) : MQa yX10_set I_X10_set [.ref 317, .int w, .int v] M L dd (thSt w v) (fun x => ∀ k, k < 3 → w = nI k → x = .int (a (1 + k))) a (upd a (1 + zN w) v) R (pushR R a) := by
  refine mq_mk (fun Q hq => ?_)
  refine a_met (by decide +kernel) rfl rfl (Nat.le_of_ble_eq_true rfl) (by simp [Value.category]) (by decide) rfl ?_
  show AW I_X10_set 0 [.ref 317, .int w, .int v, .null] [] (hS M L dd) 0 0 Q
  refine r_aload_n dX10_set_0 rfl ?_
  refine r_iload_n dX10_set_1 rfl ?_
  refine r_iconst_0 dX10_set_2 ?_
  refine r_iconst_2 dX10_set_3 ?_
  refine m_cs3 dX10_set_4 cs_X10_54 (c_X10_isIn) rfl ⟨rfl, rfl⟩ (by decide) (by decide) (Nat.le_of_ble_eq_true rfl) ?_
  refine r_if_eq 33 dX10_set_7 (by decide) (fun h7 => ?_) (fun h7 => ?_)
  · rw [bI_0] at h7
    refine r_iconst_1 dX10_set_33 ?_
    refine m_put 10 5 dX10_set_34 fl_X10_42 (fun r hr => by cases hr; rfl) ob_model (Nat.le_of_ble_eq_true rfl) rfl ?_
    refine r_aload_n dX10_set_37 rfl ?_
    refine m_get 10 5 dX10_set_38 fl_X10_42 ob_model rfl ?_
    refine r_if_le 46 dX10_set_41 (by decide) (fun z => absurd z (by rw [mU_s, upd_eq]; decide)) (fun _ => ?_)
    refine r_iconst_0 dX10_set_44 ?_
    exact r_iret dX10_set_45 rfl (mq_t hq hA hR (by decide) (by rw [thSt, if_neg (fun z => h7 z.1)]))
  · rw [bI_0, Decidable.not_not] at h7
    obtain ⟨k, hk, rfl⟩ := ix_c 2 (by omega) h7
    have zk : zN (nI k) = k := nI_clamp (by omega)
    have e1 : (1 : Int32) + nI k = nI (1 + k) := nI_add 1 k
    refine r_iload_n dX10_set_10 rfl ?_
    refine r_iconst_1 dX10_set_11 ?_
    refine r_iload_n dX10_set_12 rfl ?_
    refine r_iadd dX10_set_13 ?_
    rw [e1]
    refine m_cs1 dX10_set_14 cs_X10_125 (c_X10_least (by omega)) rfl ⟨rfl, rfl⟩ (by decide) (by decide) (Nat.le_of_ble_eq_true rfl) ?_
    refine r_iconst_1 dX10_set_17 ?_
    refine r_iload_n dX10_set_18 rfl ?_
    refine r_iadd dX10_set_19 ?_
    rw [e1]
    refine m_cs1 dX10_set_20 cs_X10_128 (c_X10_most (by omega)) rfl ⟨rfl, rfl⟩ (by decide) (by decide) (Nat.le_of_ble_eq_true rfl) ?_
    refine m_cs3 dX10_set_23 cs_X10_54 (c_X10_isIn) rfl ⟨rfl, rfl⟩ (by decide) (by decide) (Nat.le_of_ble_eq_true rfl) ?_
    refine r_if_eq 33 dX10_set_26 (by decide) (fun h26 => ?_) (fun h26 => ?_)
    · rw [bI_0] at h26
      refine r_iconst_1 dX10_set_33 ?_
      refine m_put 10 5 dX10_set_34 fl_X10_42 (fun r hr => by cases hr; rfl) ob_model (Nat.le_of_ble_eq_true rfl) rfl ?_
      refine r_aload_n dX10_set_37 rfl ?_
      refine m_get 10 5 dX10_set_38 fl_X10_42 ob_model rfl ?_
      refine r_if_le 46 dX10_set_41 (by decide) (fun z => absurd z (by rw [mU_s, upd_eq]; decide)) (fun _ => ?_)
      refine r_iconst_0 dX10_set_44 ?_
      exact r_iret dX10_set_45 rfl (mq_t hq hA hR (by decide) (by rw [thSt, if_neg (fun z => h26 (by rw [zk, Nat.add_comm] at z; exact z.2))]))
    · rw [bI_0, Decidable.not_not] at h26
      have ht : thSt (nI k) v = 0 := by rw [thSt, zk, Nat.add_comm, if_pos ⟨h7, h26⟩]
      refine r_iconst_0 dX10_set_29 ?_
      refine r_goto 34 dX10_set_30 (by decide) ?_
      refine m_put 10 5 dX10_set_34 fl_X10_42 (fun r hr => by cases hr; rfl) ob_model (Nat.le_of_ble_eq_true rfl) rfl ?_
      refine r_aload_n dX10_set_37 rfl ?_
      refine m_get 10 5 dX10_set_38 fl_X10_42 ob_model rfl ?_
      refine r_if_le 46 dX10_set_41 (by decide) (fun _ => ?_) (fun z => absurd (by rw [mU_s, upd_eq]; decide) z)
      skip
      refine r_aload_n dX10_set_46 rfl ?_
      refine m_pv0 dX10_set_47 cv_X10_169 (c_X10_keeps (R := R) (a := a) (by rw [mU_n (by omega)]; exact hA) (mh_th hR)) ob_model ⟨_, rfl, rfl⟩ ⟨rfl, rfl⟩ (by decide) (by decide) (Nat.le_of_ble_eq_true rfl) (fun M2 L2 ⟨x1, x2, x3, x4⟩ => ?_)
      subst x1
      have e2 := (x2 318 (by omega) (by omega)).trans ((mU_n (by omega)).trans hA)
      refine r_aload_n dX10_set_50 rfl ?_
      refine m_get 10 0 dX10_set_51 fl_X10_7 ob_model rfl ?_
      refine r_iconst_1 dX10_set_54 ?_
      refine r_iload_n dX10_set_55 rfl ?_
      refine r_iadd dX10_set_56 ?_
      refine m_iald (1 + k) dX10_set_57 ai_a e1 (by omega) (by first | decide | assumption) ?_
      refine s_istore_n 3 dX10_set_58 (by decide) rfl rfl ?_
      refine r_aload_n dX10_set_59 rfl ?_
      refine m_get 10 0 dX10_set_60 fl_X10_7 ob_model rfl ?_
      refine r_iconst_1 dX10_set_63 ?_
      refine r_iload_n dX10_set_64 rfl ?_
      refine r_iadd dX10_set_65 ?_
      refine r_iload_n dX10_set_66 rfl ?_
      refine m_iast (1 + k) dX10_set_67 ai_a e1 (by omega) (by first | decide | assumption) ?_
      refine r_iload_n dX10_set_68 rfl ?_
      refine r_iret dX10_set_69 rfl (mq_ok hq ht (by rw [mU_n (by omega), x3 5 (by omega), mU_s, upd_eq]) (fun k2 hk2 ek2 => ?_) (fx_c (fx_t fx_th (fx_kp x2 x3)) (by omega)) (by rw [mU_s, e2, zk]; exact re_r) (mh_c x4 (by omega) (by omega)))
      rw [nI_eq (by omega) (by omega)] at ek2
      subst ek2
      rw [e2]
def thUn (R : List Row) : Int32 := if R.length = 0 then 1 else 0
theorem c_X10_undo {b : Row} (hA : M 318 = a) (hR : MH M R) (hb : 0 < R.length → R[R.length - 1]? = some b) : MQa yX10_undo I_X10_undo [.ref 317] M L dd (thUn R) (fun x => x = .int (nI (R.length - 1))) a b R R.dropLast := by
  obtain ⟨r1, r2, r3⟩ := hR
  have hR : MH M R := ⟨r1, r2, r3⟩
  refine mq_mk (fun Q hq => ?_)
  refine a_met (by decide +kernel) rfl rfl (Nat.le_of_ble_eq_true rfl) (by simp [Value.category]) (by decide) rfl ?_
  show AW I_X10_undo 0 [.ref 317] [] (hS M L dd) 0 0 Q
  refine r_aload_n dX10_undo_0 rfl ?_
  refine r_aload_n dX10_undo_1 rfl ?_
  refine m_get 10 4 dX10_undo_2 fl_X10_45 ob_model rfl ?_
  rw [r2]
  refine r_if_ne 12 dX10_undo_5 (by decide) (fun h5 => ?_) (fun h5 => ?_)
  · have hn : R.length ≠ 0 := fun z => h5 (by rw [z]; rfl)
    have ht : thUn R = 0 := if_neg hn
    have em : nI R.length - 1 = nI (R.length - 1) := by rw [show (1 : Int32) = nI 1 from rfl, pk_sub (by omega)]
    refine r_iconst_0 dX10_undo_12 ?_
    refine m_put 10 5 dX10_undo_13 fl_X10_42 (fun r hr => by cases hr; rfl) ob_model (Nat.le_of_ble_eq_true rfl) rfl ?_
    refine r_aload_n dX10_undo_16 rfl ?_
    refine m_get 10 5 dX10_undo_17 fl_X10_42 ob_model rfl ?_
    refine r_if_le 25 dX10_undo_20 (by decide) (fun _ => ?_) (fun z => absurd (by rw [mU_s, upd_eq]; decide) z)
    skip
    refine m_abs (fun M1 => M1 317 4 = nI R.length ∧ M1 317 5 = 0 ∧ M1 318 = a ∧ M1 321 = M 321 ∧ Fx M M1) ⟨by rw [mU_s, upd_ne (by omega)]; exact r2, by rw [mU_s, upd_eq], by rw [mU_n (by omega)]; exact hA, by rw [mU_n (by omega)], fx_th⟩ (fun M1 ⟨z1, z2, z3, z4, z5⟩ => ?_)
    refine r_aload_n dX10_undo_25 rfl ?_
    refine r_dup dX10_undo_26 rfl ?_
    refine m_get 10 4 dX10_undo_27 fl_X10_45 ob_model rfl ?_
    refine r_iconst_1 dX10_undo_30 ?_
    refine r_isub dX10_undo_31 ?_
    refine m_put 10 4 dX10_undo_32 fl_X10_45 (fun r hr => by cases hr; rfl) ob_model (Nat.le_of_ble_eq_true rfl) rfl ?_
    refine m_abs (fun M2 => M2 317 4 = nI (R.length - 1) ∧ M2 317 5 = 0 ∧ M2 321 = M 321 ∧ Fx M M2) ⟨by rw [mU_s, upd_eq, z1]; exact em, by rw [mU_s, upd_ne (by omega)]; exact z2, by rw [mU_n (by omega)]; exact z4, fx_t z5 ⟨fun c g1 _ _ _ _ _ => mU_n g1, by rw [mU_s, upd_ne (by omega)], by rw [mU_s, upd_ne (by omega)], by rw [mU_s, upd_ne (by omega)]⟩⟩ (fun M2 ⟨w1, w2, w3, w4⟩ => ?_)
    refine r_aload_n dX10_undo_35 rfl ?_
    refine r_aload_n dX10_undo_36 rfl ?_
    refine m_get 10 3 dX10_undo_37 fl_X10_19 ob_model rfl ?_
    refine r_sipush 308 dX10_undo_40 (by decide) ?_
    refine r_aload_n dX10_undo_43 rfl ?_
    refine m_get 10 4 dX10_undo_44 fl_X10_45 ob_model rfl ?_
    rw [w1]
    refine r_imul dX10_undo_47 ?_
    rw [show (308 : Int32) * nI (R.length - 1) = nI (308 * (R.length - 1)) from by rw [show (308 : Int32) = nI 308 from rfl, pk_mul]]
    refine m_pv2 dX10_undo_48 cv_X10_38 (c_X10_becomes (f := 308 * (R.length - 1)) ai_kept (by decide) (by omega) (by decide)) ob_model ⟨_, rfl, rfl⟩ ⟨rfl, rfl⟩ (by decide) (by decide) (Nat.le_of_ble_eq_true rfl) (fun M3 L3 ⟨x1, x2⟩ => ?_)
    subst x1
    refine r_aload_n dX10_undo_51 rfl ?_
    refine m_get 10 4 dX10_undo_52 fl_X10_45 ob_model rfl ?_
    exact r_iret dX10_undo_55 rfl (mq_ok hq ht (by rw [x2, mU_n (by omega)]; exact w2) (by rw [x2, mU_n (by omega), w1]) (by rw [x2]; exact fx_c w4 (by omega)) (by rw [x2, mU_s]; intro i hi; simp only [if_pos hi]; rw [w3]; exact r3 _ _ (hb (by omega)) i hi) ⟨by rw [List.length_dropLast]; omega, by rw [x2, mU_n (by omega), w1, List.length_dropLast], fun r b2 hr t2 ht2 => by rw [x2, mU_n (by omega), w3]; exact r3 r b2 (by rw [List.getElem?_dropLast] at hr; split at hr; exact hr; cases hr) t2 ht2⟩)
  · have hn : R.length = 0 := (nI_eq (by omega) (by decide)).mp h5
    refine r_iconst_1 dX10_undo_8 ?_
    refine r_goto 13 dX10_undo_9 (by decide) ?_
    refine m_put 10 5 dX10_undo_13 fl_X10_42 (fun r hr => by cases hr; rfl) ob_model (Nat.le_of_ble_eq_true rfl) rfl ?_
    refine r_aload_n dX10_undo_16 rfl ?_
    refine m_get 10 5 dX10_undo_17 fl_X10_42 ob_model rfl ?_
    refine r_if_le 25 dX10_undo_20 (by decide) (fun z => absurd z (by rw [mU_s, upd_eq]; decide)) (fun _ => ?_)
    refine r_iconst_0 dX10_undo_23 ?_
    exact r_iret dX10_undo_24 rfl (mq_t hq hA hR (by decide) (by rw [thUn, if_pos hn]))
def thT (a : Row) (n : Int32) : Int32 := if ¬ (1 ≤ n ∧ n ≤ 60) then 1 else if 9999 < a 0 + n then 2 else 0
theorem c_X10_tick {n : Int32} (hA : M 318 = a) (hR : MH M R) (hW : WF T a) (hV : WV a) : MQa yX10_tick I_X10_tick [.ref 317, .int n] M L dd (thT a n) (fun x => x = .int (fnN a (zN n))) a (tkN a (zN n)) R (pushR R a) := by
  have w0 := hW.2.2.2.2.2.1
  have wT := hW.2.2.2.2.2.2.2.1
  have wT2 := hW.2.2.2.2.2.2.1
  refine mq_mk (fun Q hq => ?_)
  have cont : thT a n = 0 → ∀ N, n = nI N → N ≤ 60 → zN (a 0) + N ≤ 9999 → ∀ M1 : Nat → Nat → Int32, M1 318 = a → MH M1 R → Fx M M1 → M1 317 5 = 0 → AW I_X10_tick 46 [.ref 317, .int n, .null, .null] [] (hS M1 L dd) 0 0 Q := by
    intro ht N eN hN hN2 M1 e1 hR1 hF1 e5
    subst eN
    have zk : zN (nI N) = N := nI_clamp (by omega)
    refine r_aload_n dX10_tick_46 rfl ?_
    refine m_pv0 dX10_tick_47 cv_X10_169 (c_X10_keeps e1 hR1) ob_model ⟨_, rfl, rfl⟩ ⟨rfl, rfl⟩ (by decide) (by decide) (Nat.le_of_ble_eq_true rfl) (fun M2 L2 ⟨x1, x2, x3, x4⟩ => ?_)
    subst x1
    have e2 := (x2 318 (by omega) (by omega)).trans e1
    have lp : ∀ k, k ≤ N → ∀ M3 : Nat → Nat → Int32, M3 318 = tkN a k → Fm M2 M3 → AW I_X10_tick 54 [.ref 317, .int (nI N), .int (fnN a k), .int (nI k)] [] (hS M3 L2 dd) 0 0 Q := by
      refine lp_up _ ?_ ?_
      · intro M3 e3 f3 
        refine r_iload_n dX10_tick_54 rfl ?_
        refine r_iload_n dX10_tick_55 rfl ?_
        refine r_icmp_ge 72 dX10_tick_56 (by decide) (fun _ => ?_) (fun z => absurd (nI_le (Nat.le_refl _) (by omega)) z)
        refine r_iload_n dX10_tick_72 rfl ?_
        exact r_iret dX10_tick_73 rfl (mq_ok hq ht (by rw [f3 317 (by omega) (by omega), x3 5 (by omega)]; exact e5) (by rw [zk]) (fx_t (fx_t hF1 (fx_kp x2 x3)) (fx_fm f3)) (by rw [e3, zk]; exact re_r) (mh_fm x4 f3))
      · intro k hk ih M3 e3 f3 
        obtain ⟨g1, g2, g3⟩ := tkN_ok (wf_lo hW) hV k (by omega)
        refine r_iload_n dX10_tick_54 rfl ?_
        refine r_iload_n dX10_tick_55 rfl ?_
        refine r_icmp_ge 72 dX10_tick_56 (by decide) (fun z => absurd z (nI_ge hk (by omega))) (fun _ => ?_)
        refine r_iload_n dX10_tick_59 rfl ?_
        refine r_aload_n dX10_tick_60 rfl ?_
        refine m_pv0 dX10_tick_61 cv_X10_275 (c_X10_ticksOnce e3 g1 (wv_tick g1 (by omega) g2).1 (by omega)) ob_model ⟨_, rfl, rfl⟩ ⟨rfl, rfl⟩ (by decide) (by decide) (Nat.le_of_ble_eq_true rfl) (fun M4 L4 ⟨y1, y2, y3⟩ => ?_)
        subst y1
        refine r_iadd dX10_tick_64 ?_
        refine s_istore_n 2 dX10_tick_65 (by decide) rfl rfl ?_
        refine s_iinc dX10_tick_66 rfl (by decide) rfl ?_
        refine r_goto 54 dX10_tick_69 (by decide) ?_
        exact m_sub (ih _ y3 (fm_t f3 y2)) (by simp [a_sub, nI_succ, fnN])
    refine r_iconst_0 dX10_tick_50 ?_
    refine s_istore_n 2 dX10_tick_51 (by decide) rfl rfl ?_
    refine r_iconst_0 dX10_tick_52 ?_
    refine s_istore_n 3 dX10_tick_53 (by decide) rfl rfl ?_
    exact m_sub (lp 0 (Nat.zero_le _) M2 e2 fm_r) (by simp [a_sub, nI_0, fnN])
  refine a_met (by decide +kernel) rfl rfl (Nat.le_of_ble_eq_true rfl) (by simp [Value.category]) (by decide) rfl ?_
  show AW I_X10_tick 0 [.ref 317, .int n, .null, .null] [] (hS M L dd) 0 0 Q
  refine r_aload_n dX10_tick_0 rfl ?_
  refine r_iload_n dX10_tick_1 rfl ?_
  refine r_iconst_1 dX10_tick_2 ?_
  refine r_bipush 60 dX10_tick_3 (by decide) ?_
  refine m_cs3 dX10_tick_5 cs_X10_54 (c_X10_isIn) rfl ⟨rfl, rfl⟩ (by decide) (by decide) (Nat.le_of_ble_eq_true rfl) ?_
  refine r_if_ne 15 dX10_tick_8 (by decide) (fun h8 => ?_) (fun h8 => ?_)
  · rw [bI_0, Decidable.not_not] at h8
    obtain ⟨N, hN, eN⟩ := ix_c (u := n) 60 (by omega) ⟨Int32.le_trans (by decide) h8.1, h8.2⟩
    refine r_aload_n dX10_tick_15 rfl ?_
    refine m_get 10 0 dX10_tick_16 fl_X10_7 ob_model rfl ?_
    refine r_iconst_0 dX10_tick_19 ?_
    refine m_iald 0 dX10_tick_20 ai_a rfl (by omega) (by first | decide | assumption) ?_
    refine r_iload_n dX10_tick_21 rfl ?_
    refine r_iadd dX10_tick_22 ?_
    refine r_sipush 9999 dX10_tick_23 (by decide) ?_
    refine r_icmp_le 33 dX10_tick_26 (by decide) (fun h26 => ?_) (fun h26 => ?_)
    · refine r_iconst_0 dX10_tick_33 ?_
      refine m_put 10 5 dX10_tick_34 fl_X10_42 (fun r hr => by cases hr; rfl) ob_model (Nat.le_of_ble_eq_true rfl) rfl ?_
      refine r_aload_n dX10_tick_37 rfl ?_
      refine m_get 10 5 dX10_tick_38 fl_X10_42 ob_model rfl ?_
      refine r_if_le 46 dX10_tick_41 (by decide) (fun _ => ?_) (fun z => absurd (by rw [mU_s, upd_eq]; decide) z)
      exact cont (by rw [thT, if_neg (not_not_intro h8), if_neg (by rw [← hA]; exact Int32.not_lt.mpr h26)]) N eN hN (by rw [hA, w0, eN, nI_add, show (9999 : Int32) = nI 9999 from rfl, nI_leI (by omega) (by omega)] at h26; exact h26) _ (by rw [mU_n (by omega)]; exact hA) (mh_th hR) fx_th (by rw [mU_s, upd_eq])
    · refine r_iconst_2 dX10_tick_29 ?_
      refine r_goto 34 dX10_tick_30 (by decide) ?_
      refine m_put 10 5 dX10_tick_34 fl_X10_42 (fun r hr => by cases hr; rfl) ob_model (Nat.le_of_ble_eq_true rfl) rfl ?_
      refine r_aload_n dX10_tick_37 rfl ?_
      refine m_get 10 5 dX10_tick_38 fl_X10_42 ob_model rfl ?_
      refine r_if_le 46 dX10_tick_41 (by decide) (fun z => absurd z (by rw [mU_s, upd_eq]; decide)) (fun _ => ?_)
      refine r_iconst_0 dX10_tick_44 ?_
      exact r_iret dX10_tick_45 rfl (mq_t hq hA hR (by decide) (by rw [thT, if_neg (not_not_intro h8), if_pos (by rw [← hA]; exact Int32.not_le.mp h26)]))
  · rw [bI_0] at h8
    refine r_iconst_1 dX10_tick_11 ?_
    refine r_goto 34 dX10_tick_12 (by decide) ?_
    refine m_put 10 5 dX10_tick_34 fl_X10_42 (fun r hr => by cases hr; rfl) ob_model (Nat.le_of_ble_eq_true rfl) rfl ?_
    refine r_aload_n dX10_tick_37 rfl ?_
    refine m_get 10 5 dX10_tick_38 fl_X10_42 ob_model rfl ?_
    refine r_if_le 46 dX10_tick_41 (by decide) (fun z => absurd z (by rw [mU_s, upd_eq]; decide)) (fun _ => ?_)
    refine r_iconst_0 dX10_tick_44 ?_
    exact r_iret dX10_tick_45 rfl (mq_t hq hA hR (by decide) (by rw [thT, if_pos h8]))
theorem sets_a {M2 : Nat → Nat → Int32} {r : Row} (h : M2 320 = fun k => if k < 308 then a k else r k) (i : Nat) (hi : i < 308) : M2 320 (0 + i) = a i := by
  rw [h]; simp [hi]
/-- after how many ticks the job is finished: from n on, so many more at most -/
def fdR (a : Row) (j : Nat) : Nat → Nat → Int32
  | 0, _ => -1
  | f + 1, n => if jb (tkN a (n + 1)) j 3 = 2 then nI (n + 1) else fdR a j f (n + 1)
theorem c_X10_finishedIn {j : Int32} (hA : M 318 = a) (hR : MH M R) (hW : WF 9999 a) (hV : WV a) : MQa yX10_finishedIn I_X10_finishedIn [.ref 317, .int j] M L dd (thCa a j) (fun x => x = .int (fdR a (zN j) 400 0)) a a R R := by
  have wJ := hW.2.2.2.1
  have h30 := wJ.2.1
  refine mq_mk (fun Q hq => ?_)
  have cont : thCa a j = 0 → ∀ k, k < nj a → j = nI k → jb a k 3 ≤ 1 → ∀ M1 : Nat → Nat → Int32, M1 318 = a → MH M1 R → Fx M M1 → M1 317 5 = 0 → AW I_X10_finishedIn 40 [.ref 317, .int j, .null, .null] [] (hS M1 L dd) 0 0 Q := by
    intro ht k hk ek h3 M1 e1 hR1 hF1 e5
    subst ek
    have zk : zN (nI k) = k := nI_clamp (by omega)
    refine r_aload_n dX10_finishedIn_40 rfl ?_
    refine m_get 10 2 dX10_finishedIn_41 fl_X10_16 ob_model rfl ?_
    refine r_aload_n dX10_finishedIn_44 rfl ?_
    refine m_get 10 0 dX10_finishedIn_45 fl_X10_7 ob_model rfl ?_
    refine m_ps2 dX10_finishedIn_48 cs_X10_159 (c_X10_sets ai_aside ai_a (by decide) (by decide) (by decide) (by decide) (by decide)) ⟨rfl, rfl⟩ (by decide) (by decide) (Nat.le_of_ble_eq_true rfl) (fun M2 L2 ⟨x1, x2⟩ => ?_)
    subst x1
    have e2 : M2 318 = a := by rw [x2, mU_n (by omega)]; exact e1
    have q2 : ∀ i, i < 308 → M2 320 (0 + i) = a i := by
      intro i hi
      rw [x2, mU_s, e1]
      simp [hi]
    have r2 : MH M2 R := by rw [x2]; exact mh_c hR1 (by omega) (by omega)
    have f2 : Fx M M2 := by rw [x2]; exact fx_c hF1 (by omega)
    have t2 : M2 317 5 = 0 := by rw [x2, mU_n (by omega)]; exact e5
    have h3' : jb a k 3 ≠ 3 := fun z => absurd h3 (by rw [z]; decide)
    have stt : ∀ n, n ≤ 400 → jb (tkN a n) k 3 = 0 ∨ jb (tkN a n) k 3 = 1 ∨ jb (tkN a n) k 3 = 2 := by
      intro n hn
      obtain ⟨g1, g2, g3⟩ := tkN_ok hW hV n (by omega)
      rcases g1.2.2.2.1.2.2.2.1 k (by rw [g3.1]; exact hk) with z | z | z | z
      · exact Or.inl z
      · exact Or.inr (Or.inl z)
      · exact Or.inr (Or.inr z)
      · exact absurd (g3.2.1 k hk z) h3'
    have fin : ∀ n, n ≤ 400 → ∀ M3 : Nat → Nat → Int32, M3 318 = tkN a n → M3 320 = M2 320 → MH M3 R → Fx M M3 → M3 317 5 = 0 → (if jb (tkN a n) k 3 = 2 then nI n else -1) = fdR a k 400 0 → AW I_X10_finishedIn 84 [.ref 317, .int (nI k), .int (nI n), .null] [] (hS M3 L2 dd) 0 0 Q := by
      intro n hn M3 a3 q3 r3 f3 t3 hres
      obtain ⟨g1, g2, g3⟩ := tkN_ok hW hV n (by omega)
      refine r_aload_n dX10_finishedIn_84 rfl ?_
      refine r_iload_n dX10_finishedIn_85 rfl ?_
      refine r_iconst_3 dX10_finishedIn_86 ?_
      refine m_cv2 dX10_finishedIn_87 cv_X10_175 (c_X10_of (f := 3) a3 (by omega) (by omega)) rfl ob_model ⟨_, rfl, rfl⟩ ⟨rfl, rfl⟩ (by decide) (by decide) (Nat.le_of_ble_eq_true rfl) ?_
      refine r_iconst_2 dX10_finishedIn_90 ?_
      refine r_icmp_ne 98 dX10_finishedIn_91 (by decide) (fun h91 => ?_) (fun h91 => ?_)
      · rw [if_neg h91] at hres
        refine r_iconst_0 dX10_finishedIn_98 ?_
        refine s_istore_n 3 dX10_finishedIn_99 (by decide) rfl rfl ?_
        refine r_aload_n dX10_finishedIn_100 rfl ?_
        refine r_aload_n dX10_finishedIn_101 rfl ?_
        refine m_get 10 2 dX10_finishedIn_102 fl_X10_16 ob_model rfl ?_
        refine r_iconst_0 dX10_finishedIn_105 ?_
        refine m_pv2 dX10_finishedIn_106 cv_X10_38 (c_X10_becomes (f := 0) ai_aside (by decide) (by omega) (by decide)) ob_model ⟨_, rfl, rfl⟩ ⟨rfl, rfl⟩ (by decide) (by decide) (Nat.le_of_ble_eq_true rfl) (fun M4 L4 ⟨y1, y2⟩ => ?_)
        subst y1
        refine r_iload_n dX10_finishedIn_109 rfl ?_
        refine r_if_eq 117 dX10_finishedIn_110 (by decide) (fun _ => ?_) (fun z => absurd rfl z)
        refine r_iconst_m1 dX10_finishedIn_117 ?_
        exact r_iret dX10_finishedIn_118 rfl (mq_ok hq ht (by rw [y2, mU_n (by omega)]; exact t3) (by rw [zk, ← hres]) (by rw [y2]; exact fx_c f3 (by omega)) (by rw [y2, mU_s]; intro i hi; simp only [if_pos hi]; rw [q3]; exact q2 i hi) (by rw [y2]; exact mh_c r3 (by omega) (by omega)))
      · rw [if_pos h91] at hres
        refine r_iconst_1 dX10_finishedIn_94 ?_
        refine r_goto 99 dX10_finishedIn_95 (by decide) ?_
        refine s_istore_n 3 dX10_finishedIn_99 (by decide) rfl rfl ?_
        refine r_aload_n dX10_finishedIn_100 rfl ?_
        refine r_aload_n dX10_finishedIn_101 rfl ?_
        refine m_get 10 2 dX10_finishedIn_102 fl_X10_16 ob_model rfl ?_
        refine r_iconst_0 dX10_finishedIn_105 ?_
        refine m_pv2 dX10_finishedIn_106 cv_X10_38 (c_X10_becomes (f := 0) ai_aside (by decide) (by omega) (by decide)) ob_model ⟨_, rfl, rfl⟩ ⟨rfl, rfl⟩ (by decide) (by decide) (Nat.le_of_ble_eq_true rfl) (fun M4 L4 ⟨y1, y2⟩ => ?_)
        subst y1
        refine r_iload_n dX10_finishedIn_109 rfl ?_
        refine r_if_eq 117 dX10_finishedIn_110 (by decide) (fun z => absurd z (by decide)) (fun _ => ?_)
        refine r_iload_n dX10_finishedIn_113 rfl ?_
        refine r_goto 118 dX10_finishedIn_114 (by decide) ?_
        exact r_iret dX10_finishedIn_118 rfl (mq_ok hq ht (by rw [y2, mU_n (by omega)]; exact t3) (by rw [zk, ← hres]) (by rw [y2]; exact fx_c f3 (by omega)) (by rw [y2, mU_s]; intro i hi; simp only [if_pos hi]; rw [q3]; exact q2 i hi) (by rw [y2]; exact mh_c r3 (by omega) (by omega)))
    have lp : ∀ n, n ≤ 400 → ∀ M3 : Nat → Nat → Int32, M3 318 = tkN a n → M3 320 = M2 320 → MH M3 R → Fx M M3 → M3 317 5 = 0 → (if jb (tkN a n) k 3 = 2 then nI n else fdR a k (400 - n) n) = fdR a k 400 0 → AW I_X10_finishedIn 53 [.ref 317, .int (nI k), .int (nI n), .null] [] (hS M3 L2 dd) 0 0 Q := by
      refine lp_up _ ?_ ?_
      · intro M3 a3 q3 r3 f3 t3 hres 
        refine r_iload_n dX10_finishedIn_53 rfl ?_
        refine r_sipush 400 dX10_finishedIn_54 (by decide) ?_
        refine r_icmp_ge 84 dX10_finishedIn_57 (by decide) (fun _ => ?_) (fun z => absurd (by decide) z)
        exact fin 400 (Nat.le_refl _) M3 a3 q3 r3 f3 t3 hres
      · intro n hn ih M3 a3 q3 r3 f3 t3 hres 
        obtain ⟨g1, g2, g3⟩ := tkN_ok hW hV n (by omega)
        refine r_iload_n dX10_finishedIn_53 rfl ?_
        refine r_sipush 400 dX10_finishedIn_54 (by decide) ?_
        refine r_icmp_ge 84 dX10_finishedIn_57 (by decide) (fun z => absurd z (nI_ge hn (by decide))) (fun _ => ?_)
        refine r_aload_n dX10_finishedIn_60 rfl ?_
        refine r_iload_n dX10_finishedIn_61 rfl ?_
        refine r_iconst_3 dX10_finishedIn_62 ?_
        refine m_cv2 dX10_finishedIn_63 cv_X10_175 (c_X10_of (f := 3) a3 (by omega) (by omega)) rfl ob_model ⟨_, rfl, rfl⟩ ⟨rfl, rfl⟩ (by decide) (by decide) (Nat.le_of_ble_eq_true rfl) ?_
        refine r_iconst_1 dX10_finishedIn_66 ?_
        refine r_icmp_gt 84 dX10_finishedIn_67 (by decide) (fun h67 => ?_) (fun h67 => ?_)
        · have h2 : jb (tkN a n) k 3 = 2 := by
            rcases stt n (by omega) with z | z | z
            · rw [z] at h67; exact absurd h67 (by decide)
            · rw [z] at h67; exact absurd h67 (by decide)
            · exact z
          rw [if_pos h2] at hres
          exact fin n (by omega) M3 a3 q3 r3 f3 t3 (by rw [if_pos h2]; exact hres)
        · have h2 : ¬ jb (tkN a n) k 3 = 2 := fun z => h67 (by rw [z]; decide)
          rw [if_neg h2, show 400 - n = (400 - (n + 1)) + 1 by omega, fdR] at hres
          refine r_aload_n dX10_finishedIn_70 rfl ?_
          refine r_aload_n dX10_finishedIn_71 rfl ?_
          refine m_pv0 dX10_finishedIn_72 cv_X10_275 (c_X10_ticksOnce a3 g1 (wv_tick g1 (by omega) g2).1 (by omega)) ob_model ⟨_, rfl, rfl⟩ ⟨rfl, rfl⟩ (by decide) (by decide) (Nat.le_of_ble_eq_true rfl) (fun M4 L4 ⟨y1, y2, y3⟩ => ?_)
          subst y1
          refine m_put 10 17 dX10_finishedIn_75 fl_X10_278 (fun r hr => by cases hr; rfl) ob_model (Nat.le_of_ble_eq_true rfl) rfl ?_
          refine s_iinc dX10_finishedIn_78 rfl (by decide) rfl ?_
          refine r_goto 53 dX10_finishedIn_81 (by decide) ?_
          refine m_sub (ih _ (by rw [mU_n (by omega)]; exact y3) (by rw [mU_n (by omega), y2 320 (by omega) (by omega)]; exact q3) ?_ ?_ (by rw [mU_s, upd_ne (by omega), y2 317 (by omega) (by omega)]; exact t3) hres) (by simp [a_sub, nI_succ])
          · exact ⟨r3.1, by rw [mU_s, upd_ne (by omega), y2 317 (by omega) (by omega)]; exact r3.2.1, fun r b hr t htt => by rw [mU_n (by omega), y2 321 (by omega) (by omega)]; exact r3.2.2 r b hr t htt⟩
          · refine fx_t (fx_t f3 (fx_fm y2)) ⟨fun c g1 _ _ _ _ _ => mU_n g1, ?_, ?_, ?_⟩ <;> rw [mU_s, upd_ne (by omega)]
    refine r_iconst_0 dX10_finishedIn_51 ?_
    refine s_istore_n 2 dX10_finishedIn_52 (by decide) rfl rfl ?_
    exact m_sub (lp 0 (by omega) M2 e2 rfl r2 f2 t2 (by rw [if_neg (show ¬ jb (tkN a 0) k 3 = 2 from fun z => absurd h3 (by rw [show jb a k 3 = 2 from z]; decide))])) (by simp [a_sub, nI_0])
  refine a_met (by decide +kernel) rfl rfl (Nat.le_of_ble_eq_true rfl) (by simp [Value.category]) (by decide) rfl ?_
  show AW I_X10_finishedIn 0 [.ref 317, .int j, .null, .null] [] (hS M L dd) 0 0 Q
  refine r_aload_n dX10_finishedIn_0 rfl ?_
  refine r_aload_n dX10_finishedIn_1 rfl ?_
  refine r_iload_n dX10_finishedIn_2 rfl ?_
  refine m_cv1 dX10_finishedIn_3 cv_X10_257 (c_X10_isJob hA wJ.1 h30) rfl ob_model ⟨_, rfl, rfl⟩ ⟨rfl, rfl⟩ (by decide) (by decide) (Nat.le_of_ble_eq_true rfl) ?_
  refine r_if_ne 13 dX10_finishedIn_6 (by decide) (fun h6 => ?_) (fun h6 => ?_)
  · rw [bI_0, Decidable.not_not] at h6
    obtain ⟨k, hk, rfl⟩ := ix_n wJ.1 (by omega) h6
    have zk : zN (nI k) = k := nI_clamp (by omega)
    refine r_aload_n dX10_finishedIn_13 rfl ?_
    refine r_iload_n dX10_finishedIn_14 rfl ?_
    refine r_iconst_3 dX10_finishedIn_15 ?_
    refine m_cv2 dX10_finishedIn_16 cv_X10_175 (c_X10_of (f := 3) hA (by omega) (by omega)) rfl ob_model ⟨_, rfl, rfl⟩ ⟨rfl, rfl⟩ (by decide) (by decide) (Nat.le_of_ble_eq_true rfl) ?_
    refine r_iconst_1 dX10_finishedIn_19 ?_
    refine r_icmp_le 27 dX10_finishedIn_20 (by decide) (fun h20 => ?_) (fun h20 => ?_)
    · refine r_iconst_0 dX10_finishedIn_27 ?_
      refine m_put 10 5 dX10_finishedIn_28 fl_X10_42 (fun r hr => by cases hr; rfl) ob_model (Nat.le_of_ble_eq_true rfl) rfl ?_
      refine r_aload_n dX10_finishedIn_31 rfl ?_
      refine m_get 10 5 dX10_finishedIn_32 fl_X10_42 ob_model rfl ?_
      refine r_if_le 40 dX10_finishedIn_35 (by decide) (fun _ => ?_) (fun z => absurd (by rw [mU_s, upd_eq]; decide) z)
      exact cont (by rw [thCa, if_neg (not_not_intro h6), zk, if_neg (Int32.not_lt.mpr h20)]) k hk rfl h20 _ (by rw [mU_n (by omega)]; exact hA) (mh_th hR) fx_th (by rw [mU_s, upd_eq])
    · refine r_iconst_2 dX10_finishedIn_23 ?_
      refine r_goto 28 dX10_finishedIn_24 (by decide) ?_
      refine m_put 10 5 dX10_finishedIn_28 fl_X10_42 (fun r hr => by cases hr; rfl) ob_model (Nat.le_of_ble_eq_true rfl) rfl ?_
      refine r_aload_n dX10_finishedIn_31 rfl ?_
      refine m_get 10 5 dX10_finishedIn_32 fl_X10_42 ob_model rfl ?_
      refine r_if_le 40 dX10_finishedIn_35 (by decide) (fun z => absurd z (by rw [mU_s, upd_eq]; decide)) (fun _ => ?_)
      refine r_iconst_0 dX10_finishedIn_38 ?_
      exact r_iret dX10_finishedIn_39 rfl (mq_t hq hA hR (by decide) (by rw [thCa, if_neg (not_not_intro h6), zk, if_pos (Int32.not_le.mp h20)]))
  · rw [bI_0] at h6
    refine r_iconst_1 dX10_finishedIn_9 ?_
    refine r_goto 28 dX10_finishedIn_10 (by decide) ?_
    refine m_put 10 5 dX10_finishedIn_28 fl_X10_42 (fun r hr => by cases hr; rfl) ob_model (Nat.le_of_ble_eq_true rfl) rfl ?_
    refine r_aload_n dX10_finishedIn_31 rfl ?_
    refine m_get 10 5 dX10_finishedIn_32 fl_X10_42 ob_model rfl ?_
    refine r_if_le 40 dX10_finishedIn_35 (by decide) (fun z => absurd z (by rw [mU_s, upd_eq]; decide)) (fun _ => ?_)
    refine r_iconst_0 dX10_finishedIn_38 ?_
    exact r_iret dX10_finishedIn_39 rfl (mq_t hq hA hR (by decide) (by rw [thCa, if_pos h6]))
def thAh (n w : Int32) : Int32 := if (1 ≤ n ∧ n ≤ 100) ∧ (0 ≤ w ∧ w ≤ 3) then 0 else 1
def vlAh (a : Row) (w : Int32) : Int32 := if w = 0 then inS a 2 else if w = 1 then inS a 0 else if w = 2 then a 8 else fsS a
theorem c_X10_ahead {n w : Int32} (hA : M 318 = a) (hR : MH M R) (hW : WF 9999 a) (hV : WV a) : MQa yX10_ahead I_X10_ahead [.ref 317, .int n, .int w] M L dd (thAh n w) (fun x => x = .int (vlAh (tkN a (zN n)) w)) a a R R := by
  refine mq_mk (fun Q hq => ?_)
  have cont : thAh n w = 0 → ∀ N, n = nI N → N ≤ 100 → ∀ M1 : Nat → Nat → Int32, M1 318 = a → MH M1 R → Fx M M1 → M1 317 5 = 0 → AW I_X10_ahead 37 [.ref 317, .int n, .int w, .null] [] (hS M1 L dd) 0 0 Q := by
    intro ht N eN hN M1 e1 hR1 hF1 e5
    subst eN
    have zk : zN (nI N) = N := nI_clamp (by omega)
    refine r_aload_n dX10_ahead_37 rfl ?_
    refine m_get 10 2 dX10_ahead_38 fl_X10_16 ob_model rfl ?_
    refine r_aload_n dX10_ahead_41 rfl ?_
    refine m_get 10 0 dX10_ahead_42 fl_X10_7 ob_model rfl ?_
    refine m_ps2 dX10_ahead_45 cs_X10_159 (c_X10_sets ai_aside ai_a (by decide) (by decide) (by decide) (by decide) (by decide)) ⟨rfl, rfl⟩ (by decide) (by decide) (Nat.le_of_ble_eq_true rfl) (fun M2 L2 ⟨x1, x2⟩ => ?_)
    subst x1
    have e2 : M2 318 = a := by rw [x2, mU_n (by omega)]; exact e1
    have q2 : ∀ i, i < 308 → M2 320 (0 + i) = a i := by
      intro i hi
      rw [x2, mU_s, e1]
      simp [hi]
    have r2 : MH M2 R := by rw [x2]; exact mh_c hR1 (by omega) (by omega)
    have f2 : Fx M M2 := by rw [x2]; exact fx_c hF1 (by omega)
    have t2 : M2 317 5 = 0 := by rw [x2, mU_n (by omega)]; exact e5
    have lp : ∀ k, k ≤ N → ∀ M3 : Nat → Nat → Int32, M3 318 = tkN a k → M3 320 = M2 320 → MH M3 R → Fx M M3 → M3 317 5 = 0 → AW I_X10_ahead 50 [.ref 317, .int (nI N), .int w, .int (nI k)] [] (hS M3 L2 dd) 0 0 Q := by
      refine lp_up _ ?_ ?_
      · intro M3 a3 q3 r3 f3 t3 
        obtain ⟨g1, g2, g3⟩ := tkN_ok hW hV N (by omega)
        have gJ := g1.2.2.2.1
        have fin : ∀ v : Int32, v = vlAh (tkN a N) w → AW I_X10_ahead 113 [.ref 317, .int (nI N), .int w, .int (nI N)] [.int v] (hS M3 L2 dd) 0 0 Q := by
          intro v ev
          refine s_istore_n 3 dX10_ahead_113 (by decide) rfl rfl ?_
          refine r_aload_n dX10_ahead_114 rfl ?_
          refine r_aload_n dX10_ahead_115 rfl ?_
          refine m_get 10 2 dX10_ahead_116 fl_X10_16 ob_model rfl ?_
          refine r_iconst_0 dX10_ahead_119 ?_
          refine m_pv2 dX10_ahead_120 cv_X10_38 (c_X10_becomes (f := 0) ai_aside (by decide) (by omega) (by decide)) ob_model ⟨_, rfl, rfl⟩ ⟨rfl, rfl⟩ (by decide) (by decide) (Nat.le_of_ble_eq_true rfl) (fun M4 L4 ⟨y1, y2⟩ => ?_)
          subst y1
          refine r_iload_n dX10_ahead_123 rfl ?_
          exact r_iret dX10_ahead_124 rfl (mq_ok hq ht (by rw [y2, mU_n (by omega)]; exact t3) (by rw [zk, ← ev]) (by rw [y2]; exact fx_c f3 (by omega)) (by rw [y2, mU_s]; intro i hi; simp only [if_pos hi]; rw [q3]; exact q2 i hi) (by rw [y2]; exact mh_c r3 (by omega) (by omega)))
        refine r_iload_n dX10_ahead_50 rfl ?_
        refine r_iload_n dX10_ahead_51 rfl ?_
        refine r_icmp_ge 69 dX10_ahead_52 (by decide) (fun _ => ?_) (fun z => absurd (nI_le (Nat.le_refl _) (by omega)) z)
        refine r_iload_n dX10_ahead_69 rfl ?_
        refine r_if_ne 81 dX10_ahead_70 (by decide) (fun h70 => ?_) (fun h70 => ?_)
        · refine r_iload_n dX10_ahead_81 rfl ?_
          refine r_iconst_1 dX10_ahead_82 ?_
          refine r_icmp_ne 94 dX10_ahead_83 (by decide) (fun h83 => ?_) (fun h83 => ?_)
          · refine r_iload_n dX10_ahead_94 rfl ?_
            refine r_iconst_2 dX10_ahead_95 ?_
            refine r_icmp_ne 109 dX10_ahead_96 (by decide) (fun h96 => ?_) (fun h96 => ?_)
            · refine r_aload_n dX10_ahead_109 rfl ?_
              refine m_cv0 dX10_ahead_110 cv_X10_266 (c_X10_freeSlots a3 g1.2.2.1 gJ.1 gJ.2.1) rfl ob_model ⟨_, rfl, rfl⟩ ⟨rfl, rfl⟩ (by decide) (by decide) (Nat.le_of_ble_eq_true rfl) ?_
              exact fin _ (by simp_all [vlAh])
            · refine r_aload_n dX10_ahead_99 rfl ?_
              refine m_get 10 0 dX10_ahead_100 fl_X10_7 ob_model rfl ?_
              refine r_bipush 8 dX10_ahead_103 (by decide) ?_
              refine m_iald 8 dX10_ahead_105 ai_a rfl (by omega) (by first | decide | assumption) ?_
              refine r_goto 113 dX10_ahead_106 (by decide) ?_
              exact fin _ (by simp_all [vlAh])
          · refine r_aload_n dX10_ahead_86 rfl ?_
            refine r_iconst_0 dX10_ahead_87 ?_
            refine m_cv1 dX10_ahead_88 cv_X10_263 (c_X10_inState a3 gJ.1 gJ.2.1) rfl ob_model ⟨_, rfl, rfl⟩ ⟨rfl, rfl⟩ (by decide) (by decide) (Nat.le_of_ble_eq_true rfl) ?_
            refine r_goto 113 dX10_ahead_91 (by decide) ?_
            exact fin _ (by simp_all [vlAh])
        · refine r_aload_n dX10_ahead_73 rfl ?_
          refine r_iconst_2 dX10_ahead_74 ?_
          refine m_cv1 dX10_ahead_75 cv_X10_263 (c_X10_inState a3 gJ.1 gJ.2.1) rfl ob_model ⟨_, rfl, rfl⟩ ⟨rfl, rfl⟩ (by decide) (by decide) (Nat.le_of_ble_eq_true rfl) ?_
          refine r_goto 113 dX10_ahead_78 (by decide) ?_
          exact fin _ (by simp_all [vlAh])
      · intro k hk ih M3 a3 q3 r3 f3 t3 
        obtain ⟨g1, g2, g3⟩ := tkN_ok hW hV k (by omega)
        refine r_iload_n dX10_ahead_50 rfl ?_
        refine r_iload_n dX10_ahead_51 rfl ?_
        refine r_icmp_ge 69 dX10_ahead_52 (by decide) (fun z => absurd z (nI_ge hk (by omega))) (fun _ => ?_)
        refine r_aload_n dX10_ahead_55 rfl ?_
        refine r_aload_n dX10_ahead_56 rfl ?_
        refine m_pv0 dX10_ahead_57 cv_X10_275 (c_X10_ticksOnce a3 g1 (wv_tick g1 (by omega) g2).1 (by omega)) ob_model ⟨_, rfl, rfl⟩ ⟨rfl, rfl⟩ (by decide) (by decide) (Nat.le_of_ble_eq_true rfl) (fun M4 L4 ⟨y1, y2, y3⟩ => ?_)
        subst y1
        refine m_put 10 17 dX10_ahead_60 fl_X10_278 (fun r hr => by cases hr; rfl) ob_model (Nat.le_of_ble_eq_true rfl) rfl ?_
        refine s_iinc dX10_ahead_63 rfl (by decide) rfl ?_
        refine r_goto 50 dX10_ahead_66 (by decide) ?_
        refine m_sub (ih _ (by rw [mU_n (by omega)]; exact y3) (by rw [mU_n (by omega), y2 320 (by omega) (by omega)]; exact q3) ?_ ?_ (by rw [mU_s, upd_ne (by omega), y2 317 (by omega) (by omega)]; exact t3)) (by simp [a_sub, nI_succ])
        · exact ⟨r3.1, by rw [mU_s, upd_ne (by omega), y2 317 (by omega) (by omega)]; exact r3.2.1, fun r b hr t htt => by rw [mU_n (by omega), y2 321 (by omega) (by omega)]; exact r3.2.2 r b hr t htt⟩
        · refine fx_t (fx_t f3 (fx_fm y2)) ⟨fun c g1 _ _ _ _ _ => mU_n g1, ?_, ?_, ?_⟩ <;> rw [mU_s, upd_ne (by omega)]
    refine r_iconst_0 dX10_ahead_48 ?_
    refine s_istore_n 3 dX10_ahead_49 (by decide) rfl rfl ?_
    exact m_sub (lp 0 (by omega) M2 e2 rfl r2 f2 t2) (by simp [a_sub, nI_0])
  refine a_met (by decide +kernel) rfl rfl (Nat.le_of_ble_eq_true rfl) (by simp [Value.category]) (by decide) rfl ?_
  show AW I_X10_ahead 0 [.ref 317, .int n, .int w, .null] [] (hS M L dd) 0 0 Q
  refine r_aload_n dX10_ahead_0 rfl ?_
  refine r_iload_n dX10_ahead_1 rfl ?_
  refine r_iconst_1 dX10_ahead_2 ?_
  refine r_bipush 100 dX10_ahead_3 (by decide) ?_
  refine m_cs3 dX10_ahead_5 cs_X10_54 (c_X10_isIn) rfl ⟨rfl, rfl⟩ (by decide) (by decide) (Nat.le_of_ble_eq_true rfl) ?_
  refine r_if_eq 24 dX10_ahead_8 (by decide) (fun h8 => ?_) (fun h8 => ?_)
  · rw [bI_0] at h8
    refine r_iconst_1 dX10_ahead_24 ?_
    refine m_put 10 5 dX10_ahead_25 fl_X10_42 (fun r hr => by cases hr; rfl) ob_model (Nat.le_of_ble_eq_true rfl) rfl ?_
    refine r_aload_n dX10_ahead_28 rfl ?_
    refine m_get 10 5 dX10_ahead_29 fl_X10_42 ob_model rfl ?_
    refine r_if_le 37 dX10_ahead_32 (by decide) (fun z => absurd z (by rw [mU_s, upd_eq]; decide)) (fun _ => ?_)
    refine r_iconst_0 dX10_ahead_35 ?_
    exact r_iret dX10_ahead_36 rfl (mq_t hq hA hR (by decide) (by rw [thAh, if_neg (fun z => h8 z.1)]))
  · rw [bI_0, Decidable.not_not] at h8
    refine r_iload_n dX10_ahead_11 rfl ?_
    refine r_iconst_0 dX10_ahead_12 ?_
    refine r_iconst_3 dX10_ahead_13 ?_
    refine m_cs3 dX10_ahead_14 cs_X10_54 (c_X10_isIn) rfl ⟨rfl, rfl⟩ (by decide) (by decide) (Nat.le_of_ble_eq_true rfl) ?_
    refine r_if_eq 24 dX10_ahead_17 (by decide) (fun h17 => ?_) (fun h17 => ?_)
    · rw [bI_0] at h17
      refine r_iconst_1 dX10_ahead_24 ?_
      refine m_put 10 5 dX10_ahead_25 fl_X10_42 (fun r hr => by cases hr; rfl) ob_model (Nat.le_of_ble_eq_true rfl) rfl ?_
      refine r_aload_n dX10_ahead_28 rfl ?_
      refine m_get 10 5 dX10_ahead_29 fl_X10_42 ob_model rfl ?_
      refine r_if_le 37 dX10_ahead_32 (by decide) (fun z => absurd z (by rw [mU_s, upd_eq]; decide)) (fun _ => ?_)
      refine r_iconst_0 dX10_ahead_35 ?_
      exact r_iret dX10_ahead_36 rfl (mq_t hq hA hR (by decide) (by rw [thAh, if_neg (fun z => h17 z.2)]))
    · rw [bI_0, Decidable.not_not] at h17
      obtain ⟨N, hN, eN⟩ := ix_c (u := n) 100 (by omega) ⟨Int32.le_trans (by decide) h8.1, h8.2⟩
      refine r_iconst_0 dX10_ahead_20 ?_
      refine r_goto 25 dX10_ahead_21 (by decide) ?_
      refine m_put 10 5 dX10_ahead_25 fl_X10_42 (fun r hr => by cases hr; rfl) ob_model (Nat.le_of_ble_eq_true rfl) rfl ?_
      refine r_aload_n dX10_ahead_28 rfl ?_
      refine m_get 10 5 dX10_ahead_29 fl_X10_42 ob_model rfl ?_
      refine r_if_le 37 dX10_ahead_32 (by decide) (fun _ => ?_) (fun z => absurd (by rw [mU_s, upd_eq]; decide) z)
      exact cont (by rw [thAh, if_pos ⟨h8, h17⟩]) N eN hN _ (by rw [mU_n (by omega)]; exact hA) (mh_th hR) fx_th (by rw [mU_s, upd_eq])
end MODEL11
