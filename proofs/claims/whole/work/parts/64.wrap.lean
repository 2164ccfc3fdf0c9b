/-! THE LAW'S WRAPPERS: a call of the class, what it throws as a number -/
theorem hd_count_0 : a_hd I_L_count 4 ex_A 12 3 13 := ⟨by decide, ⟨[], _, [], rfl, rfl, by decide, by decide, k_526, g_533, fun z hz => absurd hz List.not_mem_nil⟩, Or.inl ⟨⟨3, by decide⟩, dL_count_12, rfl, rfl⟩, by decide⟩
theorem hd_user_0 : a_hd I_L_user 5 ex_I 13 4 15 := ⟨by decide, ⟨[], _, [_], rfl, rfl, by decide, by decide, k_829, g_841, fun z hz => absurd hz List.not_mem_nil⟩, Or.inr ⟨dL_user_13, rfl⟩, by decide⟩
theorem hd_user_1 : a_hd I_L_user 5 ex_A 17 4 19 := ⟨by decide, ⟨[_], _, [], rfl, rfl, by decide, by decide, k_526, g_533, by
  intro z hz
  simp only [List.mem_cons, List.not_mem_nil, or_false] at hz
  rcases hz with rfl
  · exact ⟨by decide, ex_I, by decide, by decide, k_829⟩⟩, Or.inr ⟨dL_user_17, rfl⟩, by decide⟩
theorem hd_addUser_0 : a_hd I_L_addUser 5 ex_I 13 4 15 := ⟨by decide, ⟨[], _, [_, _], rfl, rfl, by decide, by decide, k_829, g_841, fun z hz => absurd hz List.not_mem_nil⟩, Or.inr ⟨dL_addUser_13, rfl⟩, by decide⟩
theorem hd_addUser_1 : a_hd I_L_addUser 5 ex_A 17 4 19 := ⟨by decide, ⟨[_], _, [_], rfl, rfl, by decide, by decide, k_526, g_533, by
  intro z hz
  simp only [List.mem_cons, List.not_mem_nil, or_false] at hz
  rcases hz with rfl
  · exact ⟨by decide, ex_I, by decide, by decide, k_829⟩⟩, Or.inr ⟨dL_addUser_17, rfl⟩, by decide⟩
theorem hd_addUser_2 : a_hd I_L_addUser 5 ex_S 21 4 23 := ⟨by decide, ⟨[_, _], _, [], rfl, rfl, by decide, by decide, k_446, g_453, by
  intro z hz
  simp only [List.mem_cons, List.not_mem_nil, or_false] at hz
  rcases hz with rfl | rfl
  · exact ⟨by decide, ex_I, by decide, by decide, k_829⟩
  · exact ⟨by decide, ex_A, by decide, by decide, k_526⟩⟩, Or.inr ⟨dL_addUser_21, rfl⟩, by decide⟩
theorem hd_setShares_0 : a_hd I_L_setShares 5 ex_I 13 4 15 := ⟨by decide, ⟨[], _, [_], rfl, rfl, by decide, by decide, k_829, g_841, fun z hz => absurd hz List.not_mem_nil⟩, Or.inr ⟨dL_setShares_13, rfl⟩, by decide⟩
theorem hd_setShares_1 : a_hd I_L_setShares 5 ex_A 17 4 19 := ⟨by decide, ⟨[_], _, [], rfl, rfl, by decide, by decide, k_526, g_533, by
  intro z hz
  simp only [List.mem_cons, List.not_mem_nil, or_false] at hz
  rcases hz with rfl
  · exact ⟨by decide, ex_I, by decide, by decide, k_829⟩⟩, Or.inr ⟨dL_setShares_17, rfl⟩, by decide⟩
theorem hd_lend_0 : a_hd I_L_lend 9 ex_I 17 6 19 := ⟨by decide, ⟨[], _, [_, _], rfl, rfl, by decide, by decide, k_829, g_841, fun z hz => absurd hz List.not_mem_nil⟩, Or.inr ⟨dL_lend_17, rfl⟩, by decide⟩
theorem hd_lend_1 : a_hd I_L_lend 9 ex_A 21 6 23 := ⟨by decide, ⟨[_], _, [_], rfl, rfl, by decide, by decide, k_526, g_533, by
  intro z hz
  simp only [List.mem_cons, List.not_mem_nil, or_false] at hz
  rcases hz with rfl
  · exact ⟨by decide, ex_I, by decide, by decide, k_829⟩⟩, Or.inr ⟨dL_lend_21, rfl⟩, by decide⟩
theorem hd_lend_2 : a_hd I_L_lend 9 ex_S 25 6 27 := ⟨by decide, ⟨[_, _], _, [], rfl, rfl, by decide, by decide, k_446, g_453, by
  intro z hz
  simp only [List.mem_cons, List.not_mem_nil, or_false] at hz
  rcases hz with rfl | rfl
  · exact ⟨by decide, ex_I, by decide, by decide, k_829⟩
  · exact ⟨by decide, ex_A, by decide, by decide, k_526⟩⟩, Or.inr ⟨dL_lend_25, rfl⟩, by decide⟩
theorem hd_loan_0 : a_hd I_L_loan 5 ex_I 13 4 15 := ⟨by decide, ⟨[], _, [_], rfl, rfl, by decide, by decide, k_829, g_841, fun z hz => absurd hz List.not_mem_nil⟩, Or.inr ⟨dL_loan_13, rfl⟩, by decide⟩
theorem hd_loan_1 : a_hd I_L_loan 5 ex_A 17 4 19 := ⟨by decide, ⟨[_], _, [], rfl, rfl, by decide, by decide, k_526, g_533, by
  intro z hz
  simp only [List.mem_cons, List.not_mem_nil, or_false] at hz
  rcases hz with rfl
  · exact ⟨by decide, ex_I, by decide, by decide, k_829⟩⟩, Or.inr ⟨dL_loan_17, rfl⟩, by decide⟩
theorem hd_balance_0 : a_hd I_L_balance 4 ex_I 12 3 13 := ⟨by decide, ⟨[], _, [], rfl, rfl, by decide, by decide, k_829, g_841, fun z hz => absurd hz List.not_mem_nil⟩, Or.inl ⟨⟨3, by decide⟩, dL_balance_12, rfl, rfl⟩, by decide⟩
theorem hd_ranked_0 : a_hd I_L_ranked 4 ex_I 12 3 13 := ⟨by decide, ⟨[], _, [], rfl, rfl, by decide, by decide, k_829, g_841, fun z hz => absurd hz List.not_mem_nil⟩, Or.inl ⟨⟨3, by decide⟩, dL_ranked_12, rfl, rfl⟩, by decide⟩
theorem hd_machine_0 : a_hd I_L_machine 5 ex_I 13 4 15 := ⟨by decide, ⟨[], _, [_], rfl, rfl, by decide, by decide, k_829, g_841, fun z hz => absurd hz List.not_mem_nil⟩, Or.inr ⟨dL_machine_13, rfl⟩, by decide⟩
theorem hd_machine_1 : a_hd I_L_machine 5 ex_A 17 4 19 := ⟨by decide, ⟨[_], _, [], rfl, rfl, by decide, by decide, k_526, g_533, by
  intro z hz
  simp only [List.mem_cons, List.not_mem_nil, or_false] at hz
  rcases hz with rfl
  · exact ⟨by decide, ex_I, by decide, by decide, k_829⟩⟩, Or.inr ⟨dL_machine_17, rfl⟩, by decide⟩
theorem hd_job_0 : a_hd I_L_job 5 ex_I 13 4 15 := ⟨by decide, ⟨[], _, [_], rfl, rfl, by decide, by decide, k_829, g_841, fun z hz => absurd hz List.not_mem_nil⟩, Or.inr ⟨dL_job_13, rfl⟩, by decide⟩
theorem hd_job_1 : a_hd I_L_job 5 ex_A 17 4 19 := ⟨by decide, ⟨[_], _, [], rfl, rfl, by decide, by decide, k_526, g_533, by
  intro z hz
  simp only [List.mem_cons, List.not_mem_nil, or_false] at hz
  rcases hz with rfl
  · exact ⟨by decide, ex_I, by decide, by decide, k_829⟩⟩, Or.inr ⟨dL_job_17, rfl⟩, by decide⟩
theorem hd_first_0 : a_hd I_L_first 3 a_NSE 11 2 12 := ⟨by decide, ⟨[], _, [], rfl, rfl, by decide, by decide, k_1007, g_1015, fun z hz => absurd hz List.not_mem_nil⟩, Or.inl ⟨⟨2, by decide⟩, dL_first_11, rfl, rfl⟩, by decide⟩
theorem hd_submit_0 : a_hd I_L_submit 5 ex_I 13 4 15 := ⟨by decide, ⟨[], _, [_, _], rfl, rfl, by decide, by decide, k_829, g_841, fun z hz => absurd hz List.not_mem_nil⟩, Or.inr ⟨dL_submit_13, rfl⟩, by decide⟩
theorem hd_submit_1 : a_hd I_L_submit 5 ex_A 17 4 19 := ⟨by decide, ⟨[_], _, [_], rfl, rfl, by decide, by decide, k_526, g_533, by
  intro z hz
  simp only [List.mem_cons, List.not_mem_nil, or_false] at hz
  rcases hz with rfl
  · exact ⟨by decide, ex_I, by decide, by decide, k_829⟩⟩, Or.inr ⟨dL_submit_17, rfl⟩, by decide⟩
theorem hd_submit_2 : a_hd I_L_submit 5 ex_S 21 4 23 := ⟨by decide, ⟨[_, _], _, [], rfl, rfl, by decide, by decide, k_446, g_453, by
  intro z hz
  simp only [List.mem_cons, List.not_mem_nil, or_false] at hz
  rcases hz with rfl | rfl
  · exact ⟨by decide, ex_I, by decide, by decide, k_829⟩
  · exact ⟨by decide, ex_A, by decide, by decide, k_526⟩⟩, Or.inr ⟨dL_submit_21, rfl⟩, by decide⟩
theorem hd_cancel_0 : a_hd I_L_cancel 4 ex_I 12 3 13 := ⟨by decide, ⟨[], _, [_], rfl, rfl, by decide, by decide, k_829, g_841, fun z hz => absurd hz List.not_mem_nil⟩, Or.inl ⟨⟨3, by decide⟩, dL_cancel_12, rfl, rfl⟩, by decide⟩
theorem hd_cancel_1 : a_hd I_L_cancel 4 ex_S 15 3 16 := ⟨by decide, ⟨[_], _, [], rfl, rfl, by decide, by decide, k_446, g_453, by
  intro z hz
  simp only [List.mem_cons, List.not_mem_nil, or_false] at hz
  rcases hz with rfl
  · exact ⟨by decide, ex_I, by decide, by decide, k_829⟩⟩, Or.inl ⟨⟨3, by decide⟩, dL_cancel_15, rfl, rfl⟩, by decide⟩
theorem hd_setUp_0 : a_hd I_L_setUp 5 ex_I 13 4 15 := ⟨by decide, ⟨[], _, [], rfl, rfl, by decide, by decide, k_829, g_841, fun z hz => absurd hz List.not_mem_nil⟩, Or.inr ⟨dL_setUp_13, rfl⟩, by decide⟩
theorem hd_set_0 : a_hd I_L_set 5 ex_A 13 4 15 := ⟨by decide, ⟨[], _, [], rfl, rfl, by decide, by decide, k_526, g_533, fun z hz => absurd hz List.not_mem_nil⟩, Or.inr ⟨dL_set_13, rfl⟩, by decide⟩
theorem hd_tick_0 : a_hd I_L_tick 4 ex_A 12 3 13 := ⟨by decide, ⟨[], _, [_], rfl, rfl, by decide, by decide, k_526, g_533, fun z hz => absurd hz List.not_mem_nil⟩, Or.inl ⟨⟨3, by decide⟩, dL_tick_12, rfl, rfl⟩, by decide⟩
theorem hd_tick_1 : a_hd I_L_tick 4 ex_S 15 3 16 := ⟨by decide, ⟨[_], _, [], rfl, rfl, by decide, by decide, k_446, g_453, by
  intro z hz
  simp only [List.mem_cons, List.not_mem_nil, or_false] at hz
  rcases hz with rfl
  · exact ⟨by decide, ex_A, by decide, by decide, k_526⟩⟩, Or.inl ⟨⟨3, by decide⟩, dL_tick_15, rfl, rfl⟩, by decide⟩
theorem hd_finishedIn_0 : a_hd I_L_finishedIn 4 ex_I 12 3 13 := ⟨by decide, ⟨[], _, [_], rfl, rfl, by decide, by decide, k_829, g_841, fun z hz => absurd hz List.not_mem_nil⟩, Or.inl ⟨⟨3, by decide⟩, dL_finishedIn_12, rfl, rfl⟩, by decide⟩
theorem hd_finishedIn_1 : a_hd I_L_finishedIn 4 ex_S 15 3 16 := ⟨by decide, ⟨[_], _, [], rfl, rfl, by decide, by decide, k_446, g_453, by
  intro z hz
  simp only [List.mem_cons, List.not_mem_nil, or_false] at hz
  rcases hz with rfl
  · exact ⟨by decide, ex_I, by decide, by decide, k_829⟩⟩, Or.inl ⟨⟨3, by decide⟩, dL_finishedIn_15, rfl, rfl⟩, by decide⟩
theorem hd_ahead_0 : a_hd I_L_ahead 5 ex_A 13 4 15 := ⟨by decide, ⟨[], _, [], rfl, rfl, by decide, by decide, k_526, g_533, fun z hz => absurd hz List.not_mem_nil⟩, Or.inr ⟨dL_ahead_13, rfl⟩, by decide⟩
theorem hd_writtenByte_0 : a_hd I_L_writtenByte 4 ex_I 12 3 13 := ⟨by decide, ⟨[], _, [], rfl, rfl, by decide, by decide, k_829, g_841, fun z hz => absurd hz List.not_mem_nil⟩, Or.inl ⟨⟨3, by decide⟩, dL_writtenByte_12, rfl, rfl⟩, by decide⟩
theorem hd_undo_0 : a_hd I_L_undo 3 ex_S 11 2 12 := ⟨by decide, ⟨[], _, [], rfl, rfl, by decide, by decide, k_446, g_453, fun z hz => absurd hz List.not_mem_nil⟩, Or.inl ⟨⟨2, by decide⟩, dL_undo_11, rfl, rfl⟩, by decide⟩
theorem hd_worth_0 : a_hd I_L_worth 5 ex_I 12 4 14 := ⟨by decide, ⟨[], _, [_, _], rfl, rfl, by decide, by decide, k_829, g_841, fun z hz => absurd hz List.not_mem_nil⟩, Or.inr ⟨dL_worth_12, rfl⟩, by decide⟩
theorem hd_worth_1 : a_hd I_L_worth 5 ex_A 16 4 18 := ⟨by decide, ⟨[_], _, [_], rfl, rfl, by decide, by decide, k_526, g_533, by
  intro z hz
  simp only [List.mem_cons, List.not_mem_nil, or_false] at hz
  rcases hz with rfl
  · exact ⟨by decide, ex_I, by decide, by decide, k_829⟩⟩, Or.inr ⟨dL_worth_16, rfl⟩, by decide⟩
theorem hd_worth_2 : a_hd I_L_worth 5 ex_S 20 4 22 := ⟨by decide, ⟨[_, _], _, [], rfl, rfl, by decide, by decide, k_446, g_453, by
  intro z hz
  simp only [List.mem_cons, List.not_mem_nil, or_false] at hz
  rcases hz with rfl | rfl
  · exact ⟨by decide, ex_I, by decide, by decide, k_829⟩
  · exact ⟨by decide, ex_A, by decide, by decide, k_526⟩⟩, Or.inr ⟨dL_worth_20, rfl⟩, by decide⟩
theorem hd_append_0 : a_hd I_L_append 11 ex_S 19 7 21 := ⟨by decide, ⟨[], _, [], rfl, rfl, by decide, by decide, k_446, g_453, fun z hz => absurd hz List.not_mem_nil⟩, Or.inr ⟨dL_append_19, rfl⟩, by decide⟩
theorem hd_load_0 : a_hd I_L_load 4 ex_A 12 3 13 := ⟨by decide, ⟨[], _, [], rfl, rfl, by decide, by decide, k_526, g_533, fun z hz => absurd hz List.not_mem_nil⟩, Or.inl ⟨⟨3, by decide⟩, dL_load_12, rfl, rfl⟩, by decide⟩
theorem hd_part_0 : a_hd I_L_part 4 ex_I 12 3 13 := ⟨by decide, ⟨[], _, [_], rfl, rfl, by decide, by decide, k_829, g_841, fun z hz => absurd hz List.not_mem_nil⟩, Or.inl ⟨⟨3, by decide⟩, dL_part_12, rfl, rfl⟩, by decide⟩
theorem hd_part_1 : a_hd I_L_part 4 a_NSE 15 3 16 := ⟨by decide, ⟨[_], _, [], rfl, rfl, by decide, by decide, k_1007, g_1015, by
  intro z hz
  simp only [List.mem_cons, List.not_mem_nil, or_false] at hz
  rcases hz with rfl
  · exact ⟨by decide, ex_I, by decide, by decide, k_829⟩⟩, Or.inl ⟨⟨3, by decide⟩, dL_part_15, rfl, rfl⟩, by decide⟩
theorem cat_r {ls : List Value} {j : Nat} {w : Value} (h : ls[j]? = some w) (hc : ls.all (fun v => v.category == 1) = true) : w.category = 1 := by
  have := List.all_eq_true.mp hc w (List.mem_of_getElem? h)
  exact of_decide_eq_true this
section WRAP
variable {I : a_I} {pc uc us : Nat} {ls st : List Value} {M : Nat → Nat → Int32} {L : Nat → Nat → Int64} {dd : UInt64} {a a' : Row} {R R' : List Row} {thr : Int32} {V : Value → Prop} {Q : a_Q} {l : List String}
theorem m_xw {ix c ci n : Nat} {y : MethodName} {I' : a_I} {As : List Value} {vs : (Nat → Int32) → List Value} (hd : decode (i_cc I) pc = .ok (.invokevirtual ix, 3)) (hc : a_CV (i_own I) ix y I' n) (hM : XQa y I' (.ref c :: As) M L dd thr l V a a' R R') (hn : As.length = n) (ho : OB c ci vs) (hci : ∃ r, a_cls[ci]? = some r ∧ r.1 = y.cls)
    (hd1 : i_d I' + 1 ≤ i_d I) (hnl : i_nL I' ≤ 40) (hst : (st.map fun v => v.category).sum ≤ 8) (hu : uc + i_mc I' ≤ i_mc I) (hv : us + i_ms I' ≤ i_ms I)
    (k0 : ∀ x M' L', thr = 0 → V x → Gx M M' → GL L L' → CS M' a' R' → AW I (pc + 3) ls (x :: st) (hS M' L' dd) (uc + i_mc I') (us + i_ms I') Q)
    (k1 : ∀ M' L', thr ≠ 0 → Gx M M' → GL L L' → CS M' a R → ∃ tgt k nx, a_hd I pc (exL l thr) tgt k nx ∧ (∀ j w, ls[j]? = some w → j + 1 = k → w.category = 1) ∧ AW I nx (ls.set k .null) [] (hS M' L' dd) (uc + i_mc I') (us + i_ms I') Q) : AW I pc ls (As.reverse ++ .ref c :: st) (hS M L dd) uc us Q := by
  refine r_callV hd hc hM hn ((hp_at ho.1).trans (by rw [ho.2])) hci ⟨hd1, hnl, hst, hu, hv⟩ ⟨?_, ?_⟩
  · rintro v h2 ⟨M', L', rfl, x1, x2, x⟩
    refine ⟨fun z => (Bool.false_ne_true z).elim, ?_⟩
    rcases x with ⟨h0, ⟨x, e, hv⟩, x3⟩ | ⟨h0, e, x3⟩
    · cases e; exact k0 x M' L' h0 hv x1 x2 x3
    · cases e
  · rintro E h2 ⟨M', L', rfl, x1, x2, x⟩
    rcases x with ⟨h0, ⟨x, e, hv⟩, x3⟩ | ⟨h0, e, x3⟩
    · cases e
    · cases e
      obtain ⟨tgt, k, nx, y1, y2, y3⟩ := k1 M' L' h0 x1 x2 x3
      exact Or.inr ⟨tgt, k, nx, y1, rfl, y2, y3⟩
def XWg (y : MethodName) (I : a_I) (As : List Value) (M : Nat → Nat → Int32) (L : Nat → Nat → Int64) (dd : UInt64) (thr : Int32) (V : Int64 → Prop) (a a' : Row) (R R' : List Row) : Prop :=
  AM y I As (hS M L dd) (fun o h' => ∃ M' L', o = .inl (some (.int thr)) ∧ h' = hS M' L' dd ∧ Gx M M' ∧ (∀ c, 313 ≤ c → c ≠ 325 → L' c = L c) ∧ ((thr = 0 ∧ V (L' 325 0) ∧ CS M' a' R') ∨ (thr ≠ 0 ∧ CS M' a R)))
abbrev XW (y : MethodName) (I : a_I) (As : List Value) (M : Nat → Nat → Int32) (L : Nat → Nat → Int64) (dd : UInt64) (thr : Int32) (V : Value → Prop) (a a' : Row) (R R' : List Row) : Prop := XWg y I As M L dd thr (fun z => ∀ e : Int32, (∀ x, V x → x = .int e) → z = e.toInt64) a a' R R'
abbrev XWl (y : MethodName) (I : a_I) (As : List Value) (M : Nat → Nat → Int32) (L : Nat → Nat → Int64) (dd : UInt64) (thr : Int32) (V : Value → Prop) (a a' : Row) (R R' : List Row) : Prop := XWg y I As M L dd thr (fun z => ∀ e : Int64, (∀ x, V x → x = .long e) → z = e) a a' R R'
theorem w_count {p1 : Int32} (ht : thr = 0 ∨ thr = 1) (hV : thr = 0 → ∃ e : Int32, ∀ x, V x → x = .int e) (hM : XQa yX9_count I_X9_count [.ref 0, .int p1] M L dd thr [ex_A] V a a' R R') : XW yL_count I_L_count [.ref 0, .int p1, .ref 325] M L dd thr V a a' R R' := by
  refine am_mk (fun Q hq => ?_)
  refine a_metH (by decide +kernel) rfl (by decide) (Nat.le_of_ble_eq_true rfl) (by simp [Value.category]) (by decide) rfl ?_
  show AW I_L_count 0 [.ref 0, .int p1, .ref 325, .null] [] (hS M L dd) 0 0 Q
  refine r_aload_n dL_count_0 rfl ?_
  refine r_iconst_0 dL_count_1 ?_
  refine r_aload_n dL_count_2 rfl ?_
  refine r_iload_n dL_count_3 rfl ?_
  refine m_xw (As := [.int p1]) dL_count_4 cv_L_21 hM rfl ob_x ⟨_, rfl, rfl⟩ (by decide) (by decide) (Nat.le_of_ble_eq_true rfl) (by decide) (by decide) (fun x M1 L1 h0 hv x1 x2 x3 => ?_) (fun M1 L1 h0 x1 x2 x3 => ?_)
  · obtain ⟨e, he⟩ := hV h0
    have ex := he x hv
    subst ex
    refine r_i2l dL_count_7 ?_
    refine m_last 0 dL_count_8 al_out rfl (by omega) (by first | decide | assumption) ?_
    refine r_goto 15 dL_count_9 (by decide) ?_
    refine r_iconst_0 dL_count_15 ?_
    exact r_iret dL_count_16 rfl (hq _ _ ⟨M1, _, by rw [h0], rfl, x1, fun c h1 h2 => by rw [mL_n h2]; exact x2 c h1, Or.inl ⟨h0, fun e2 he2 => by cases he2 _ hv; exact (congrFun mL_s 0).trans (if_pos rfl), x3⟩⟩)
  · rcases ht with ht | ht
    · exact absurd ht h0
    · refine ⟨12, 3, 13, by rw [ht]; exact hd_count_0, fun j w hj hk => ?_, ?_⟩
      · exact cat_r (show [.ref 0, .int p1, .ref 325, .null][j]? = some w from hj) rfl
      · exact r_iconst_1 dL_count_13 (r_iret dL_count_14 rfl (hq _ _ ⟨M1, L1, by rw [ht], rfl, x1, fun c h1 _ => x2 c h1, Or.inr ⟨h0, x3⟩⟩))
theorem w_user {p1 p2 : Int32} (ht : thr = 0 ∨ thr = 1 ∨ thr = 2) (hV : thr = 0 → ∃ e : Int32, ∀ x, V x → x = .int e) (hM : XQa yX9_user I_X9_user [.ref 0, .int p1, .int p2] M L dd thr [ex_I, ex_A] V a a' R R') : XW yL_user I_L_user [.ref 0, .int p1, .int p2, .ref 325] M L dd thr V a a' R R' := by
  refine am_mk (fun Q hq => ?_)
  refine a_metH (by decide +kernel) rfl (by decide) (Nat.le_of_ble_eq_true rfl) (by simp [Value.category]) (by decide) rfl ?_
  show AW I_L_user 0 [.ref 0, .int p1, .int p2, .ref 325, .null] [] (hS M L dd) 0 0 Q
  refine r_aload_n dL_user_0 rfl ?_
  refine r_iconst_0 dL_user_1 ?_
  refine r_aload_n dL_user_2 rfl ?_
  refine r_iload_n dL_user_3 rfl ?_
  refine r_iload_n dL_user_4 rfl ?_
  refine m_xw (As := [.int p1, .int p2]) dL_user_5 cv_L_24 hM rfl ob_x ⟨_, rfl, rfl⟩ (by decide) (by decide) (Nat.le_of_ble_eq_true rfl) (by decide) (by decide) (fun x M1 L1 h0 hv x1 x2 x3 => ?_) (fun M1 L1 h0 x1 x2 x3 => ?_)
  · obtain ⟨e, he⟩ := hV h0
    have ex := he x hv
    subst ex
    refine r_i2l dL_user_8 ?_
    refine m_last 0 dL_user_9 al_out rfl (by omega) (by first | decide | assumption) ?_
    refine r_goto 21 dL_user_10 (by decide) ?_
    refine r_iconst_0 dL_user_21 ?_
    exact r_iret dL_user_22 rfl (hq _ _ ⟨M1, _, by rw [h0], rfl, x1, fun c h1 h2 => by rw [mL_n h2]; exact x2 c h1, Or.inl ⟨h0, fun e2 he2 => by cases he2 _ hv; exact (congrFun mL_s 0).trans (if_pos rfl), x3⟩⟩)
  · rcases ht with ht | ht | ht
    · exact absurd ht h0
    · refine ⟨13, 4, 15, by rw [ht]; exact hd_user_0, fun j w hj hk => ?_, ?_⟩
      · exact cat_r (show [.ref 0, .int p1, .int p2, .ref 325, .null][j]? = some w from hj) rfl
      · exact r_iconst_1 dL_user_15 (r_iret dL_user_16 rfl (hq _ _ ⟨M1, L1, by rw [ht], rfl, x1, fun c h1 _ => x2 c h1, Or.inr ⟨h0, x3⟩⟩))
    · refine ⟨17, 4, 19, by rw [ht]; exact hd_user_1, fun j w hj hk => ?_, ?_⟩
      · exact cat_r (show [.ref 0, .int p1, .int p2, .ref 325, .null][j]? = some w from hj) rfl
      · exact r_iconst_2 dL_user_19 (r_iret dL_user_20 rfl (hq _ _ ⟨M1, L1, by rw [ht], rfl, x1, fun c h1 _ => x2 c h1, Or.inr ⟨h0, x3⟩⟩))
theorem w_addUser {p1 p2 : Int32} (ht : thr = 0 ∨ thr = 1 ∨ thr = 2 ∨ thr = 3) (hV : thr = 0 → ∃ e : Int32, ∀ x, V x → x = .int e) (hM : XQa yX9_addUser I_X9_addUser [.ref 0, .int p1, .int p2] M L dd thr [ex_I, ex_A, ex_S] V a a' R R') : XW yL_addUser I_L_addUser [.ref 0, .int p1, .int p2, .ref 325] M L dd thr V a a' R R' := by
  refine am_mk (fun Q hq => ?_)
  refine a_metH (by decide +kernel) rfl (by decide) (Nat.le_of_ble_eq_true rfl) (by simp [Value.category]) (by decide) rfl ?_
  show AW I_L_addUser 0 [.ref 0, .int p1, .int p2, .ref 325, .null] [] (hS M L dd) 0 0 Q
  refine r_aload_n dL_addUser_0 rfl ?_
  refine r_iconst_0 dL_addUser_1 ?_
  refine r_aload_n dL_addUser_2 rfl ?_
  refine r_iload_n dL_addUser_3 rfl ?_
  refine r_iload_n dL_addUser_4 rfl ?_
  refine m_xw (As := [.int p1, .int p2]) dL_addUser_5 cv_L_30 hM rfl ob_x ⟨_, rfl, rfl⟩ (by decide) (by decide) (Nat.le_of_ble_eq_true rfl) (by decide) (by decide) (fun x M1 L1 h0 hv x1 x2 x3 => ?_) (fun M1 L1 h0 x1 x2 x3 => ?_)
  · obtain ⟨e, he⟩ := hV h0
    have ex := he x hv
    subst ex
    refine r_i2l dL_addUser_8 ?_
    refine m_last 0 dL_addUser_9 al_out rfl (by omega) (by first | decide | assumption) ?_
    refine r_goto 25 dL_addUser_10 (by decide) ?_
    refine r_iconst_0 dL_addUser_25 ?_
    exact r_iret dL_addUser_26 rfl (hq _ _ ⟨M1, _, by rw [h0], rfl, x1, fun c h1 h2 => by rw [mL_n h2]; exact x2 c h1, Or.inl ⟨h0, fun e2 he2 => by cases he2 _ hv; exact (congrFun mL_s 0).trans (if_pos rfl), x3⟩⟩)
  · rcases ht with ht | ht | ht | ht
    · exact absurd ht h0
    · refine ⟨13, 4, 15, by rw [ht]; exact hd_addUser_0, fun j w hj hk => ?_, ?_⟩
      · exact cat_r (show [.ref 0, .int p1, .int p2, .ref 325, .null][j]? = some w from hj) rfl
      · exact r_iconst_1 dL_addUser_15 (r_iret dL_addUser_16 rfl (hq _ _ ⟨M1, L1, by rw [ht], rfl, x1, fun c h1 _ => x2 c h1, Or.inr ⟨h0, x3⟩⟩))
    · refine ⟨17, 4, 19, by rw [ht]; exact hd_addUser_1, fun j w hj hk => ?_, ?_⟩
      · exact cat_r (show [.ref 0, .int p1, .int p2, .ref 325, .null][j]? = some w from hj) rfl
      · exact r_iconst_2 dL_addUser_19 (r_iret dL_addUser_20 rfl (hq _ _ ⟨M1, L1, by rw [ht], rfl, x1, fun c h1 _ => x2 c h1, Or.inr ⟨h0, x3⟩⟩))
    · refine ⟨21, 4, 23, by rw [ht]; exact hd_addUser_2, fun j w hj hk => ?_, ?_⟩
      · exact cat_r (show [.ref 0, .int p1, .int p2, .ref 325, .null][j]? = some w from hj) rfl
      · exact r_iconst_3 dL_addUser_23 (r_iret dL_addUser_24 rfl (hq _ _ ⟨M1, L1, by rw [ht], rfl, x1, fun c h1 _ => x2 c h1, Or.inr ⟨h0, x3⟩⟩))
theorem w_setShares {p1 p2 : Int32} (ht : thr = 0 ∨ thr = 1 ∨ thr = 2) (hV : thr = 0 → ∃ e : Int32, ∀ x, V x → x = .int e) (hM : XQa yX9_setShares I_X9_setShares [.ref 0, .int p1, .int p2] M L dd thr [ex_I, ex_A] V a a' R R') : XW yL_setShares I_L_setShares [.ref 0, .int p1, .int p2, .ref 325] M L dd thr V a a' R R' := by
  refine am_mk (fun Q hq => ?_)
  refine a_metH (by decide +kernel) rfl (by decide) (Nat.le_of_ble_eq_true rfl) (by simp [Value.category]) (by decide) rfl ?_
  show AW I_L_setShares 0 [.ref 0, .int p1, .int p2, .ref 325, .null] [] (hS M L dd) 0 0 Q
  refine r_aload_n dL_setShares_0 rfl ?_
  refine r_iconst_0 dL_setShares_1 ?_
  refine r_aload_n dL_setShares_2 rfl ?_
  refine r_iload_n dL_setShares_3 rfl ?_
  refine r_iload_n dL_setShares_4 rfl ?_
  refine m_xw (As := [.int p1, .int p2]) dL_setShares_5 cv_L_33 hM rfl ob_x ⟨_, rfl, rfl⟩ (by decide) (by decide) (Nat.le_of_ble_eq_true rfl) (by decide) (by decide) (fun x M1 L1 h0 hv x1 x2 x3 => ?_) (fun M1 L1 h0 x1 x2 x3 => ?_)
  · obtain ⟨e, he⟩ := hV h0
    have ex := he x hv
    subst ex
    refine r_i2l dL_setShares_8 ?_
    refine m_last 0 dL_setShares_9 al_out rfl (by omega) (by first | decide | assumption) ?_
    refine r_goto 21 dL_setShares_10 (by decide) ?_
    refine r_iconst_0 dL_setShares_21 ?_
    exact r_iret dL_setShares_22 rfl (hq _ _ ⟨M1, _, by rw [h0], rfl, x1, fun c h1 h2 => by rw [mL_n h2]; exact x2 c h1, Or.inl ⟨h0, fun e2 he2 => by cases he2 _ hv; exact (congrFun mL_s 0).trans (if_pos rfl), x3⟩⟩)
  · rcases ht with ht | ht | ht
    · exact absurd ht h0
    · refine ⟨13, 4, 15, by rw [ht]; exact hd_setShares_0, fun j w hj hk => ?_, ?_⟩
      · exact cat_r (show [.ref 0, .int p1, .int p2, .ref 325, .null][j]? = some w from hj) rfl
      · exact r_iconst_1 dL_setShares_15 (r_iret dL_setShares_16 rfl (hq _ _ ⟨M1, L1, by rw [ht], rfl, x1, fun c h1 _ => x2 c h1, Or.inr ⟨h0, x3⟩⟩))
    · refine ⟨17, 4, 19, by rw [ht]; exact hd_setShares_1, fun j w hj hk => ?_, ?_⟩
      · exact cat_r (show [.ref 0, .int p1, .int p2, .ref 325, .null][j]? = some w from hj) rfl
      · exact r_iconst_2 dL_setShares_19 (r_iret dL_setShares_20 rfl (hq _ _ ⟨M1, L1, by rw [ht], rfl, x1, fun c h1 _ => x2 c h1, Or.inr ⟨h0, x3⟩⟩))
theorem w_lend {p1 p2 p3 p4 : Int32} (ht : thr = 0 ∨ thr = 1 ∨ thr = 2 ∨ thr = 3) (hV : thr = 0 → ∃ e : Int32, ∀ x, V x → x = .int e) (hM : XQa yX9_lend I_X9_lend [.ref 0, .int p1, .int p2, .int p3, .int p4] M L dd thr [ex_I, ex_A, ex_S] V a a' R R') : XW yL_lend I_L_lend [.ref 0, .int p1, .int p2, .int p3, .int p4, .ref 325] M L dd thr V a a' R R' := by
  refine am_mk (fun Q hq => ?_)
  refine a_metH (by decide +kernel) rfl (by decide) (Nat.le_of_ble_eq_true rfl) (by simp [Value.category]) (by decide) rfl ?_
  show AW I_L_lend 0 [.ref 0, .int p1, .int p2, .int p3, .int p4, .ref 325, .null] [] (hS M L dd) 0 0 Q
  refine r_aload dL_lend_0 rfl ?_
  refine r_iconst_0 dL_lend_2 ?_
  refine r_aload_n dL_lend_3 rfl ?_
  refine r_iload_n dL_lend_4 rfl ?_
  refine r_iload_n dL_lend_5 rfl ?_
  refine r_iload_n dL_lend_6 rfl ?_
  refine r_iload dL_lend_7 rfl ?_
  refine m_xw (As := [.int p1, .int p2, .int p3, .int p4]) dL_lend_9 cv_L_36 hM rfl ob_x ⟨_, rfl, rfl⟩ (by decide) (by decide) (Nat.le_of_ble_eq_true rfl) (by decide) (by decide) (fun x M1 L1 h0 hv x1 x2 x3 => ?_) (fun M1 L1 h0 x1 x2 x3 => ?_)
  · obtain ⟨e, he⟩ := hV h0
    have ex := he x hv
    subst ex
    refine r_i2l dL_lend_12 ?_
    refine m_last 0 dL_lend_13 al_out rfl (by omega) (by first | decide | assumption) ?_
    refine r_goto 29 dL_lend_14 (by decide) ?_
    refine r_iconst_0 dL_lend_29 ?_
    exact r_iret dL_lend_30 rfl (hq _ _ ⟨M1, _, by rw [h0], rfl, x1, fun c h1 h2 => by rw [mL_n h2]; exact x2 c h1, Or.inl ⟨h0, fun e2 he2 => by cases he2 _ hv; exact (congrFun mL_s 0).trans (if_pos rfl), x3⟩⟩)
  · rcases ht with ht | ht | ht | ht
    · exact absurd ht h0
    · refine ⟨17, 6, 19, by rw [ht]; exact hd_lend_0, fun j w hj hk => ?_, ?_⟩
      · exact cat_r (show [.ref 0, .int p1, .int p2, .int p3, .int p4, .ref 325, .null][j]? = some w from hj) rfl
      · exact r_iconst_1 dL_lend_19 (r_iret dL_lend_20 rfl (hq _ _ ⟨M1, L1, by rw [ht], rfl, x1, fun c h1 _ => x2 c h1, Or.inr ⟨h0, x3⟩⟩))
    · refine ⟨21, 6, 23, by rw [ht]; exact hd_lend_1, fun j w hj hk => ?_, ?_⟩
      · exact cat_r (show [.ref 0, .int p1, .int p2, .int p3, .int p4, .ref 325, .null][j]? = some w from hj) rfl
      · exact r_iconst_2 dL_lend_23 (r_iret dL_lend_24 rfl (hq _ _ ⟨M1, L1, by rw [ht], rfl, x1, fun c h1 _ => x2 c h1, Or.inr ⟨h0, x3⟩⟩))
    · refine ⟨25, 6, 27, by rw [ht]; exact hd_lend_2, fun j w hj hk => ?_, ?_⟩
      · exact cat_r (show [.ref 0, .int p1, .int p2, .int p3, .int p4, .ref 325, .null][j]? = some w from hj) rfl
      · exact r_iconst_3 dL_lend_27 (r_iret dL_lend_28 rfl (hq _ _ ⟨M1, L1, by rw [ht], rfl, x1, fun c h1 _ => x2 c h1, Or.inr ⟨h0, x3⟩⟩))
theorem w_loan {p1 p2 : Int32} (ht : thr = 0 ∨ thr = 1 ∨ thr = 2) (hV : thr = 0 → ∃ e : Int32, ∀ x, V x → x = .int e) (hM : XQa yX9_loan I_X9_loan [.ref 0, .int p1, .int p2] M L dd thr [ex_I, ex_A] V a a' R R') : XW yL_loan I_L_loan [.ref 0, .int p1, .int p2, .ref 325] M L dd thr V a a' R R' := by
  refine am_mk (fun Q hq => ?_)
  refine a_metH (by decide +kernel) rfl (by decide) (Nat.le_of_ble_eq_true rfl) (by simp [Value.category]) (by decide) rfl ?_
  show AW I_L_loan 0 [.ref 0, .int p1, .int p2, .ref 325, .null] [] (hS M L dd) 0 0 Q
  refine r_aload_n dL_loan_0 rfl ?_
  refine r_iconst_0 dL_loan_1 ?_
  refine r_aload_n dL_loan_2 rfl ?_
  refine r_iload_n dL_loan_3 rfl ?_
  refine r_iload_n dL_loan_4 rfl ?_
  refine m_xw (As := [.int p1, .int p2]) dL_loan_5 cv_L_40 hM rfl ob_x ⟨_, rfl, rfl⟩ (by decide) (by decide) (Nat.le_of_ble_eq_true rfl) (by decide) (by decide) (fun x M1 L1 h0 hv x1 x2 x3 => ?_) (fun M1 L1 h0 x1 x2 x3 => ?_)
  · obtain ⟨e, he⟩ := hV h0
    have ex := he x hv
    subst ex
    refine r_i2l dL_loan_8 ?_
    refine m_last 0 dL_loan_9 al_out rfl (by omega) (by first | decide | assumption) ?_
    refine r_goto 21 dL_loan_10 (by decide) ?_
    refine r_iconst_0 dL_loan_21 ?_
    exact r_iret dL_loan_22 rfl (hq _ _ ⟨M1, _, by rw [h0], rfl, x1, fun c h1 h2 => by rw [mL_n h2]; exact x2 c h1, Or.inl ⟨h0, fun e2 he2 => by cases he2 _ hv; exact (congrFun mL_s 0).trans (if_pos rfl), x3⟩⟩)
  · rcases ht with ht | ht | ht
    · exact absurd ht h0
    · refine ⟨13, 4, 15, by rw [ht]; exact hd_loan_0, fun j w hj hk => ?_, ?_⟩
      · exact cat_r (show [.ref 0, .int p1, .int p2, .ref 325, .null][j]? = some w from hj) rfl
      · exact r_iconst_1 dL_loan_15 (r_iret dL_loan_16 rfl (hq _ _ ⟨M1, L1, by rw [ht], rfl, x1, fun c h1 _ => x2 c h1, Or.inr ⟨h0, x3⟩⟩))
    · refine ⟨17, 4, 19, by rw [ht]; exact hd_loan_1, fun j w hj hk => ?_, ?_⟩
      · exact cat_r (show [.ref 0, .int p1, .int p2, .ref 325, .null][j]? = some w from hj) rfl
      · exact r_iconst_2 dL_loan_19 (r_iret dL_loan_20 rfl (hq _ _ ⟨M1, L1, by rw [ht], rfl, x1, fun c h1 _ => x2 c h1, Or.inr ⟨h0, x3⟩⟩))
theorem w_balance {p1 : Int32} (ht : thr = 0 ∨ thr = 1) (hV : thr = 0 → ∃ e : Int32, ∀ x, V x → x = .int e) (hM : XQa yX9_balance I_X9_balance [.ref 0, .int p1] M L dd thr [ex_I] V a a' R R') : XW yL_balance I_L_balance [.ref 0, .int p1, .ref 325] M L dd thr V a a' R R' := by
  refine am_mk (fun Q hq => ?_)
  refine a_metH (by decide +kernel) rfl (by decide) (Nat.le_of_ble_eq_true rfl) (by simp [Value.category]) (by decide) rfl ?_
  show AW I_L_balance 0 [.ref 0, .int p1, .ref 325, .null] [] (hS M L dd) 0 0 Q
  refine r_aload_n dL_balance_0 rfl ?_
  refine r_iconst_0 dL_balance_1 ?_
  refine r_aload_n dL_balance_2 rfl ?_
  refine r_iload_n dL_balance_3 rfl ?_
  refine m_xw (As := [.int p1]) dL_balance_4 cv_L_43 hM rfl ob_x ⟨_, rfl, rfl⟩ (by decide) (by decide) (Nat.le_of_ble_eq_true rfl) (by decide) (by decide) (fun x M1 L1 h0 hv x1 x2 x3 => ?_) (fun M1 L1 h0 x1 x2 x3 => ?_)
  · obtain ⟨e, he⟩ := hV h0
    have ex := he x hv
    subst ex
    refine r_i2l dL_balance_7 ?_
    refine m_last 0 dL_balance_8 al_out rfl (by omega) (by first | decide | assumption) ?_
    refine r_goto 15 dL_balance_9 (by decide) ?_
    refine r_iconst_0 dL_balance_15 ?_
    exact r_iret dL_balance_16 rfl (hq _ _ ⟨M1, _, by rw [h0], rfl, x1, fun c h1 h2 => by rw [mL_n h2]; exact x2 c h1, Or.inl ⟨h0, fun e2 he2 => by cases he2 _ hv; exact (congrFun mL_s 0).trans (if_pos rfl), x3⟩⟩)
  · rcases ht with ht | ht
    · exact absurd ht h0
    · refine ⟨12, 3, 13, by rw [ht]; exact hd_balance_0, fun j w hj hk => ?_, ?_⟩
      · exact cat_r (show [.ref 0, .int p1, .ref 325, .null][j]? = some w from hj) rfl
      · exact r_iconst_1 dL_balance_13 (r_iret dL_balance_14 rfl (hq _ _ ⟨M1, L1, by rw [ht], rfl, x1, fun c h1 _ => x2 c h1, Or.inr ⟨h0, x3⟩⟩))
theorem w_ranked {p1 : Int32} (ht : thr = 0 ∨ thr = 1) (hV : thr = 0 → ∃ e : Int32, ∀ x, V x → x = .int e) (hM : XQa yX9_ranked I_X9_ranked [.ref 0, .int p1] M L dd thr [ex_I] V a a' R R') : XW yL_ranked I_L_ranked [.ref 0, .int p1, .ref 325] M L dd thr V a a' R R' := by
  refine am_mk (fun Q hq => ?_)
  refine a_metH (by decide +kernel) rfl (by decide) (Nat.le_of_ble_eq_true rfl) (by simp [Value.category]) (by decide) rfl ?_
  show AW I_L_ranked 0 [.ref 0, .int p1, .ref 325, .null] [] (hS M L dd) 0 0 Q
  refine r_aload_n dL_ranked_0 rfl ?_
  refine r_iconst_0 dL_ranked_1 ?_
  refine r_aload_n dL_ranked_2 rfl ?_
  refine r_iload_n dL_ranked_3 rfl ?_
  refine m_xw (As := [.int p1]) dL_ranked_4 cv_L_46 hM rfl ob_x ⟨_, rfl, rfl⟩ (by decide) (by decide) (Nat.le_of_ble_eq_true rfl) (by decide) (by decide) (fun x M1 L1 h0 hv x1 x2 x3 => ?_) (fun M1 L1 h0 x1 x2 x3 => ?_)
  · obtain ⟨e, he⟩ := hV h0
    have ex := he x hv
    subst ex
    refine r_i2l dL_ranked_7 ?_
    refine m_last 0 dL_ranked_8 al_out rfl (by omega) (by first | decide | assumption) ?_
    refine r_goto 15 dL_ranked_9 (by decide) ?_
    refine r_iconst_0 dL_ranked_15 ?_
    exact r_iret dL_ranked_16 rfl (hq _ _ ⟨M1, _, by rw [h0], rfl, x1, fun c h1 h2 => by rw [mL_n h2]; exact x2 c h1, Or.inl ⟨h0, fun e2 he2 => by cases he2 _ hv; exact (congrFun mL_s 0).trans (if_pos rfl), x3⟩⟩)
  · rcases ht with ht | ht
    · exact absurd ht h0
    · refine ⟨12, 3, 13, by rw [ht]; exact hd_ranked_0, fun j w hj hk => ?_, ?_⟩
      · exact cat_r (show [.ref 0, .int p1, .ref 325, .null][j]? = some w from hj) rfl
      · exact r_iconst_1 dL_ranked_13 (r_iret dL_ranked_14 rfl (hq _ _ ⟨M1, L1, by rw [ht], rfl, x1, fun c h1 _ => x2 c h1, Or.inr ⟨h0, x3⟩⟩))
theorem w_machine {p1 p2 : Int32} (ht : thr = 0 ∨ thr = 1 ∨ thr = 2) (hV : thr = 0 → ∃ e : Int32, ∀ x, V x → x = .int e) (hM : XQa yX9_machine I_X9_machine [.ref 0, .int p1, .int p2] M L dd thr [ex_I, ex_A] V a a' R R') : XW yL_machine I_L_machine [.ref 0, .int p1, .int p2, .ref 325] M L dd thr V a a' R R' := by
  refine am_mk (fun Q hq => ?_)
  refine a_metH (by decide +kernel) rfl (by decide) (Nat.le_of_ble_eq_true rfl) (by simp [Value.category]) (by decide) rfl ?_
  show AW I_L_machine 0 [.ref 0, .int p1, .int p2, .ref 325, .null] [] (hS M L dd) 0 0 Q
  refine r_aload_n dL_machine_0 rfl ?_
  refine r_iconst_0 dL_machine_1 ?_
  refine r_aload_n dL_machine_2 rfl ?_
  refine r_iload_n dL_machine_3 rfl ?_
  refine r_iload_n dL_machine_4 rfl ?_
  refine m_xw (As := [.int p1, .int p2]) dL_machine_5 cv_L_53 hM rfl ob_x ⟨_, rfl, rfl⟩ (by decide) (by decide) (Nat.le_of_ble_eq_true rfl) (by decide) (by decide) (fun x M1 L1 h0 hv x1 x2 x3 => ?_) (fun M1 L1 h0 x1 x2 x3 => ?_)
  · obtain ⟨e, he⟩ := hV h0
    have ex := he x hv
    subst ex
    refine r_i2l dL_machine_8 ?_
    refine m_last 0 dL_machine_9 al_out rfl (by omega) (by first | decide | assumption) ?_
    refine r_goto 21 dL_machine_10 (by decide) ?_
    refine r_iconst_0 dL_machine_21 ?_
    exact r_iret dL_machine_22 rfl (hq _ _ ⟨M1, _, by rw [h0], rfl, x1, fun c h1 h2 => by rw [mL_n h2]; exact x2 c h1, Or.inl ⟨h0, fun e2 he2 => by cases he2 _ hv; exact (congrFun mL_s 0).trans (if_pos rfl), x3⟩⟩)
  · rcases ht with ht | ht | ht
    · exact absurd ht h0
    · refine ⟨13, 4, 15, by rw [ht]; exact hd_machine_0, fun j w hj hk => ?_, ?_⟩
      · exact cat_r (show [.ref 0, .int p1, .int p2, .ref 325, .null][j]? = some w from hj) rfl
      · exact r_iconst_1 dL_machine_15 (r_iret dL_machine_16 rfl (hq _ _ ⟨M1, L1, by rw [ht], rfl, x1, fun c h1 _ => x2 c h1, Or.inr ⟨h0, x3⟩⟩))
    · refine ⟨17, 4, 19, by rw [ht]; exact hd_machine_1, fun j w hj hk => ?_, ?_⟩
      · exact cat_r (show [.ref 0, .int p1, .int p2, .ref 325, .null][j]? = some w from hj) rfl
      · exact r_iconst_2 dL_machine_19 (r_iret dL_machine_20 rfl (hq _ _ ⟨M1, L1, by rw [ht], rfl, x1, fun c h1 _ => x2 c h1, Or.inr ⟨h0, x3⟩⟩))
theorem w_job {p1 p2 : Int32} (ht : thr = 0 ∨ thr = 1 ∨ thr = 2) (hV : thr = 0 → ∃ e : Int32, ∀ x, V x → x = .int e) (hM : XQa yX9_job I_X9_job [.ref 0, .int p1, .int p2] M L dd thr [ex_I, ex_A] V a a' R R') : XW yL_job I_L_job [.ref 0, .int p1, .int p2, .ref 325] M L dd thr V a a' R R' := by
  refine am_mk (fun Q hq => ?_)
  refine a_metH (by decide +kernel) rfl (by decide) (Nat.le_of_ble_eq_true rfl) (by simp [Value.category]) (by decide) rfl ?_
  show AW I_L_job 0 [.ref 0, .int p1, .int p2, .ref 325, .null] [] (hS M L dd) 0 0 Q
  refine r_aload_n dL_job_0 rfl ?_
  refine r_iconst_0 dL_job_1 ?_
  refine r_aload_n dL_job_2 rfl ?_
  refine r_iload_n dL_job_3 rfl ?_
  refine r_iload_n dL_job_4 rfl ?_
  refine m_xw (As := [.int p1, .int p2]) dL_job_5 cv_L_56 hM rfl ob_x ⟨_, rfl, rfl⟩ (by decide) (by decide) (Nat.le_of_ble_eq_true rfl) (by decide) (by decide) (fun x M1 L1 h0 hv x1 x2 x3 => ?_) (fun M1 L1 h0 x1 x2 x3 => ?_)
  · obtain ⟨e, he⟩ := hV h0
    have ex := he x hv
    subst ex
    refine r_i2l dL_job_8 ?_
    refine m_last 0 dL_job_9 al_out rfl (by omega) (by first | decide | assumption) ?_
    refine r_goto 21 dL_job_10 (by decide) ?_
    refine r_iconst_0 dL_job_21 ?_
    exact r_iret dL_job_22 rfl (hq _ _ ⟨M1, _, by rw [h0], rfl, x1, fun c h1 h2 => by rw [mL_n h2]; exact x2 c h1, Or.inl ⟨h0, fun e2 he2 => by cases he2 _ hv; exact (congrFun mL_s 0).trans (if_pos rfl), x3⟩⟩)
  · rcases ht with ht | ht | ht
    · exact absurd ht h0
    · refine ⟨13, 4, 15, by rw [ht]; exact hd_job_0, fun j w hj hk => ?_, ?_⟩
      · exact cat_r (show [.ref 0, .int p1, .int p2, .ref 325, .null][j]? = some w from hj) rfl
      · exact r_iconst_1 dL_job_15 (r_iret dL_job_16 rfl (hq _ _ ⟨M1, L1, by rw [ht], rfl, x1, fun c h1 _ => x2 c h1, Or.inr ⟨h0, x3⟩⟩))
    · refine ⟨17, 4, 19, by rw [ht]; exact hd_job_1, fun j w hj hk => ?_, ?_⟩
      · exact cat_r (show [.ref 0, .int p1, .int p2, .ref 325, .null][j]? = some w from hj) rfl
      · exact r_iconst_2 dL_job_19 (r_iret dL_job_20 rfl (hq _ _ ⟨M1, L1, by rw [ht], rfl, x1, fun c h1 _ => x2 c h1, Or.inr ⟨h0, x3⟩⟩))
theorem w_first (ht : thr = 0 ∨ thr = 1) (hV : thr = 0 → ∃ e : Int32, ∀ x, V x → x = .int e) (hM : XQa yX9_first I_X9_first [.ref 0] M L dd thr [a_NSE] V a a' R R') : XW yL_first I_L_first [.ref 0, .ref 325] M L dd thr V a a' R R' := by
  refine am_mk (fun Q hq => ?_)
  refine a_metH (by decide +kernel) rfl (by decide) (Nat.le_of_ble_eq_true rfl) (by simp [Value.category]) (by decide) rfl ?_
  show AW I_L_first 0 [.ref 0, .ref 325, .null] [] (hS M L dd) 0 0 Q
  refine r_aload_n dL_first_0 rfl ?_
  refine r_iconst_0 dL_first_1 ?_
  refine r_aload_n dL_first_2 rfl ?_
  refine m_xw (As := []) dL_first_3 cv_L_59 hM rfl ob_x ⟨_, rfl, rfl⟩ (by decide) (by decide) (Nat.le_of_ble_eq_true rfl) (by decide) (by decide) (fun x M1 L1 h0 hv x1 x2 x3 => ?_) (fun M1 L1 h0 x1 x2 x3 => ?_)
  · obtain ⟨e, he⟩ := hV h0
    have ex := he x hv
    subst ex
    refine r_i2l dL_first_6 ?_
    refine m_last 0 dL_first_7 al_out rfl (by omega) (by first | decide | assumption) ?_
    refine r_goto 14 dL_first_8 (by decide) ?_
    refine r_iconst_0 dL_first_14 ?_
    exact r_iret dL_first_15 rfl (hq _ _ ⟨M1, _, by rw [h0], rfl, x1, fun c h1 h2 => by rw [mL_n h2]; exact x2 c h1, Or.inl ⟨h0, fun e2 he2 => by cases he2 _ hv; exact (congrFun mL_s 0).trans (if_pos rfl), x3⟩⟩)
  · rcases ht with ht | ht
    · exact absurd ht h0
    · refine ⟨11, 2, 12, by rw [ht]; exact hd_first_0, fun j w hj hk => ?_, ?_⟩
      · exact cat_r (show [.ref 0, .ref 325, .null][j]? = some w from hj) rfl
      · exact r_iconst_1 dL_first_12 (r_iret dL_first_13 rfl (hq _ _ ⟨M1, L1, by rw [ht], rfl, x1, fun c h1 _ => x2 c h1, Or.inr ⟨h0, x3⟩⟩))
theorem w_submit {p1 p2 : Int32} (ht : thr = 0 ∨ thr = 1 ∨ thr = 2 ∨ thr = 3) (hV : thr = 0 → ∃ e : Int32, ∀ x, V x → x = .int e) (hM : XQa yX9_submit I_X9_submit [.ref 0, .int p1, .int p2] M L dd thr [ex_I, ex_A, ex_S] V a a' R R') : XW yL_submit I_L_submit [.ref 0, .int p1, .int p2, .ref 325] M L dd thr V a a' R R' := by
  refine am_mk (fun Q hq => ?_)
  refine a_metH (by decide +kernel) rfl (by decide) (Nat.le_of_ble_eq_true rfl) (by simp [Value.category]) (by decide) rfl ?_
  show AW I_L_submit 0 [.ref 0, .int p1, .int p2, .ref 325, .null] [] (hS M L dd) 0 0 Q
  refine r_aload_n dL_submit_0 rfl ?_
  refine r_iconst_0 dL_submit_1 ?_
  refine r_aload_n dL_submit_2 rfl ?_
  refine r_iload_n dL_submit_3 rfl ?_
  refine r_iload_n dL_submit_4 rfl ?_
  refine m_xw (As := [.int p1, .int p2]) dL_submit_5 cv_L_65 hM rfl ob_x ⟨_, rfl, rfl⟩ (by decide) (by decide) (Nat.le_of_ble_eq_true rfl) (by decide) (by decide) (fun x M1 L1 h0 hv x1 x2 x3 => ?_) (fun M1 L1 h0 x1 x2 x3 => ?_)
  · obtain ⟨e, he⟩ := hV h0
    have ex := he x hv
    subst ex
    refine r_i2l dL_submit_8 ?_
    refine m_last 0 dL_submit_9 al_out rfl (by omega) (by first | decide | assumption) ?_
    refine r_goto 25 dL_submit_10 (by decide) ?_
    refine r_iconst_0 dL_submit_25 ?_
    exact r_iret dL_submit_26 rfl (hq _ _ ⟨M1, _, by rw [h0], rfl, x1, fun c h1 h2 => by rw [mL_n h2]; exact x2 c h1, Or.inl ⟨h0, fun e2 he2 => by cases he2 _ hv; exact (congrFun mL_s 0).trans (if_pos rfl), x3⟩⟩)
  · rcases ht with ht | ht | ht | ht
    · exact absurd ht h0
    · refine ⟨13, 4, 15, by rw [ht]; exact hd_submit_0, fun j w hj hk => ?_, ?_⟩
      · exact cat_r (show [.ref 0, .int p1, .int p2, .ref 325, .null][j]? = some w from hj) rfl
      · exact r_iconst_1 dL_submit_15 (r_iret dL_submit_16 rfl (hq _ _ ⟨M1, L1, by rw [ht], rfl, x1, fun c h1 _ => x2 c h1, Or.inr ⟨h0, x3⟩⟩))
    · refine ⟨17, 4, 19, by rw [ht]; exact hd_submit_1, fun j w hj hk => ?_, ?_⟩
      · exact cat_r (show [.ref 0, .int p1, .int p2, .ref 325, .null][j]? = some w from hj) rfl
      · exact r_iconst_2 dL_submit_19 (r_iret dL_submit_20 rfl (hq _ _ ⟨M1, L1, by rw [ht], rfl, x1, fun c h1 _ => x2 c h1, Or.inr ⟨h0, x3⟩⟩))
    · refine ⟨21, 4, 23, by rw [ht]; exact hd_submit_2, fun j w hj hk => ?_, ?_⟩
      · exact cat_r (show [.ref 0, .int p1, .int p2, .ref 325, .null][j]? = some w from hj) rfl
      · exact r_iconst_3 dL_submit_23 (r_iret dL_submit_24 rfl (hq _ _ ⟨M1, L1, by rw [ht], rfl, x1, fun c h1 _ => x2 c h1, Or.inr ⟨h0, x3⟩⟩))
theorem w_cancel {p1 : Int32} (ht : thr = 0 ∨ thr = 1 ∨ thr = 2) (hV : thr = 0 → ∃ e : Int32, ∀ x, V x → x = .int e) (hM : XQa yX9_cancel I_X9_cancel [.ref 0, .int p1] M L dd thr [ex_I, ex_S] V a a' R R') : XW yL_cancel I_L_cancel [.ref 0, .int p1, .ref 325] M L dd thr V a a' R R' := by
  refine am_mk (fun Q hq => ?_)
  refine a_metH (by decide +kernel) rfl (by decide) (Nat.le_of_ble_eq_true rfl) (by simp [Value.category]) (by decide) rfl ?_
  show AW I_L_cancel 0 [.ref 0, .int p1, .ref 325, .null] [] (hS M L dd) 0 0 Q
  refine r_aload_n dL_cancel_0 rfl ?_
  refine r_iconst_0 dL_cancel_1 ?_
  refine r_aload_n dL_cancel_2 rfl ?_
  refine r_iload_n dL_cancel_3 rfl ?_
  refine m_xw (As := [.int p1]) dL_cancel_4 cv_L_68 hM rfl ob_x ⟨_, rfl, rfl⟩ (by decide) (by decide) (Nat.le_of_ble_eq_true rfl) (by decide) (by decide) (fun x M1 L1 h0 hv x1 x2 x3 => ?_) (fun M1 L1 h0 x1 x2 x3 => ?_)
  · obtain ⟨e, he⟩ := hV h0
    have ex := he x hv
    subst ex
    refine r_i2l dL_cancel_7 ?_
    refine m_last 0 dL_cancel_8 al_out rfl (by omega) (by first | decide | assumption) ?_
    refine r_goto 18 dL_cancel_9 (by decide) ?_
    refine r_iconst_0 dL_cancel_18 ?_
    exact r_iret dL_cancel_19 rfl (hq _ _ ⟨M1, _, by rw [h0], rfl, x1, fun c h1 h2 => by rw [mL_n h2]; exact x2 c h1, Or.inl ⟨h0, fun e2 he2 => by cases he2 _ hv; exact (congrFun mL_s 0).trans (if_pos rfl), x3⟩⟩)
  · rcases ht with ht | ht | ht
    · exact absurd ht h0
    · refine ⟨12, 3, 13, by rw [ht]; exact hd_cancel_0, fun j w hj hk => ?_, ?_⟩
      · exact cat_r (show [.ref 0, .int p1, .ref 325, .null][j]? = some w from hj) rfl
      · exact r_iconst_1 dL_cancel_13 (r_iret dL_cancel_14 rfl (hq _ _ ⟨M1, L1, by rw [ht], rfl, x1, fun c h1 _ => x2 c h1, Or.inr ⟨h0, x3⟩⟩))
    · refine ⟨15, 3, 16, by rw [ht]; exact hd_cancel_1, fun j w hj hk => ?_, ?_⟩
      · exact cat_r (show [.ref 0, .int p1, .ref 325, .null][j]? = some w from hj) rfl
      · exact r_iconst_2 dL_cancel_16 (r_iret dL_cancel_17 rfl (hq _ _ ⟨M1, L1, by rw [ht], rfl, x1, fun c h1 _ => x2 c h1, Or.inr ⟨h0, x3⟩⟩))
theorem w_setUp {p1 p2 : Int32} (ht : thr = 0 ∨ thr = 1) (hV : thr = 0 → ∃ e : Int32, ∀ x, V x → x = .int e) (hM : XQa yX9_setUp I_X9_setUp [.ref 0, .int p1, .int p2] M L dd thr [ex_I] V a a' R R') : XW yL_setUp I_L_setUp [.ref 0, .int p1, .int p2, .ref 325] M L dd thr V a a' R R' := by
  refine am_mk (fun Q hq => ?_)
  refine a_metH (by decide +kernel) rfl (by decide) (Nat.le_of_ble_eq_true rfl) (by simp [Value.category]) (by decide) rfl ?_
  show AW I_L_setUp 0 [.ref 0, .int p1, .int p2, .ref 325, .null] [] (hS M L dd) 0 0 Q
  refine r_aload_n dL_setUp_0 rfl ?_
  refine r_iconst_0 dL_setUp_1 ?_
  refine r_aload_n dL_setUp_2 rfl ?_
  refine r_iload_n dL_setUp_3 rfl ?_
  refine r_iload_n dL_setUp_4 rfl ?_
  refine m_xw (As := [.int p1, .int p2]) dL_setUp_5 cv_L_71 hM rfl ob_x ⟨_, rfl, rfl⟩ (by decide) (by decide) (Nat.le_of_ble_eq_true rfl) (by decide) (by decide) (fun x M1 L1 h0 hv x1 x2 x3 => ?_) (fun M1 L1 h0 x1 x2 x3 => ?_)
  · obtain ⟨e, he⟩ := hV h0
    have ex := he x hv
    subst ex
    refine r_i2l dL_setUp_8 ?_
    refine m_last 0 dL_setUp_9 al_out rfl (by omega) (by first | decide | assumption) ?_
    refine r_goto 17 dL_setUp_10 (by decide) ?_
    refine r_iconst_0 dL_setUp_17 ?_
    exact r_iret dL_setUp_18 rfl (hq _ _ ⟨M1, _, by rw [h0], rfl, x1, fun c h1 h2 => by rw [mL_n h2]; exact x2 c h1, Or.inl ⟨h0, fun e2 he2 => by cases he2 _ hv; exact (congrFun mL_s 0).trans (if_pos rfl), x3⟩⟩)
  · rcases ht with ht | ht
    · exact absurd ht h0
    · refine ⟨13, 4, 15, by rw [ht]; exact hd_setUp_0, fun j w hj hk => ?_, ?_⟩
      · exact cat_r (show [.ref 0, .int p1, .int p2, .ref 325, .null][j]? = some w from hj) rfl
      · exact r_iconst_1 dL_setUp_15 (r_iret dL_setUp_16 rfl (hq _ _ ⟨M1, L1, by rw [ht], rfl, x1, fun c h1 _ => x2 c h1, Or.inr ⟨h0, x3⟩⟩))
theorem w_set {p1 p2 : Int32} (ht : thr = 0 ∨ thr = 1) (hV : thr = 0 → ∃ e : Int32, ∀ x, V x → x = .int e) (hM : XQa yX9_set I_X9_set [.ref 0, .int p1, .int p2] M L dd thr [ex_A] V a a' R R') : XW yL_set I_L_set [.ref 0, .int p1, .int p2, .ref 325] M L dd thr V a a' R R' := by
  refine am_mk (fun Q hq => ?_)
  refine a_metH (by decide +kernel) rfl (by decide) (Nat.le_of_ble_eq_true rfl) (by simp [Value.category]) (by decide) rfl ?_
  show AW I_L_set 0 [.ref 0, .int p1, .int p2, .ref 325, .null] [] (hS M L dd) 0 0 Q
  refine r_aload_n dL_set_0 rfl ?_
  refine r_iconst_0 dL_set_1 ?_
  refine r_aload_n dL_set_2 rfl ?_
  refine r_iload_n dL_set_3 rfl ?_
  refine r_iload_n dL_set_4 rfl ?_
  refine m_xw (As := [.int p1, .int p2]) dL_set_5 cv_L_75 hM rfl ob_x ⟨_, rfl, rfl⟩ (by decide) (by decide) (Nat.le_of_ble_eq_true rfl) (by decide) (by decide) (fun x M1 L1 h0 hv x1 x2 x3 => ?_) (fun M1 L1 h0 x1 x2 x3 => ?_)
  · obtain ⟨e, he⟩ := hV h0
    have ex := he x hv
    subst ex
    refine r_i2l dL_set_8 ?_
    refine m_last 0 dL_set_9 al_out rfl (by omega) (by first | decide | assumption) ?_
    refine r_goto 17 dL_set_10 (by decide) ?_
    refine r_iconst_0 dL_set_17 ?_
    exact r_iret dL_set_18 rfl (hq _ _ ⟨M1, _, by rw [h0], rfl, x1, fun c h1 h2 => by rw [mL_n h2]; exact x2 c h1, Or.inl ⟨h0, fun e2 he2 => by cases he2 _ hv; exact (congrFun mL_s 0).trans (if_pos rfl), x3⟩⟩)
  · rcases ht with ht | ht
    · exact absurd ht h0
    · refine ⟨13, 4, 15, by rw [ht]; exact hd_set_0, fun j w hj hk => ?_, ?_⟩
      · exact cat_r (show [.ref 0, .int p1, .int p2, .ref 325, .null][j]? = some w from hj) rfl
      · exact r_iconst_1 dL_set_15 (r_iret dL_set_16 rfl (hq _ _ ⟨M1, L1, by rw [ht], rfl, x1, fun c h1 _ => x2 c h1, Or.inr ⟨h0, x3⟩⟩))
theorem w_tick {p1 : Int32} (ht : thr = 0 ∨ thr = 1 ∨ thr = 2) (hV : thr = 0 → ∃ e : Int32, ∀ x, V x → x = .int e) (hM : XQa yX9_tick I_X9_tick [.ref 0, .int p1] M L dd thr [ex_A, ex_S] V a a' R R') : XW yL_tick I_L_tick [.ref 0, .int p1, .ref 325] M L dd thr V a a' R R' := by
  refine am_mk (fun Q hq => ?_)
  refine a_metH (by decide +kernel) rfl (by decide) (Nat.le_of_ble_eq_true rfl) (by simp [Value.category]) (by decide) rfl ?_
  show AW I_L_tick 0 [.ref 0, .int p1, .ref 325, .null] [] (hS M L dd) 0 0 Q
  refine r_aload_n dL_tick_0 rfl ?_
  refine r_iconst_0 dL_tick_1 ?_
  refine r_aload_n dL_tick_2 rfl ?_
  refine r_iload_n dL_tick_3 rfl ?_
  refine m_xw (As := [.int p1]) dL_tick_4 cv_L_78 hM rfl ob_x ⟨_, rfl, rfl⟩ (by decide) (by decide) (Nat.le_of_ble_eq_true rfl) (by decide) (by decide) (fun x M1 L1 h0 hv x1 x2 x3 => ?_) (fun M1 L1 h0 x1 x2 x3 => ?_)
  · obtain ⟨e, he⟩ := hV h0
    have ex := he x hv
    subst ex
    refine r_i2l dL_tick_7 ?_
    refine m_last 0 dL_tick_8 al_out rfl (by omega) (by first | decide | assumption) ?_
    refine r_goto 18 dL_tick_9 (by decide) ?_
    refine r_iconst_0 dL_tick_18 ?_
    exact r_iret dL_tick_19 rfl (hq _ _ ⟨M1, _, by rw [h0], rfl, x1, fun c h1 h2 => by rw [mL_n h2]; exact x2 c h1, Or.inl ⟨h0, fun e2 he2 => by cases he2 _ hv; exact (congrFun mL_s 0).trans (if_pos rfl), x3⟩⟩)
  · rcases ht with ht | ht | ht
    · exact absurd ht h0
    · refine ⟨12, 3, 13, by rw [ht]; exact hd_tick_0, fun j w hj hk => ?_, ?_⟩
      · exact cat_r (show [.ref 0, .int p1, .ref 325, .null][j]? = some w from hj) rfl
      · exact r_iconst_1 dL_tick_13 (r_iret dL_tick_14 rfl (hq _ _ ⟨M1, L1, by rw [ht], rfl, x1, fun c h1 _ => x2 c h1, Or.inr ⟨h0, x3⟩⟩))
    · refine ⟨15, 3, 16, by rw [ht]; exact hd_tick_1, fun j w hj hk => ?_, ?_⟩
      · exact cat_r (show [.ref 0, .int p1, .ref 325, .null][j]? = some w from hj) rfl
      · exact r_iconst_2 dL_tick_16 (r_iret dL_tick_17 rfl (hq _ _ ⟨M1, L1, by rw [ht], rfl, x1, fun c h1 _ => x2 c h1, Or.inr ⟨h0, x3⟩⟩))
theorem w_finishedIn {p1 : Int32} (ht : thr = 0 ∨ thr = 1 ∨ thr = 2) (hV : thr = 0 → ∃ e : Int32, ∀ x, V x → x = .int e) (hM : XQa yX9_finishedIn I_X9_finishedIn [.ref 0, .int p1] M L dd thr [ex_I, ex_S] V a a' R R') : XW yL_finishedIn I_L_finishedIn [.ref 0, .int p1, .ref 325] M L dd thr V a a' R R' := by
  refine am_mk (fun Q hq => ?_)
  refine a_metH (by decide +kernel) rfl (by decide) (Nat.le_of_ble_eq_true rfl) (by simp [Value.category]) (by decide) rfl ?_
  show AW I_L_finishedIn 0 [.ref 0, .int p1, .ref 325, .null] [] (hS M L dd) 0 0 Q
  refine r_aload_n dL_finishedIn_0 rfl ?_
  refine r_iconst_0 dL_finishedIn_1 ?_
  refine r_aload_n dL_finishedIn_2 rfl ?_
  refine r_iload_n dL_finishedIn_3 rfl ?_
  refine m_xw (As := [.int p1]) dL_finishedIn_4 cv_L_81 hM rfl ob_x ⟨_, rfl, rfl⟩ (by decide) (by decide) (Nat.le_of_ble_eq_true rfl) (by decide) (by decide) (fun x M1 L1 h0 hv x1 x2 x3 => ?_) (fun M1 L1 h0 x1 x2 x3 => ?_)
  · obtain ⟨e, he⟩ := hV h0
    have ex := he x hv
    subst ex
    refine r_i2l dL_finishedIn_7 ?_
    refine m_last 0 dL_finishedIn_8 al_out rfl (by omega) (by first | decide | assumption) ?_
    refine r_goto 18 dL_finishedIn_9 (by decide) ?_
    refine r_iconst_0 dL_finishedIn_18 ?_
    exact r_iret dL_finishedIn_19 rfl (hq _ _ ⟨M1, _, by rw [h0], rfl, x1, fun c h1 h2 => by rw [mL_n h2]; exact x2 c h1, Or.inl ⟨h0, fun e2 he2 => by cases he2 _ hv; exact (congrFun mL_s 0).trans (if_pos rfl), x3⟩⟩)
  · rcases ht with ht | ht | ht
    · exact absurd ht h0
    · refine ⟨12, 3, 13, by rw [ht]; exact hd_finishedIn_0, fun j w hj hk => ?_, ?_⟩
      · exact cat_r (show [.ref 0, .int p1, .ref 325, .null][j]? = some w from hj) rfl
      · exact r_iconst_1 dL_finishedIn_13 (r_iret dL_finishedIn_14 rfl (hq _ _ ⟨M1, L1, by rw [ht], rfl, x1, fun c h1 _ => x2 c h1, Or.inr ⟨h0, x3⟩⟩))
    · refine ⟨15, 3, 16, by rw [ht]; exact hd_finishedIn_1, fun j w hj hk => ?_, ?_⟩
      · exact cat_r (show [.ref 0, .int p1, .ref 325, .null][j]? = some w from hj) rfl
      · exact r_iconst_2 dL_finishedIn_16 (r_iret dL_finishedIn_17 rfl (hq _ _ ⟨M1, L1, by rw [ht], rfl, x1, fun c h1 _ => x2 c h1, Or.inr ⟨h0, x3⟩⟩))
theorem w_ahead {p1 p2 : Int32} (ht : thr = 0 ∨ thr = 1) (hV : thr = 0 → ∃ e : Int32, ∀ x, V x → x = .int e) (hM : XQa yX9_ahead I_X9_ahead [.ref 0, .int p1, .int p2] M L dd thr [ex_A] V a a' R R') : XW yL_ahead I_L_ahead [.ref 0, .int p1, .int p2, .ref 325] M L dd thr V a a' R R' := by
  refine am_mk (fun Q hq => ?_)
  refine a_metH (by decide +kernel) rfl (by decide) (Nat.le_of_ble_eq_true rfl) (by simp [Value.category]) (by decide) rfl ?_
  show AW I_L_ahead 0 [.ref 0, .int p1, .int p2, .ref 325, .null] [] (hS M L dd) 0 0 Q
  refine r_aload_n dL_ahead_0 rfl ?_
  refine r_iconst_0 dL_ahead_1 ?_
  refine r_aload_n dL_ahead_2 rfl ?_
  refine r_iload_n dL_ahead_3 rfl ?_
  refine r_iload_n dL_ahead_4 rfl ?_
  refine m_xw (As := [.int p1, .int p2]) dL_ahead_5 cv_L_84 hM rfl ob_x ⟨_, rfl, rfl⟩ (by decide) (by decide) (Nat.le_of_ble_eq_true rfl) (by decide) (by decide) (fun x M1 L1 h0 hv x1 x2 x3 => ?_) (fun M1 L1 h0 x1 x2 x3 => ?_)
  · obtain ⟨e, he⟩ := hV h0
    have ex := he x hv
    subst ex
    refine r_i2l dL_ahead_8 ?_
    refine m_last 0 dL_ahead_9 al_out rfl (by omega) (by first | decide | assumption) ?_
    refine r_goto 17 dL_ahead_10 (by decide) ?_
    refine r_iconst_0 dL_ahead_17 ?_
    exact r_iret dL_ahead_18 rfl (hq _ _ ⟨M1, _, by rw [h0], rfl, x1, fun c h1 h2 => by rw [mL_n h2]; exact x2 c h1, Or.inl ⟨h0, fun e2 he2 => by cases he2 _ hv; exact (congrFun mL_s 0).trans (if_pos rfl), x3⟩⟩)
  · rcases ht with ht | ht
    · exact absurd ht h0
    · refine ⟨13, 4, 15, by rw [ht]; exact hd_ahead_0, fun j w hj hk => ?_, ?_⟩
      · exact cat_r (show [.ref 0, .int p1, .int p2, .ref 325, .null][j]? = some w from hj) rfl
      · exact r_iconst_1 dL_ahead_15 (r_iret dL_ahead_16 rfl (hq _ _ ⟨M1, L1, by rw [ht], rfl, x1, fun c h1 _ => x2 c h1, Or.inr ⟨h0, x3⟩⟩))
theorem w_writtenByte {p1 : Int32} (ht : thr = 0 ∨ thr = 1) (hV : thr = 0 → ∃ e : Int32, ∀ x, V x → x = .int e) (hM : XQa yX9_writtenByte I_X9_writtenByte [.ref 0, .int p1] M L dd thr [ex_I] V a a' R R') : XW yL_writtenByte I_L_writtenByte [.ref 0, .int p1, .ref 325] M L dd thr V a a' R R' := by
  refine am_mk (fun Q hq => ?_)
  refine a_metH (by decide +kernel) rfl (by decide) (Nat.le_of_ble_eq_true rfl) (by simp [Value.category]) (by decide) rfl ?_
  show AW I_L_writtenByte 0 [.ref 0, .int p1, .ref 325, .null] [] (hS M L dd) 0 0 Q
  refine r_aload_n dL_writtenByte_0 rfl ?_
  refine r_iconst_0 dL_writtenByte_1 ?_
  refine r_aload_n dL_writtenByte_2 rfl ?_
  refine r_iload_n dL_writtenByte_3 rfl ?_
  refine m_xw (As := [.int p1]) dL_writtenByte_4 cv_L_91 hM rfl ob_x ⟨_, rfl, rfl⟩ (by decide) (by decide) (Nat.le_of_ble_eq_true rfl) (by decide) (by decide) (fun x M1 L1 h0 hv x1 x2 x3 => ?_) (fun M1 L1 h0 x1 x2 x3 => ?_)
  · obtain ⟨e, he⟩ := hV h0
    have ex := he x hv
    subst ex
    refine r_i2l dL_writtenByte_7 ?_
    refine m_last 0 dL_writtenByte_8 al_out rfl (by omega) (by first | decide | assumption) ?_
    refine r_goto 15 dL_writtenByte_9 (by decide) ?_
    refine r_iconst_0 dL_writtenByte_15 ?_
    exact r_iret dL_writtenByte_16 rfl (hq _ _ ⟨M1, _, by rw [h0], rfl, x1, fun c h1 h2 => by rw [mL_n h2]; exact x2 c h1, Or.inl ⟨h0, fun e2 he2 => by cases he2 _ hv; exact (congrFun mL_s 0).trans (if_pos rfl), x3⟩⟩)
  · rcases ht with ht | ht
    · exact absurd ht h0
    · refine ⟨12, 3, 13, by rw [ht]; exact hd_writtenByte_0, fun j w hj hk => ?_, ?_⟩
      · exact cat_r (show [.ref 0, .int p1, .ref 325, .null][j]? = some w from hj) rfl
      · exact r_iconst_1 dL_writtenByte_13 (r_iret dL_writtenByte_14 rfl (hq _ _ ⟨M1, L1, by rw [ht], rfl, x1, fun c h1 _ => x2 c h1, Or.inr ⟨h0, x3⟩⟩))
theorem w_undo (ht : thr = 0 ∨ thr = 1) (hV : thr = 0 → ∃ e : Int32, ∀ x, V x → x = .int e) (hM : XQa yX9_undo I_X9_undo [.ref 0] M L dd thr [ex_S] V a a' R R') : XW yL_undo I_L_undo [.ref 0, .ref 325] M L dd thr V a a' R R' := by
  refine am_mk (fun Q hq => ?_)
  refine a_metH (by decide +kernel) rfl (by decide) (Nat.le_of_ble_eq_true rfl) (by simp [Value.category]) (by decide) rfl ?_
  show AW I_L_undo 0 [.ref 0, .ref 325, .null] [] (hS M L dd) 0 0 Q
  refine r_aload_n dL_undo_0 rfl ?_
  refine r_iconst_0 dL_undo_1 ?_
  refine r_aload_n dL_undo_2 rfl ?_
  refine m_xw (As := []) dL_undo_3 cv_L_94 hM rfl ob_x ⟨_, rfl, rfl⟩ (by decide) (by decide) (Nat.le_of_ble_eq_true rfl) (by decide) (by decide) (fun x M1 L1 h0 hv x1 x2 x3 => ?_) (fun M1 L1 h0 x1 x2 x3 => ?_)
  · obtain ⟨e, he⟩ := hV h0
    have ex := he x hv
    subst ex
    refine r_i2l dL_undo_6 ?_
    refine m_last 0 dL_undo_7 al_out rfl (by omega) (by first | decide | assumption) ?_
    refine r_goto 14 dL_undo_8 (by decide) ?_
    refine r_iconst_0 dL_undo_14 ?_
    exact r_iret dL_undo_15 rfl (hq _ _ ⟨M1, _, by rw [h0], rfl, x1, fun c h1 h2 => by rw [mL_n h2]; exact x2 c h1, Or.inl ⟨h0, fun e2 he2 => by cases he2 _ hv; exact (congrFun mL_s 0).trans (if_pos rfl), x3⟩⟩)
  · rcases ht with ht | ht
    · exact absurd ht h0
    · refine ⟨11, 2, 12, by rw [ht]; exact hd_undo_0, fun j w hj hk => ?_, ?_⟩
      · exact cat_r (show [.ref 0, .ref 325, .null][j]? = some w from hj) rfl
      · exact r_iconst_1 dL_undo_12 (r_iret dL_undo_13 rfl (hq _ _ ⟨M1, L1, by rw [ht], rfl, x1, fun c h1 _ => x2 c h1, Or.inr ⟨h0, x3⟩⟩))
theorem w_worth {p1 p2 : Int32} (ht : thr = 0 ∨ thr = 1 ∨ thr = 2 ∨ thr = 3) (hV : thr = 0 → ∃ e : Int64, ∀ x, V x → x = .long e) (hM : XQa yX9_worth I_X9_worth [.ref 0, .int p1, .int p2] M L dd thr [ex_I, ex_A, ex_S] V a a' R R') : XWl yL_worth I_L_worth [.ref 0, .int p1, .int p2, .ref 325] M L dd thr V a a' R R' := by
  refine am_mk (fun Q hq => ?_)
  refine a_metH (by decide +kernel) rfl (by decide) (Nat.le_of_ble_eq_true rfl) (by simp [Value.category]) (by decide) rfl ?_
  show AW I_L_worth 0 [.ref 0, .int p1, .int p2, .ref 325, .null] [] (hS M L dd) 0 0 Q
  refine r_aload_n dL_worth_0 rfl ?_
  refine r_iconst_0 dL_worth_1 ?_
  refine r_aload_n dL_worth_2 rfl ?_
  refine r_iload_n dL_worth_3 rfl ?_
  refine r_iload_n dL_worth_4 rfl ?_
  refine m_xw (As := [.int p1, .int p2]) dL_worth_5 cv_L_49 hM rfl ob_x ⟨_, rfl, rfl⟩ (by decide) (by decide) (Nat.le_of_ble_eq_true rfl) (by decide) (by decide) (fun x M1 L1 h0 hv x1 x2 x3 => ?_) (fun M1 L1 h0 x1 x2 x3 => ?_)
  · obtain ⟨e, he⟩ := hV h0
    have ex := he x hv
    subst ex
    refine m_last 0 dL_worth_8 al_out rfl (by omega) (by first | decide | assumption) ?_
    refine r_goto 24 dL_worth_9 (by decide) ?_
    refine r_iconst_0 dL_worth_24 ?_
    exact r_iret dL_worth_25 rfl (hq _ _ ⟨M1, _, by rw [h0], rfl, x1, fun c h1 h2 => by rw [mL_n h2]; exact x2 c h1, Or.inl ⟨h0, fun e2 he2 => by cases he2 _ hv; exact (congrFun mL_s 0).trans (if_pos rfl), x3⟩⟩)
  · rcases ht with ht | ht | ht | ht
    · exact absurd ht h0
    · refine ⟨12, 4, 14, by rw [ht]; exact hd_worth_0, fun j w hj hk => ?_, ?_⟩
      · exact cat_r (show [.ref 0, .int p1, .int p2, .ref 325, .null][j]? = some w from hj) rfl
      · exact r_iconst_1 dL_worth_14 (r_iret dL_worth_15 rfl (hq _ _ ⟨M1, L1, by rw [ht], rfl, x1, fun c h1 _ => x2 c h1, Or.inr ⟨h0, x3⟩⟩))
    · refine ⟨16, 4, 18, by rw [ht]; exact hd_worth_1, fun j w hj hk => ?_, ?_⟩
      · exact cat_r (show [.ref 0, .int p1, .int p2, .ref 325, .null][j]? = some w from hj) rfl
      · exact r_iconst_2 dL_worth_18 (r_iret dL_worth_19 rfl (hq _ _ ⟨M1, L1, by rw [ht], rfl, x1, fun c h1 _ => x2 c h1, Or.inr ⟨h0, x3⟩⟩))
    · refine ⟨20, 4, 22, by rw [ht]; exact hd_worth_2, fun j w hj hk => ?_, ?_⟩
      · exact cat_r (show [.ref 0, .int p1, .int p2, .ref 325, .null][j]? = some w from hj) rfl
      · exact r_iconst_3 dL_worth_22 (r_iret dL_worth_23 rfl (hq _ _ ⟨M1, L1, by rw [ht], rfl, x1, fun c h1 _ => x2 c h1, Or.inr ⟨h0, x3⟩⟩))
end WRAP
