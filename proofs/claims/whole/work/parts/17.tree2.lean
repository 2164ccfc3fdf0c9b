theorem po_mk {y : MethodName} {I : a_I} {As : List Value} {M : Nat → Nat → Int32} {L : Nat → Nat → Int64} {dd : UInt64} {v : Option Value} {P : (Nat → Nat → Int32) → (Nat → Nat → Int64) → Prop} (h : ∀ Q : a_Q, (∀ M' L', P M' L' → Q (.inl v) (hS M' L' dd)) → AM y I As (hS M L dd) Q) : PO y I As M L dd v P := h _ (fun M' L' hp => ⟨rfl, M', L', rfl, hp⟩)
theorem m_abs {I : a_I} {pc uc us : Nat} {ls st : List Value} {Q : a_Q} {M : Nat → Nat → Int32} {L : Nat → Nat → Int64} {dd : UInt64} (P : (Nat → Nat → Int32) → Prop) (hp : P M) (k : ∀ M2, P M2 → AW I pc ls st (hS M2 L dd) uc us Q) : AW I pc ls st (hS M L dd) uc us Q := k M hp
theorem fr_r {lo hi : Nat} {M : Nat → Nat → Int32} : Fr lo hi M M := fun _ _ => rfl
theorem fr_u {lo hi c : Nat} {M M' : Nat → Nat → Int32} {r : Nat → Int32} (h : Fr lo hi M M') (hc : lo ≤ c ∧ c < hi) : Fr lo hi M (mU M' c r) := fun b hb => by
  rw [mU_n (fun z => hb (by rw [z]; exact hc)), h b hb]
theorem fr_t {lo hi : Nat} {M M1 M2 : Nat → Nat → Int32} (h : Fr lo hi M M1) (h2 : Fr lo hi M1 M2) : Fr lo hi M M2 := fun b hb => (h2 b hb).trans (h b hb)
theorem fr_w {lo hi lo' hi' : Nat} {M M1 : Nat → Nat → Int32} (h : Fr lo hi M M1) (h1 : lo' ≤ lo) (h2 : hi ≤ hi') : Fr lo' hi' M M1 := fun b hb => h b (by omega)
theorem mU_mU {M : Nat → Nat → Int32} {c : Nat} {r r' : Nat → Int32} : mU (mU M c r) c r' = mU M c r' := by
  funext a
  unfold mU
  by_cases h : a = c
  · rw [if_pos h, if_pos h]
  · rw [if_neg h, if_neg h, if_neg h]
def adU (a : Nat → Int32) (q s : Int32) : Nat → Int32 := upd (upd (upd (upd a (10 + nu a) q) (22 + nu a) s) (34 + nu a) 0) 4 (a 4 + 1)
theorem nu_adU {a : Nat → Int32} {q s : Int32} (hW : WU a) : nu (adU a q s) = nu a + 1 := by
  obtain ⟨w1, w2, w3, -⟩ := hW
  show zN (upd _ 4 (a 4 + 1) 4) = nu a + 1
  rw [upd_eq, w1, nI_1, zN, nI_clamp (by omega)]
section TREE2
variable {M : Nat → Nat → Int32} {L : Nat → Nat → Int64} {dd : UInt64} {p : Nat} {a : Nat → Int32}
theorem rt_fr {lo hi : Nat} {M' : Nat → Nat → Int32} (hT : QT M p a) (h : Fr lo hi M M') (h1 : p + 5 ≤ lo ∨ hi ≤ p + 1) : QT M' p a := by
  unfold QT
  rw [h (p + 1) (by omega), h (p + 2) (by omega), h (p + 3) (by omega), h (p + 4) (by omega)]
  exact hT
theorem c_X8_clear (hP : PL p) : PO yX8_clear I_X8_clear [.ref (p + 1)] M L dd none (fun M' L' => L' = L ∧ Fr (p + 1) (p + 6) M M' ∧ M' (p + 1) 0 = 1 ∧ M' (p + 2) 0 = -1 ∧ M' (p + 3) 0 = 0 ∧ M' (p + 4) 0 = 0 ∧ M' (p + 5) 0 = 1000000) := by
  refine po_mk (fun Q hq => ?_)
  refine a_met (by decide +kernel) rfl rfl (Nat.le_of_ble_eq_true rfl) (by simp [Value.category]) (by decide) rfl ?_
  show AW I_X8_clear 0 [.ref (p + 1)] [] (hS M L dd) 0 0 Q
  refine r_aload_n dX8_clear_0 rfl ?_
  refine r_iconst_1 dX8_clear_1 ?_
  refine m_put 8 0 dX8_clear_2 fl_X8_27 (fun r hr => by cases hr; rfl) (ob_tree hP) (Nat.le_of_ble_eq_true rfl) rfl ?_
  refine r_aload_n dX8_clear_5 rfl ?_
  refine m_get 8 1 dX8_clear_6 fl_X8_9 (ob_tree hP) rfl ?_
  refine r_iconst_0 dX8_clear_9 ?_
  refine r_iconst_m1 dX8_clear_10 ?_
  refine m_iast 0 dX8_clear_11 (ai_parent hP) rfl (by omega) (by first | decide | assumption) ?_
  refine r_aload_n dX8_clear_12 rfl ?_
  refine m_get 8 2 dX8_clear_13 fl_X8_15 (ob_tree hP) rfl ?_
  refine r_iconst_0 dX8_clear_16 ?_
  refine r_iconst_0 dX8_clear_17 ?_
  refine m_iast 0 dX8_clear_18 (ai_shares hP) rfl (by omega) (by first | decide | assumption) ?_
  refine r_aload_n dX8_clear_19 rfl ?_
  refine m_get 8 3 dX8_clear_20 fl_X8_18 (ob_tree hP) rfl ?_
  refine r_iconst_0 dX8_clear_23 ?_
  refine r_iconst_0 dX8_clear_24 ?_
  refine m_iast 0 dX8_clear_25 (ai_use hP) rfl (by omega) (by first | decide | assumption) ?_
  refine r_aload_n dX8_clear_26 rfl ?_
  refine m_get 8 4 dX8_clear_27 fl_X8_21 (ob_tree hP) rfl ?_
  refine r_iconst_0 dX8_clear_30 ?_
  refine r_ldc 1000000 dX8_clear_31 k_49 ?_
  refine m_iast 0 dX8_clear_33 (ai_base hP) rfl (by omega) (by first | decide | assumption) ?_
  exact r_vret dX8_clear_34 rfl (hq _ _ ⟨rfl, fr_u (fr_u (fr_u (fr_u (fr_u fr_r (by omega)) (by omega)) (by omega)) (by omega)) (by omega), by simp [mU, upd]⟩)
theorem c_X8_copyFrom {q : Nat} (hP : PL p) (hQ : PL q) (hne : ∀ i j, 1 ≤ i → i < 6 → 1 ≤ j → j < 6 → p + i ≠ q + j) : PO yX8_copyFrom I_X8_copyFrom [.ref (p + 1), .ref (q + 1)] M L dd none (fun M' L' => L' = L ∧ Fr (p + 1) (p + 6) M M' ∧ M' (p + 1) 0 = M (q + 1) 0 ∧ ∀ k, k < 12 → M' (p + 2) k = M (q + 2) k ∧ M' (p + 3) k = M (q + 3) k ∧ M' (p + 4) k = M (q + 4) k ∧ M' (p + 5) k = M (q + 5) k) := by
  refine po_mk (fun Q hq => ?_)
  refine a_met (by decide +kernel) rfl rfl (Nat.le_of_ble_eq_true rfl) (by simp [Value.category]) (by decide) rfl ?_
  show AW I_X8_copyFrom 0 [.ref (p + 1), .ref (q + 1)] [] (hS M L dd) 0 0 Q
  refine r_aload_n dX8_copyFrom_0 rfl ?_
  refine r_aload_n dX8_copyFrom_1 rfl ?_
  refine m_get 8 0 dX8_copyFrom_2 fl_X8_27 (ob_tree hQ) rfl ?_
  refine m_put 8 0 dX8_copyFrom_5 fl_X8_27 (fun r hr => by cases hr; rfl) (ob_tree hP) (Nat.le_of_ble_eq_true rfl) rfl ?_
  refine r_aload_n dX8_copyFrom_8 rfl ?_
  refine m_get 8 1 dX8_copyFrom_9 fl_X8_9 (ob_tree hQ) rfl ?_
  refine r_iconst_0 dX8_copyFrom_12 ?_
  refine r_aload_n dX8_copyFrom_13 rfl ?_
  refine m_get 8 1 dX8_copyFrom_14 fl_X8_9 (ob_tree hP) rfl ?_
  refine r_iconst_0 dX8_copyFrom_17 ?_
  refine r_bipush 12 dX8_copyFrom_18 (by decide) ?_
  refine m_copy 12 dX8_copyFrom_20 ac_X8_32 (ai_parent hQ) (ai_parent hP) (by decide) (by decide) (by decide) (by decide) (by decide) (Nat.le_of_ble_eq_true rfl) ?_
  refine r_aload_n dX8_copyFrom_23 rfl ?_
  refine m_get 8 2 dX8_copyFrom_24 fl_X8_15 (ob_tree hQ) rfl ?_
  refine r_iconst_0 dX8_copyFrom_27 ?_
  refine r_aload_n dX8_copyFrom_28 rfl ?_
  refine m_get 8 2 dX8_copyFrom_29 fl_X8_15 (ob_tree hP) rfl ?_
  refine r_iconst_0 dX8_copyFrom_32 ?_
  refine r_bipush 12 dX8_copyFrom_33 (by decide) ?_
  refine m_copy 12 dX8_copyFrom_35 ac_X8_32 (ai_shares hQ) (ai_shares hP) (by decide) (by decide) (by decide) (by decide) (by decide) (Nat.le_of_ble_eq_true rfl) ?_
  refine r_aload_n dX8_copyFrom_38 rfl ?_
  refine m_get 8 3 dX8_copyFrom_39 fl_X8_18 (ob_tree hQ) rfl ?_
  refine r_iconst_0 dX8_copyFrom_42 ?_
  refine r_aload_n dX8_copyFrom_43 rfl ?_
  refine m_get 8 3 dX8_copyFrom_44 fl_X8_18 (ob_tree hP) rfl ?_
  refine r_iconst_0 dX8_copyFrom_47 ?_
  refine r_bipush 12 dX8_copyFrom_48 (by decide) ?_
  refine m_copy 12 dX8_copyFrom_50 ac_X8_32 (ai_use hQ) (ai_use hP) (by decide) (by decide) (by decide) (by decide) (by decide) (Nat.le_of_ble_eq_true rfl) ?_
  refine r_aload_n dX8_copyFrom_53 rfl ?_
  refine m_get 8 4 dX8_copyFrom_54 fl_X8_21 (ob_tree hQ) rfl ?_
  refine r_iconst_0 dX8_copyFrom_57 ?_
  refine r_aload_n dX8_copyFrom_58 rfl ?_
  refine m_get 8 4 dX8_copyFrom_59 fl_X8_21 (ob_tree hP) rfl ?_
  refine r_iconst_0 dX8_copyFrom_62 ?_
  refine r_bipush 12 dX8_copyFrom_63 (by decide) ?_
  refine m_copy 12 dX8_copyFrom_65 ac_X8_32 (ai_base hQ) (ai_base hP) (by decide) (by decide) (by decide) (by decide) (by decide) (Nat.le_of_ble_eq_true rfl) ?_
  refine r_vret dX8_copyFrom_68 rfl (hq _ _ ⟨rfl, fr_u (fr_u (fr_u (fr_u (fr_u fr_r (by omega)) (by omega)) (by omega)) (by omega)) (by omega), by simp [mU, upd], fun k hk => ?_⟩)
  have e := fun i j h1 h2 h3 h4 => (hne i j h1 h2 h3 h4).symm
  simp [mU, hk, e]
theorem c_X8_dealBase (hP : PL p) (hT : QT M p a) (hW : WU a) (h0 : M (p + 5) 0 = 1000000) : PO yX8_dealBase I_X8_dealBase [.ref (p + 1)] M L dd none (fun M' L' => L' = L ∧ Fr (p + 5) (p + 6) M M' ∧ QB M' p a) := by
  refine po_mk (fun Q hq => ?_)
  refine a_met (by decide +kernel) rfl rfl (Nat.le_of_ble_eq_true rfl) (by simp [Value.category]) (by decide) rfl ?_
  show AW I_X8_dealBase 0 [.ref (p + 1), .null, .null, .null] [] (hS M L dd) 0 0 Q
  have h12 := hW.2.2.1
  refine r_iconst_1 dX8_dealBase_0 ?_
  refine s_istore_n 1 dX8_dealBase_1 (by decide) rfl rfl ?_
  have lp : ∀ k, k ≤ nu a → ∀ (M' : Nat → Nat → Int32) (x y : Value), 1 ≤ k → Fr (p + 5) (p + 6) M M' → (∀ u, u < k → M' (p + 5) u = bse a u) → x.category = 1 → y.category = 1 → AW I_X8_dealBase 2 [.ref (p + 1), .int (nI k), x, y] [] (hS M' L dd) 0 0 Q := by
    refine lp_up _ ?_ ?_
    · intro M' x y h1 hF hB hx hy 
      have hT' := rt_fr hT hF (Or.inl (Nat.le_refl _))
      have hn := hT'.1.trans hW.1
      refine r_iload_n dX8_dealBase_2 rfl ?_
      refine r_aload_n dX8_dealBase_3 rfl ?_
      refine m_get 8 0 dX8_dealBase_4 fl_X8_27 (ob_tree hP) rfl ?_
      refine r_icmp_ge 66 dX8_dealBase_7 (by decide) (fun _ => ?_) (fun z => absurd (by rw [hn]; exact nI_le (Nat.le_refl _) (by omega)) z)
      exact r_vret dX8_dealBase_66 rfl (hq M' L ⟨rfl, hF, hB⟩)
    · intro k hk ih M' x y h1 hF hB hx hy 
      have hT' := rt_fr hT hF (Or.inl (Nat.le_refl _))
      have hn := hT'.1.trans hW.1
      obtain ⟨q, hq, hpq⟩ := hW.2.2.2.2.1 k h1 hk
      obtain ⟨B, s, S, g1, g2, g3, g4, g5, g6, g7, g8, g9⟩ := bse_step hW h1 hk hpq hq
      have e1 := (hT'.2 k hk).1.trans hpq
      have e2 := (hT'.2 k hk).2.1.trans g2
      have hhas : bI (0 ≤ nI q ∧ nI q < M' (p + 1) 0) = 1 := bI_t ⟨nI_pos' (by omega), by rw [hn]; exact nI_lt (by omega) (by omega)⟩
      have e3 := (hB q hq).trans g1
      refine r_iload_n dX8_dealBase_2 rfl ?_
      refine r_aload_n dX8_dealBase_3 rfl ?_
      refine m_get 8 0 dX8_dealBase_4 fl_X8_27 (ob_tree hP) rfl ?_
      refine r_icmp_ge 66 dX8_dealBase_7 (by decide) (fun z => absurd z (by rw [hn]; exact nI_ge hk (by omega))) (fun _ => ?_)
      refine r_aload_n dX8_dealBase_10 rfl ?_
      refine m_get 8 1 dX8_dealBase_11 fl_X8_9 (ob_tree hP) rfl ?_
      refine r_iload_n dX8_dealBase_14 rfl ?_
      refine m_iald k dX8_dealBase_15 (ai_parent hP) rfl (by omega) (by first | decide | assumption) ?_
      rw [e1]
      refine s_istore_n 2 dX8_dealBase_16 (by decide) rfl rfl ?_
      refine r_aload_n dX8_dealBase_17 rfl ?_
      refine r_iload_n dX8_dealBase_18 rfl ?_
      refine m_cv1 dX8_dealBase_19 cv_X8_53 (c_X8_sharesUnder hP hT' hW) rfl (ob_tree hP) ⟨_, rfl, rfl⟩ ⟨rfl, rfl⟩ (by decide) (by decide) (Nat.le_of_ble_eq_true rfl) ?_
      simp only [Option.toList_some, List.singleton_append]
      rw [g3]
      refine s_istore_n 3 dX8_dealBase_22 (by decide) rfl rfl ?_
      refine r_aload_n dX8_dealBase_23 rfl ?_
      refine m_get 8 4 dX8_dealBase_24 fl_X8_21 (ob_tree hP) rfl ?_
      refine r_iload_n dX8_dealBase_27 rfl ?_
      refine r_aload_n dX8_dealBase_28 rfl ?_
      refine r_iload_n dX8_dealBase_29 rfl ?_
      refine m_cv1 dX8_dealBase_30 cv_X8_46 (c_X8_has hP) rfl (ob_tree hP) ⟨_, rfl, rfl⟩ ⟨rfl, rfl⟩ (by decide) (by decide) (Nat.le_of_ble_eq_true rfl) ?_
      refine r_if_eq 58 dX8_dealBase_33 (by decide) (fun z => absurd z (by rw [hhas]; decide)) (fun _ => ?_)
      refine r_iload_n dX8_dealBase_36 rfl ?_
      refine r_if_le 58 dX8_dealBase_37 (by decide) (fun z => absurd z (nI_nle (by omega) (by omega))) (fun _ => ?_)
      refine r_aload_n dX8_dealBase_40 rfl ?_
      refine m_get 8 4 dX8_dealBase_41 fl_X8_21 (ob_tree hP) rfl ?_
      refine r_iload_n dX8_dealBase_44 rfl ?_
      refine m_iald q dX8_dealBase_45 (ai_base hP) rfl (by omega) (by first | decide | assumption) ?_
      refine r_aload_n dX8_dealBase_46 rfl ?_
      refine m_get 8 2 dX8_dealBase_47 fl_X8_15 (ob_tree hP) rfl ?_
      refine r_iload_n dX8_dealBase_50 rfl ?_
      refine m_iald k dX8_dealBase_51 (ai_shares hP) rfl (by omega) (by first | decide | assumption) ?_
      refine r_imul dX8_dealBase_52 ?_
      refine r_iload_n dX8_dealBase_53 rfl ?_
      refine r_idiv dX8_dealBase_54 (nI_ne0 (by omega) (by omega)) ?_
      refine r_goto 59 dX8_dealBase_55 (by decide) ?_
      refine m_iast k dX8_dealBase_59 (ai_base hP) rfl (by omega) (by first | decide | assumption) ?_
      refine s_iinc dX8_dealBase_60 rfl (by decide) rfl ?_
      refine r_goto 2 dX8_dealBase_63 (by decide) ?_
      refine m_eq (ih (mU M' (p + 5) (upd (M' (p + 5)) k (nI B * nI s / nI S))) (.int (nI q)) (.int (nI S)) (by omega) (fr_u hF (by omega)) (fun u hu => ?_) rfl rfl) (by simp [nI_succ]) (by rw [e2, e3]) rfl
      rw [mU_s]
      by_cases hk2 : u = k
      · subst hk2
        rw [upd_eq, g9, pk_mul, pk_div (Nat.lt_of_le_of_lt (Nat.mul_le_mul g8 g5) (by decide)) (by omega) (by omega)]
      · rw [upd_ne hk2, hB u (by omega)]
  exact m_eq (lp 1 hW.2.1 M .null .null (Nat.le_refl _) fr_r (fun u hu => by rw [show u = 0 by omega, h0]; rfl) rfl rfl) rfl rfl rfl
theorem c_X8_add {q : Nat} {s : Int32} (hP : PL p) (hT : QT M p a) (hB : QB M p a) (hW : WU a) (hW' : WU (adU a (nI q) s)) (hn : nu a < 12) (hqn : q < nu a) : PO yX8_add I_X8_add [.ref (p + 1), .int (nI q), .int s] M L dd none (fun M' L' => L' = L ∧ Fr (p + 1) (p + 6) M M' ∧ QT M' p (adU a (nI q) s) ∧ QB M' p (adU a (nI q) s)) := by
  refine po_mk (fun Q hq => ?_)
  refine a_met (by decide +kernel) rfl rfl (Nat.le_of_ble_eq_true rfl) (by simp [Value.category]) (by decide) rfl ?_
  show AW I_X8_add 0 [.ref (p + 1), .int (nI q), .int s] [] (hS M L dd) 0 0 Q
  have e := hT.1.trans hW.1
  have h0 := hW.2.1
  have b0 := hB 0 h0
  refine r_aload_n dX8_add_0 rfl ?_
  refine m_cv0 dX8_add_1 cv_X8_42 (c_X8_isFull hP) rfl (ob_tree hP) ⟨_, rfl, rfl⟩ ⟨rfl, rfl⟩ (by decide) (by decide) (Nat.le_of_ble_eq_true rfl) ?_
  refine r_if_ne 15 dX8_add_4 (by decide) (fun z => absurd (bI_f (by rw [e]; exact nI_ge hn (by decide))) z) (fun _ => ?_)
  refine r_aload_n dX8_add_7 rfl ?_
  refine r_iload_n dX8_add_8 rfl ?_
  refine m_cv1 dX8_add_9 cv_X8_46 (c_X8_has hP) rfl (ob_tree hP) ⟨_, rfl, rfl⟩ ⟨rfl, rfl⟩ (by decide) (by decide) (Nat.le_of_ble_eq_true rfl) ?_
  refine r_if_ne 16 dX8_add_12 (by decide) (fun _ => ?_) (fun z => absurd z (by rw [bI_t ⟨nI_pos' (by omega), by rw [e]; exact nI_lt hqn (by omega)⟩]; decide))
  refine r_aload_n dX8_add_16 rfl ?_
  refine m_get 8 1 dX8_add_17 fl_X8_9 (ob_tree hP) rfl ?_
  refine r_aload_n dX8_add_20 rfl ?_
  refine m_get 8 0 dX8_add_21 fl_X8_27 (ob_tree hP) rfl ?_
  refine r_iload_n dX8_add_24 rfl ?_
  refine m_iast (nu a) dX8_add_25 (ai_parent hP) (by simp [mU, e]) (by omega) (by first | decide | assumption) ?_
  refine r_aload_n dX8_add_26 rfl ?_
  refine m_get 8 2 dX8_add_27 fl_X8_15 (ob_tree hP) rfl ?_
  refine r_aload_n dX8_add_30 rfl ?_
  refine m_get 8 0 dX8_add_31 fl_X8_27 (ob_tree hP) rfl ?_
  refine r_iload_n dX8_add_34 rfl ?_
  refine m_iast (nu a) dX8_add_35 (ai_shares hP) (by simp [mU, e]) (by omega) (by first | decide | assumption) ?_
  refine r_aload_n dX8_add_36 rfl ?_
  refine m_get 8 3 dX8_add_37 fl_X8_18 (ob_tree hP) rfl ?_
  refine r_aload_n dX8_add_40 rfl ?_
  refine m_get 8 0 dX8_add_41 fl_X8_27 (ob_tree hP) rfl ?_
  refine r_iconst_0 dX8_add_44 ?_
  refine m_iast (nu a) dX8_add_45 (ai_use hP) (by simp [mU, e]) (by omega) (by first | decide | assumption) ?_
  refine r_aload_n dX8_add_46 rfl ?_
  refine r_dup dX8_add_47 rfl ?_
  refine m_get 8 0 dX8_add_48 fl_X8_27 (ob_tree hP) rfl ?_
  refine r_iconst_1 dX8_add_51 ?_
  refine r_iadd dX8_add_52 ?_
  refine m_put 8 0 dX8_add_53 fl_X8_27 (fun r hr => by cases hr; rfl) (ob_tree hP) (Nat.le_of_ble_eq_true rfl) rfl ?_
  refine r_aload_n dX8_add_56 rfl ?_
  refine m_abs (fun M2 => Fr (p + 1) (p + 6) M M2 ∧ QT M2 p (adU a (nI q) s) ∧ M2 (p + 5) 0 = 1000000) ⟨fr_u (fr_u (fr_u (fr_u fr_r (by omega)) (by omega)) (by omega)) (by omega), ⟨by simp [mU, adU, upd, hT.1], fun k hk => ?_⟩, by simp [mU, b0]; rfl⟩ (fun M2 ⟨f2, hT2, z2⟩ => ?_)
  · rw [nu_adU hW] at hk
    by_cases hkn : k = nu a
    · subst hkn
      simp [mU, adU, upd]
      omega
    · obtain ⟨t1, t2, t3⟩ := hT.2 k (by omega)
      have n1 : ¬ 10 + k = 4 := by omega
      have n2 : ¬ 22 + k = 4 := by omega
      have n3 : ¬ 34 + k = 4 := by omega
      have n4 : ¬ 10 + k = 34 + nu a := by omega
      have n5 : ¬ 10 + k = 22 + nu a := by omega
      have n6 : ¬ 22 + k = 34 + nu a := by omega
      have n7 : ¬ 22 + k = 10 + nu a := by omega
      have n8 : ¬ 34 + k = 22 + nu a := by omega
      have n9 : ¬ 34 + k = 10 + nu a := by omega
      simp [mU, adU, upd, hkn, t1, t2, t3, n1, n2, n3, n4, n5, n6, n7, n8, n9]
  refine m_pv0 dX8_add_57 cv_X8_50 (c_X8_dealBase hP hT2 hW' z2) (ob_tree hP) ⟨_, rfl, rfl⟩ ⟨rfl, rfl⟩ (by decide) (by decide) (Nat.le_of_ble_eq_true rfl) (fun M1 L1 ⟨g1, g2, g3⟩ => ?_)
  exact r_vret dX8_add_60 rfl (hq M1 L1 ⟨g1, fr_t f2 (fr_w g2 (by omega) (by omega)), rt_fr hT2 g2 (Or.inl (Nat.le_refl _)), g3⟩)
theorem c_X8_changeShares {u : Nat} {s : Int32} (hP : PL p) (hT : QT M p a) (hB : QB M p a) (hW : WU a) (hW' : WU (upd a (22 + u) s)) (hu : u < nu a) (h0 : 0 < u) : PO yX8_changeShares I_X8_changeShares [.ref (p + 1), .int (nI u), .int s] M L dd none (fun M' L' => L' = L ∧ Fr (p + 1) (p + 6) M M' ∧ QT M' p (upd a (22 + u) s) ∧ QB M' p (upd a (22 + u) s)) := by
  refine po_mk (fun Q hq => ?_)
  refine a_met (by decide +kernel) rfl rfl (Nat.le_of_ble_eq_true rfl) (by simp [Value.category]) (by decide) rfl ?_
  show AW I_X8_changeShares 0 [.ref (p + 1), .int (nI u), .int s] [] (hS M L dd) 0 0 Q
  have e := hT.1.trans hW.1
  have h12 := hW.2.2.1
  have b0 := hB 0 (by omega)
  refine r_aload_n dX8_changeShares_0 rfl ?_
  refine r_iload_n dX8_changeShares_1 rfl ?_
  refine m_cv1 dX8_changeShares_2 cv_X8_46 (c_X8_has hP) rfl (ob_tree hP) ⟨_, rfl, rfl⟩ ⟨rfl, rfl⟩ (by decide) (by decide) (Nat.le_of_ble_eq_true rfl) ?_
  refine r_if_eq 19 dX8_changeShares_5 (by decide) (fun z => absurd z (by rw [bI_t ⟨nI_pos' (by omega), by rw [e]; exact nI_lt hu (by omega)⟩]; decide)) (fun _ => ?_)
  refine r_aload_n dX8_changeShares_8 rfl ?_
  refine m_get 8 2 dX8_changeShares_9 fl_X8_15 (ob_tree hP) rfl ?_
  refine r_iload_n dX8_changeShares_12 rfl ?_
  refine r_iload_n dX8_changeShares_13 rfl ?_
  refine m_iast u dX8_changeShares_14 (ai_shares hP) rfl (by omega) (by first | decide | assumption) ?_
  refine r_aload_n dX8_changeShares_15 rfl ?_
  have hT2 : QT (mU M (p + 3) (upd (M (p + 3)) u s)) p (upd a (22 + u) s) := by
    have n0 : ¬ 4 = 22 + u := by omega
    refine ⟨by simp [mU, upd, hT.1, n0], fun k hk => ?_⟩
    have hk2 : k < nu a := by
      have e3 : nu (upd a (22 + u) s) = nu a := by show zN (upd a (22 + u) s 4) = _; rw [upd_ne n0]
      rwa [e3] at hk
    obtain ⟨t1, t2, t3⟩ := hT.2 k hk2
    have n1 : ¬ 10 + k = 22 + u := by omega
    have n2 : ¬ 34 + k = 22 + u := by omega
    by_cases hku : k = u
    · subst hku
      simp [mU, upd, t1, t3, n1, n2]
    · simp [mU, upd, t1, t2, t3, n1, n2, hku]
  refine m_pv0 dX8_changeShares_16 cv_X8_50 (c_X8_dealBase hP hT2 hW' (by simp [mU, b0]; rfl)) (ob_tree hP) ⟨_, rfl, rfl⟩ ⟨rfl, rfl⟩ (by decide) (by decide) (Nat.le_of_ble_eq_true rfl) (fun M1 L1 ⟨g1, g2, g3⟩ => ?_)
  exact r_vret dX8_changeShares_19 rfl (hq M1 L1 ⟨g1, fr_t (fr_u fr_r (by omega)) (fr_w g2 (by omega) (by omega)), rt_fr hT2 g2 (Or.inl (Nat.le_refl _)), g3⟩)
theorem c_X8_addUse {u : Nat} (hP : PL p) (hT : QT M p a) (hW : WU a) (hu : u < nu a) : PO yX8_addUse I_X8_addUse [.ref (p + 1), .int (nI u)] M L dd none (fun M' L' => L' = L ∧ M' = mU M (p + 4) (upd (M (p + 4)) u (M (p + 4) u + 1000))) := by
  refine po_mk (fun Q hq => ?_)
  refine a_met (by decide +kernel) rfl rfl (Nat.le_of_ble_eq_true rfl) (by simp [Value.category]) (by decide) rfl ?_
  show AW I_X8_addUse 0 [.ref (p + 1), .int (nI u)] [] (hS M L dd) 0 0 Q
  have e := hT.1.trans hW.1
  have h12 := hW.2.2.1
  refine r_aload_n dX8_addUse_0 rfl ?_
  refine r_iload_n dX8_addUse_1 rfl ?_
  refine m_cv1 dX8_addUse_2 cv_X8_46 (c_X8_has hP) rfl (ob_tree hP) ⟨_, rfl, rfl⟩ ⟨rfl, rfl⟩ (by decide) (by decide) (Nat.le_of_ble_eq_true rfl) ?_
  refine r_if_eq 20 dX8_addUse_5 (by decide) (fun z => absurd z (by rw [bI_t ⟨nI_pos' (by omega), by rw [e]; exact nI_lt hu (by omega)⟩]; decide)) (fun _ => ?_)
  refine r_aload_n dX8_addUse_8 rfl ?_
  refine m_get 8 3 dX8_addUse_9 fl_X8_18 (ob_tree hP) rfl ?_
  refine r_iload_n dX8_addUse_12 rfl ?_
  refine r_dup2 dX8_addUse_13 rfl rfl ?_
  refine m_iald u dX8_addUse_14 (ai_use hP) rfl (by omega) (by first | decide | assumption) ?_
  refine r_sipush 1000 dX8_addUse_15 (by decide) ?_
  refine r_iadd dX8_addUse_18 ?_
  refine m_iast u dX8_addUse_19 (ai_use hP) rfl (by omega) (by first | decide | assumption) ?_
  exact r_vret dX8_addUse_20 rfl (hq _ _ ⟨rfl, rfl⟩)
theorem c_X8_halveUses (hP : PL p) (hT : QT M p a) (hW : WU a) : PO yX8_halveUses I_X8_halveUses [.ref (p + 1)] M L dd none (fun M' L' => L' = L ∧ Fr (p + 4) (p + 5) M M' ∧ ∀ k, k < nu a → M' (p + 4) k = M (p + 4) k / 2) := by
  refine po_mk (fun Q hq => ?_)
  refine a_met (by decide +kernel) rfl rfl (Nat.le_of_ble_eq_true rfl) (by simp [Value.category]) (by decide) rfl ?_
  show AW I_X8_halveUses 0 [.ref (p + 1), .null] [] (hS M L dd) 0 0 Q
  have h12 := hW.2.2.1
  refine r_iconst_0 dX8_halveUses_0 ?_
  refine s_istore_n 1 dX8_halveUses_1 (by decide) rfl rfl ?_
  have lp : ∀ k, k ≤ nu a → ∀ (M' : Nat → Nat → Int32), Fr (p + 4) (p + 5) M M' → (∀ u, M' (p + 4) u = if u < k then M (p + 4) u / 2 else M (p + 4) u) → AW I_X8_halveUses 2 [.ref (p + 1), .int (nI k)] [] (hS M' L dd) 0 0 Q := by
    refine lp_up _ ?_ ?_
    · intro M' hF hB 
      have hn := (hF (p + 1) (by omega) ▸ hT.1.trans hW.1 : M' (p + 1) 0 = nI (nu a))
      refine r_iload_n dX8_halveUses_2 rfl ?_
      refine r_aload_n dX8_halveUses_3 rfl ?_
      refine m_get 8 0 dX8_halveUses_4 fl_X8_27 (ob_tree hP) rfl ?_
      refine r_icmp_ge 26 dX8_halveUses_7 (by decide) (fun _ => ?_) (fun z => absurd (by rw [hn]; exact nI_le (Nat.le_refl _) (by omega)) z)
      exact r_vret dX8_halveUses_26 rfl (hq M' L ⟨rfl, hF, fun k hk => by rw [hB, if_pos hk]⟩)
    · intro k hk ih M' hF hB 
      have hn := (hF (p + 1) (by omega) ▸ hT.1.trans hW.1 : M' (p + 1) 0 = nI (nu a))
      refine r_iload_n dX8_halveUses_2 rfl ?_
      refine r_aload_n dX8_halveUses_3 rfl ?_
      refine m_get 8 0 dX8_halveUses_4 fl_X8_27 (ob_tree hP) rfl ?_
      refine r_icmp_ge 26 dX8_halveUses_7 (by decide) (fun z => absurd z (by rw [hn]; exact nI_ge hk (by omega))) (fun _ => ?_)
      refine r_aload_n dX8_halveUses_10 rfl ?_
      refine m_get 8 3 dX8_halveUses_11 fl_X8_18 (ob_tree hP) rfl ?_
      refine r_iload_n dX8_halveUses_14 rfl ?_
      refine r_dup2 dX8_halveUses_15 rfl rfl ?_
      refine m_iald k dX8_halveUses_16 (ai_use hP) rfl (by omega) (by first | decide | assumption) ?_
      refine r_iconst_2 dX8_halveUses_17 ?_
      refine r_idiv dX8_halveUses_18 (by decide) ?_
      refine m_iast k dX8_halveUses_19 (ai_use hP) rfl (by omega) (by first | decide | assumption) ?_
      refine s_iinc dX8_halveUses_20 rfl (by decide) rfl ?_
      refine r_goto 2 dX8_halveUses_23 (by decide) ?_
      refine m_eq (ih _ (fr_u hF (by omega)) (fun u => ?_)) (by simp [nI_succ]) rfl rfl
      rw [mU_s]
      by_cases hk2 : u = k
      · subst hk2
        rw [upd_eq, hB, if_neg (by omega), if_pos (by omega)]
      · rw [upd_ne hk2, hB]
        by_cases h5 : u < k
        · rw [if_pos h5, if_pos (by omega)]
        · rw [if_neg h5, if_neg (by omega)]
  exact lp 0 (Nat.zero_le _) M fr_r (fun u => rfl)
def ndS (a : Nat → Int32) (u : Nat) (t : Int32) : Int32 := bse a u - (if 0 < t then (1000000 * (a (34 + u)).toInt64 / t.toInt64).toInt32 else 0)
theorem c_X8_need {u : Nat} {t : Int32} (hP : PL p) (hT : QT M p a) (hB : QB M p a) (hW : WU a) (hu : u < nu a) : AD yX8_need I_X8_need [.ref (p + 1), .int (nI u), .int t] (hS M L dd) (.inl (some (.int (ndS a u t)))) (hS M L dd) := by
  intro Q hq
  refine a_met (by decide +kernel) rfl rfl (Nat.le_of_ble_eq_true rfl) (by simp [Value.category]) (by decide) rfl ?_
  show AW I_X8_need 0 [.ref (p + 1), .int (nI u), .int t, .null, .null] [] (hS M L dd) 0 0 Q
  have e := hT.1.trans hW.1
  have h12 := hW.2.2.1
  have e3 := (hT.2 u hu).2.2
  have e4 := hB u hu
  refine r_aload_n dX8_need_0 rfl ?_
  refine r_iload_n dX8_need_1 rfl ?_
  refine m_cv1 dX8_need_2 cv_X8_46 (c_X8_has hP) rfl (ob_tree hP) ⟨_, rfl, rfl⟩ ⟨rfl, rfl⟩ (by decide) (by decide) (Nat.le_of_ble_eq_true rfl) ?_
  refine r_if_ne 10 dX8_need_5 (by decide) (fun _ => ?_) (fun z => absurd z (by rw [bI_t ⟨nI_pos' (by omega), by rw [e]; exact nI_lt hu (by omega)⟩]; decide))
  refine r_iload_n dX8_need_10 rfl ?_
  refine r_if_le 31 dX8_need_11 (by decide) (fun h11 => ?_) (fun h11 => ?_)
  · refine r_lconst_0 dX8_need_31 ?_
    refine s_lstore_n 3 dX8_need_32 (by decide) rfl rfl ?_
    refine r_aload_n dX8_need_33 rfl ?_
    refine m_get 8 4 dX8_need_34 fl_X8_21 (ob_tree hP) rfl ?_
    refine r_iload_n dX8_need_37 rfl ?_
    refine m_iald u dX8_need_38 (ai_base hP) rfl (by omega) (by first | decide | assumption) ?_
    refine r_lload_n dX8_need_39 rfl ?_
    refine r_l2i dX8_need_40 ?_
    refine r_isub dX8_need_41 ?_
    exact e_iret dX8_need_42 rfl hq (by unfold ndS; rw [e4]; first | rw [if_neg (by rwa [Int32.not_lt])]; rfl | rw [if_pos (by rwa [← Int32.not_le]), ← e3])
  · refine r_ldc2 1000000 dX8_need_14 k_398 ?_
    refine r_aload_n dX8_need_17 rfl ?_
    refine m_get 8 3 dX8_need_18 fl_X8_18 (ob_tree hP) rfl ?_
    refine r_iload_n dX8_need_21 rfl ?_
    refine m_iald u dX8_need_22 (ai_use hP) rfl (by omega) (by first | decide | assumption) ?_
    refine r_i2l dX8_need_23 ?_
    refine r_lmul dX8_need_24 ?_
    refine r_iload_n dX8_need_25 rfl ?_
    refine r_i2l dX8_need_26 ?_
    refine r_ldiv dX8_need_27 (by rw [← Int64.toInt_inj, Int32.toInt_toInt64]; intro z; apply h11; rw [Int32.le_iff_toInt_le, z]; decide) ?_
    refine r_goto 32 dX8_need_28 (by decide) ?_
    refine s_lstore_n 3 dX8_need_32 (by decide) rfl rfl ?_
    refine r_aload_n dX8_need_33 rfl ?_
    refine m_get 8 4 dX8_need_34 fl_X8_21 (ob_tree hP) rfl ?_
    refine r_iload_n dX8_need_37 rfl ?_
    refine m_iald u dX8_need_38 (ai_base hP) rfl (by omega) (by first | decide | assumption) ?_
    refine r_lload_n dX8_need_39 rfl ?_
    refine r_l2i dX8_need_40 ?_
    refine r_isub dX8_need_41 ?_
    exact e_iret dX8_need_42 rfl hq (by unfold ndS; rw [e4]; first | rw [if_neg (by rwa [Int32.not_lt])]; rfl | rw [if_pos (by rwa [← Int32.not_le]), ← e3])
end TREE2
