/-! THE MODEL LOADS -/
section MLOAD
variable {M : Nat → Nat → Int32} {L : Nat → Nat → Int64} {dd : UInt64} {n : Nat} {s : PS} {Q : a_Q} {g : Nat → Int32} {a a' : Row} {R : List Row} {T : Nat}
theorem push_re (h : RE a a') : ∀ (r : Nat) (b : Row), (pushR R a)[r]? = some b → ∃ b', (pushR R a')[r]? = some b' ∧ RE b b' := by
  intro r b hb
  unfold pushR at *
  generalize (if R.length = 8 then R.drop 1 else R) = X at *
  by_cases z : r < X.length
  · rw [List.getElem?_append_left z] at hb
    exact ⟨b, by rw [List.getElem?_append_left z]; exact hb, re_r⟩
  · rw [List.getElem?_append_right (by omega)] at hb
    have h1 := (List.getElem?_eq_some_iff.mp hb).1
    rw [List.length_singleton] at h1
    have e : r - X.length = 0 := by omega
    rw [e] at hb
    simp at hb
    subst hb
    exact ⟨a', by rw [List.getElem?_append_right (by omega), e]; rfl, h⟩
theorem mh_push (h : RE a a') (hM : MH M (pushR R a')) : MH M (pushR R a) := by
  have hl : (pushR R a).length = (pushR R a').length := by unfold pushR; simp
  obtain ⟨m1, m2, m3⟩ := hM
  refine ⟨by rw [hl]; exact m1, by rw [hl]; exact m2, fun r b hb t ht => ?_⟩
  obtain ⟨b', e1, e2⟩ := push_re h r b hb
  rw [m3 r b' e1 t ht, e2 t ht]
def iniA (a : Row) : Row := fun k => if k < 308 then iniS k else a k
theorem ini_re : RE iniS (iniA a) := fun i hi => if_pos hi
/-- what stays through the model's load -/
def Zl (M M' : Nat → Nat → Int32) (a : Row) : Prop := (∀ c, c ≠ 317 → c ≠ 318 → c ≠ 319 → c ≠ 320 → c ≠ 321 → c ≠ 323 → M' c = M c) ∧ M' 321 = M 321 ∧ M' 317 4 = M 317 4 ∧ M' 317 19 = M 317 19 ∧ M' 317 5 = 0 ∧ M' 317 7 = 0 ∧ ∀ k, k < 308 → M' 320 k = a k
theorem zl_h {M1 M2 : Nat → Nat → Int32} (h : Zl M M1 a) (h2 : Fh M1 M2) : Zl M M2 a := by
  obtain ⟨z1, z2, z3, z4, z5, z6, z7⟩ := h
  exact ⟨fun c k1 k2 k3 k4 k5 k6 => (h2.1 c k1 k2).trans (z1 c k1 k2 k3 k4 k5 k6), (h2.1 321 (by decide) (by decide)).trans z2, (h2.2 4 (by decide)).trans z3, (h2.2 19 (by decide)).trans z4, (h2.2 5 (by decide)).trans z5, (h2.2 7 (by decide)).trans z6, fun k hk => by rw [h2.1 320 (by decide) (by decide)]; exact z7 k hk⟩
theorem zl_u {M1 : Nat → Nat → Int32} {c : Nat} {r : Row} (h : Zl M M1 a) (hc : c = 318 ∨ c = 319) : Zl M (mU M1 c r) a := by
  obtain ⟨z1, z2, z3, z4, z5, z6, z7⟩ := h
  have e : ∀ d, d ≠ c → mU M1 c r d = M1 d := fun d hd => mU_n hd
  exact ⟨fun d k1 k2 k3 k4 k5 k6 => (e d (by omega)).trans (z1 d k1 k2 k3 k4 k5 k6), (e 321 (by omega)).trans z2, by rw [e 317 (by omega)]; exact z3, by rw [e 317 (by omega)]; exact z4, by rw [e 317 (by omega)]; exact z5, by rw [e 317 (by omega)]; exact z6, fun k hk => by rw [e 320 (by omega)]; exact z7 k hk⟩
theorem zl_m {M1 M2 : Nat → Nat → Int32} (h : Zl M M1 a) (h2 : Fm M1 M2) : Zl M M2 a := by
  obtain ⟨z1, z2, z3, z4, z5, z6, z7⟩ := h
  have e7 := h2 317 (by decide) (by decide)
  exact ⟨fun c k1 k2 k3 k4 k5 k6 => (h2 c k2 k6).trans (z1 c k1 k2 k3 k4 k5 k6), (h2 321 (by decide) (by decide)).trans z2, by rw [e7]; exact z3, by rw [e7]; exact z4, by rw [e7]; exact z5, by rw [e7]; exact z6, fun k hk => by rw [h2 320 (by decide) (by decide)]; exact z7 k hk⟩
theorem zl_15 {M1 : Nat → Nat → Int32} {v : Int32} (h : Zl M M1 a) : Zl M (mU M1 317 (upd (M1 317) 15 v)) a := by
  obtain ⟨z1, z2, z3, z4, z5, z6, z7⟩ := h
  exact ⟨fun d k1 k2 k3 k4 k5 k6 => (mU_n k1).trans (z1 d k1 k2 k3 k4 k5 k6), (mU_n (by omega)).trans z2, by rw [mU_s, upd_ne (by decide)]; exact z3, by rw [mU_s, upd_ne (by decide)]; exact z4, by rw [mU_s, upd_ne (by decide)]; exact z5, by rw [mU_s, upd_ne (by decide)]; exact z6, fun k hk => by rw [mU_n (by decide)]; exact z7 k hk⟩
def LdR (M M' : Nat → Nat → Int32) (a : Row) (R : List Row) (P : PS) (x : Int32) : Prop :=
  (∀ c, c ≠ 317 → c ≠ 318 → c ≠ 319 → c ≠ 320 → c ≠ 321 → c ≠ 323 → M' c = M c) ∧ M' 317 19 = M 317 19 ∧ M' 317 5 = 0 ∧ M' 317 7 = 0 ∧ M' 317 15 = (if P.er = 0 then -1 else P.ea) ∧ ((P.er ≠ 0 ∧ x = P.er ∧ MH M' R ∧ RE a (M' 318)) ∨ (P.er = 0 ∧ x = fiS P.ra 4 ∧ MH M' (pushR R a) ∧ RE (fiS P.ra) (M' 318)))
theorem c_X10_load {m : Int32} {N : Nat} (hA : M 318 = a) (hR : MH M R) (hF : M 317 7 = nI N) (hN : N ≤ 600) (hB : BR M g N) : AM yX10_load I_X10_load [.ref 317, .int m] (hS M L dd) (fun o h' => ∃ x M' L', o = .inl (some (.int x)) ∧ h' = hS M' L' dd ∧ L' = L ∧ ((¬ (0 ≤ m ∧ m ≤ nI N) ∧ M' 317 5 = 1 ∧ (∀ c, c ≠ 317 → M' c = M c) ∧ ∀ i, i ≠ 5 → M' 317 i = M 317 i) ∨ ∃ n, n ≤ N ∧ m = nI n ∧ LdR M M' a R (ldP g n (iniA a)) x)) := by
  refine am_mk (fun Q hq => ?_)
  refine a_met (by decide +kernel) rfl rfl (Nat.le_of_ble_eq_true rfl) (by simp [Value.category]) (by decide) rfl ?_
  show AW I_X10_load 0 [.ref 317, .int m] [] (hS M L dd) 0 0 Q
  have c30 : ∀ n, n ≤ N → m = nI n → ∀ M1 : Nat → Nat → Int32, (∀ c, c ≠ 317 → M1 c = M c) → (∀ i, i ≠ 5 → M1 317 i = M 317 i) → M1 317 5 = 0 → AW I_X10_load 30 [.ref 317, .int m] [] (hS M1 L dd) 0 0 Q := by
    intro n hn em M1 f1 k1 k5
    subst em
    have hn6 : n ≤ 600 := by omega
    have hq2 : ∀ (x : Int32) (M' : Nat → Nat → Int32), LdR M M' a R (ldP g n (iniA a)) x → Q (.inl (some (.int x))) (hS M' L dd) := fun x M' z => hq _ _ ⟨x, M', L, rfl, rfl, rfl, Or.inr ⟨n, hn, rfl, z⟩⟩
    have hpi : PI n (ldP g n (iniA a)) := ld_pi ini_re
    have hB1 : BR M g n := fun k hk => hB k (by omega)
    refine r_aload_n dX10_load_30 rfl ?_
    refine r_iload_n dX10_load_31 rfl ?_
    refine m_put 10 8 dX10_load_32 fl_X10_51 (fun r hr => by cases hr; rfl) ob_model (Nat.le_of_ble_eq_true rfl) rfl ?_
    refine r_aload_n dX10_load_35 rfl ?_
    refine r_iconst_0 dX10_load_36 ?_
    refine m_put 10 7 dX10_load_37 fl_X10_48 (fun r hr => by cases hr; rfl) ob_model (Nat.le_of_ble_eq_true rfl) rfl ?_
    refine r_aload_n dX10_load_40 rfl ?_
    refine r_iconst_0 dX10_load_41 ?_
    refine m_put 10 10 dX10_load_42 fl_X10_58 (fun r hr => by cases hr; rfl) ob_model (Nat.le_of_ble_eq_true rfl) rfl ?_
    refine r_aload_n dX10_load_45 rfl ?_
    refine r_iconst_0 dX10_load_46 ?_
    refine m_put 10 13 dX10_load_47 fl_X10_81 (fun r hr => by cases hr; rfl) ob_model (Nat.le_of_ble_eq_true rfl) rfl ?_
    refine m_abs (fun M2 => (∀ c, c ≠ 317 → M2 c = M c) ∧ M2 317 8 = nI n ∧ M2 317 7 = 0 ∧ M2 317 10 = 0 ∧ M2 317 13 = 0 ∧ M2 317 5 = 0 ∧ M2 317 4 = M 317 4 ∧ M2 317 19 = M 317 19) ⟨fun c hc => by simp [mU, hc]; exact f1 c hc, by simp [mU, upd], by simp [mU, upd], by simp [mU, upd], by simp [mU, upd], by simp [mU, upd, k5], by simp [mU, upd, k1], by simp [mU, upd, k1]⟩ (fun M2 ⟨g1, g8, g7, g10, g13, g5, g4, g19⟩ => ?_)
    refine r_aload_n dX10_load_50 rfl ?_
    refine m_get 10 2 dX10_load_51 fl_X10_16 ob_model rfl ?_
    refine r_aload_n dX10_load_54 rfl ?_
    refine m_get 10 0 dX10_load_55 fl_X10_7 ob_model rfl ?_
    refine m_ps2 dX10_load_58 cs_X10_159 (c_X10_sets ai_aside ai_a (by decide) (by decide) (by decide) (by decide) (by decide)) ⟨rfl, rfl⟩ (by decide) (by decide) (Nat.le_of_ble_eq_true rfl) (fun M3 L3 ⟨x1, x2⟩ => ?_)
    subst x1
    have e3 : ∀ c, c ≠ 320 → M3 c = M2 c := fun c hc => by rw [x2, mU_n hc]
    refine r_aload_n dX10_load_61 rfl ?_
    refine m_pv0 dX10_load_62 cv_X10_35 (c_X10_begins) ob_model ⟨_, rfl, rfl⟩ ⟨rfl, rfl⟩ (by decide) (by decide) (Nat.le_of_ble_eq_true rfl) (fun M4 L4 ⟨y1, y2, y3⟩ => ?_)
    subst y1
    refine r_aload_n dX10_load_65 rfl ?_
    refine r_aload_n dX10_load_66 rfl ?_
    refine m_get 10 1 dX10_load_67 fl_X10_13 ob_model rfl ?_
    refine r_iconst_0 dX10_load_70 ?_
    refine m_pv2 dX10_load_71 cv_X10_38 (c_X10_becomes (f := 0) ai_fresh (by decide) (by omega) (by decide)) ob_model ⟨_, rfl, rfl⟩ ⟨rfl, rfl⟩ (by decide) (by decide) (Nat.le_of_ble_eq_true rfl) (fun M5 L5 ⟨z1, z2⟩ => ?_)
    subst z1
    have e5 : ∀ c, c ≠ 318 → c ≠ 319 → c ≠ 320 → M5 c = M2 c := fun c h1 h2 h3 => by rw [z2, mU_n h1, y2 c h2, e3 c h3]
    have e7 : M5 317 = M2 317 := e5 317 (by decide) (by decide) (by decide)
    have r5 : M5 318 = iniA a := by
      rw [z2, mU_s]
      funext k
      by_cases hk : k < 308
      · simp only [if_pos hk, iniA, Nat.zero_add]
        exact y3 k hk
      · simp only [if_neg hk, iniA]
        rw [y2 318 (by decide), e3 318 (by decide), g1 318 (by decide), hA]
    have z5 : Zl M M5 a := ⟨fun c k1 k2 k3 k4 k5 k6 => (e5 c k2 k3 k4).trans (g1 c k1), (e5 321 (by decide) (by decide) (by decide)).trans (g1 321 (by decide)), by rw [e7]; exact g4, by rw [e7]; exact g19, by rw [e7]; exact g5, by rw [e7]; exact g7, fun k hk => by
      rw [z2, mU_n (by decide), y2 320 (by decide), x2, mU_s, if_pos hk, g1 318 (by decide), hA]⟩
    have b5 : BR M5 g n := fun k hk => by rw [z5.1 322 (by decide) (by decide) (by decide) (by decide) (by decide) (by decide)]; exact hB1 k hk
    refine r_aload_n dX10_load_74 rfl ?_
    refine m_pv0 dX10_load_75 cv_X10_101 (c_X10_next (p := 0) b5 hn6 (by rw [e7]; exact g8) (by rw [e7]; exact g10) (Nat.zero_le _)) ob_model ⟨_, rfl, rfl⟩ ⟨rfl, rfl⟩ (by decide) (by decide) (Nat.le_of_ble_eq_true rfl) (fun M6 L6 ⟨u1, u2, u3⟩ => ?_)
    subst u1
    have z6 : Zl M M6 a := zl_h z5 (fh_g (fg_k u2))
    have r6 : M6 318 = iniA a := (u2.1 318 (by decide)).trans r5
    have t6 : ML M6 g n (iniP (iniA a)) := ⟨⟨by rw [u2.2 8 (by decide) (by decide) (by decide) (by decide), e7]; exact g8, by rw [u2.2 13 (by decide) (by decide) (by decide) (by decide), e7]; exact g13, ⟨_, u3.2.1, u3.1⟩, fun z => absurd rfl z⟩, fun _ => u3⟩
    have c130 : ∀ (M8 : Nat → Nat → Int32) (r8 : Row), Zl M M8 a → M8 318 = r8 → M8 317 13 = (ldP g n (iniA a)).er → M8 317 15 = (if (ldP g n (iniA a)).er = 0 then -1 else (ldP g n (iniA a)).ea) → ((ldP g n (iniA a)).er = 0 → r8 = fiS (ldP g n (iniA a)).ra) → AW I_X10_load 130 [.ref 317, .int (nI n)] [] (hS M8 L6 dd) 0 0 Q := by
      intro M8 r8 z8 e8 e13 e15 er8
      have mh8 : ∀ M9 : Nat → Nat → Int32, Zl M M9 a → MH M9 R := fun M9 z => ⟨hR.1, by rw [z.2.2.1]; exact hR.2.1, fun r b hb t ht => by rw [z.2.1]; exact hR.2.2 r b hb t ht⟩
      refine r_aload_n dX10_load_130 rfl ?_
      refine m_get 10 1 dX10_load_131 fl_X10_13 ob_model rfl ?_
      refine r_aload_n dX10_load_134 rfl ?_
      refine m_get 10 0 dX10_load_135 fl_X10_7 ob_model rfl ?_
      refine m_ps2 dX10_load_138 cs_X10_159 (c_X10_sets ai_fresh ai_a (by decide) (by decide) (by decide) (by decide) (by decide)) ⟨rfl, rfl⟩ (by decide) (by decide) (Nat.le_of_ble_eq_true rfl) (fun M9 L9 ⟨v1, v2⟩ => ?_)
      subst v1
      have z9 : Zl M M9 a := by rw [v2]; exact zl_u z8 (Or.inr rfl)
      refine r_aload_n dX10_load_141 rfl ?_
      refine r_aload_n dX10_load_142 rfl ?_
      refine m_get 10 2 dX10_load_143 fl_X10_16 ob_model rfl ?_
      refine r_iconst_0 dX10_load_146 ?_
      refine m_pv2 dX10_load_147 cv_X10_38 (c_X10_becomes (f := 0) ai_aside (by decide) (by omega) (by decide)) ob_model ⟨_, rfl, rfl⟩ ⟨rfl, rfl⟩ (by decide) (by decide) (Nat.le_of_ble_eq_true rfl) (fun M10 L10 ⟨w1, w2⟩ => ?_)
      subst w1
      have z10 : Zl M M10 a := by rw [w2]; exact zl_u z9 (Or.inl rfl)
      have i10 : M10 317 = M8 317 := by rw [w2, mU_n (by decide), v2, mU_n (by decide)]
      have re10 : RE a (M10 318) := by
        intro i hi
        rw [w2, mU_s]
        simp only [if_pos hi, Nat.zero_add]
        exact z9.2.2.2.2.2.2 i hi
      have fr10 : ∀ i, i < 308 → M10 319 i = r8 i := by
        intro i hi
        rw [w2, mU_n (by decide), v2, mU_s]
        simp only [if_pos hi]
        rw [e8]
      refine r_aload_n dX10_load_150 rfl ?_
      refine m_get 10 13 dX10_load_151 fl_X10_81 ob_model rfl ?_
      rw [show M10 317 13 = (ldP g n (iniA a)).er by rw [i10]; exact e13]
      refine r_if_eq 162 dX10_load_154 (by decide) (fun h154 => ?_) (fun h154 => ?_)
      · refine r_aload_n dX10_load_162 rfl ?_
        refine m_pv0 dX10_load_163 cv_X10_169 (c_X10_keeps (R := R) (a := M10 318) rfl (mh8 M10 z10)) ob_model ⟨_, rfl, rfl⟩ ⟨rfl, rfl⟩ (by decide) (by decide) (Nat.le_of_ble_eq_true rfl) (fun M11 L11 ⟨q1, q2, q3, q4⟩ => ?_)
        subst q1
        refine r_aload_n dX10_load_166 rfl ?_
        refine r_aload_n dX10_load_167 rfl ?_
        refine m_get 10 1 dX10_load_168 fl_X10_13 ob_model rfl ?_
        refine r_iconst_0 dX10_load_171 ?_
        refine m_pv2 dX10_load_172 cv_X10_38 (c_X10_becomes (f := 0) ai_fresh (by decide) (by omega) (by decide)) ob_model ⟨_, rfl, rfl⟩ ⟨rfl, rfl⟩ (by decide) (by decide) (Nat.le_of_ble_eq_true rfl) (fun M12 L12 ⟨o1, o2⟩ => ?_)
        subst o1
        have r12 : RE r8 (M12 318) := by
          intro i hi
          rw [o2, mU_s]
          simp only [if_pos hi, Nat.zero_add]
          rw [q2 319 (by decide) (by decide)]
          exact fr10 i hi
        have i12 : ∀ i, i ≠ 4 → M12 317 i = M10 317 i := fun i hi => by rw [o2, mU_n (by decide)]; exact q3 i hi
        refine r_aload_n dX10_load_175 rfl ?_
        refine m_get 10 0 dX10_load_176 fl_X10_7 ob_model rfl ?_
        refine r_iconst_4 dX10_load_179 ?_
        refine m_iald 4 dX10_load_180 ai_a rfl (by omega) (by first | decide | assumption) ?_
        rw [show M12 318 4 = fiS (ldP g n (iniA a)).ra 4 by rw [r12 4 (by decide), er8 h154]]
        refine r_iret dX10_load_181 rfl (hq2 _ _ ⟨fun c k1 k2 k3 k4 k5 k6 => by rw [o2, mU_n k2, q2 c k1 k5]; exact z10.1 c k1 k2 k3 k4 k5 k6, (i12 19 (by decide)).trans z10.2.2.2.1, (i12 5 (by decide)).trans z10.2.2.2.2.1, (i12 7 (by decide)).trans z10.2.2.2.2.2.1, by rw [i12 15 (by decide), i10]; exact e15, Or.inr ⟨h154, rfl, ?_, by rw [← er8 h154]; exact r12⟩⟩)
        exact mh_push re10 ⟨q4.1, by rw [o2, mU_n (by decide)]; exact q4.2.1, fun r b hb t ht => by rw [o2, mU_n (by decide)]; exact q4.2.2 r b hb t ht⟩
      · refine r_aload_n dX10_load_157 rfl ?_
        refine m_get 10 13 dX10_load_158 fl_X10_81 ob_model rfl ?_
        rw [show M10 317 13 = (ldP g n (iniA a)).er by rw [i10]; exact e13]
        exact r_iret dX10_load_161 rfl (hq2 _ _ ⟨z10.1, z10.2.2.2.1, z10.2.2.2.2.1, z10.2.2.2.2.2.1, by rw [i10]; exact e15, Or.inl ⟨h154, rfl, mh8 M10 z10, re10⟩⟩)
    have c100 : ∀ (M7 : Nat → Nat → Int32), Fh M6 M7 → M7 317 13 = (ldP g n (iniA a)).er → ((ldP g n (iniA a)).er ≠ 0 → M7 317 14 = (ldP g n (iniA a)).ea) → M7 318 = (ldP g n (iniA a)).ra → AW I_X10_load 100 [.ref 317, .int (nI n)] [] (hS M7 L6 dd) 0 0 Q := by
      intro M7 f7 e13 e14 e18
      have z7 : Zl M M7 a := zl_h z6 f7
      refine r_aload_n dX10_load_100 rfl ?_
      refine r_aload_n dX10_load_101 rfl ?_
      refine m_get 10 13 dX10_load_102 fl_X10_81 ob_model rfl ?_
      rw [e13]
      refine r_if_ne 112 dX10_load_105 (by decide) (fun h105 => ?_) (fun h105 => ?_)
      · refine r_aload_n dX10_load_112 rfl ?_
        refine m_get 10 14 dX10_load_113 fl_X10_94 ob_model rfl ?_
        refine m_put 10 15 dX10_load_116 fl_X10_25 (fun r hr => by cases hr; rfl) ob_model (Nat.le_of_ble_eq_true rfl) rfl ?_
        refine r_aload_n dX10_load_119 rfl ?_
        refine m_get 10 13 dX10_load_120 fl_X10_81 ob_model rfl ?_
        refine r_if_ne 130 dX10_load_123 (by decide) (fun _ => ?_) (fun z => absurd z (by rw [mU_s, upd_ne (by decide), e13]; exact h105))
        exact c130 _ _ (zl_15 z7) rfl (by rw [mU_s, upd_ne (by decide)]; exact e13) (by rw [mU_s, upd_eq, if_neg h105]; exact e14 h105) (fun z => absurd z h105)
      · refine r_iconst_m1 dX10_load_108 ?_
        refine r_goto 116 dX10_load_109 (by decide) ?_
        refine m_put 10 15 dX10_load_116 fl_X10_25 (fun r hr => by cases hr; rfl) ob_model (Nat.le_of_ble_eq_true rfl) rfl ?_
        refine r_aload_n dX10_load_119 rfl ?_
        refine m_get 10 13 dX10_load_120 fl_X10_81 ob_model rfl ?_
        refine r_if_ne 130 dX10_load_123 (by decide) (fun z => absurd (by rw [mU_s, upd_ne (by decide), e13]; exact h105) z) (fun _ => ?_)
        refine r_aload_n dX10_load_126 rfl ?_
        refine m_pv0 dX10_load_127 cv_X10_166 (c_X10_fills (a := (ldP g n (iniA a)).ra) (by rw [mU_n (by decide)]; exact e18) hpi.2.1) ob_model ⟨_, rfl, rfl⟩ ⟨rfl, rfl⟩ (by decide) (by decide) (Nat.le_of_ble_eq_true rfl) (fun M8 L8 ⟨v1, v2, v3, v4⟩ => ?_)
        subst v1
        have e7b := v2 317 (by decide) (by decide)
        exact c130 M8 _ (zl_m (zl_15 z7) v2) v3 (by rw [e7b, mU_s, upd_ne (by decide)]; exact e13) (by rw [e7b, mU_s, upd_eq, if_pos h105]) (fun _ => rfl)
    have lp : ∀ f (s2 : PS) (M7 : Nat → Nat → Int32), Fh M6 M7 → ML M7 g n s2 → M7 318 = s2.ra → PI n s2 → prs g n f s2 = ldP g n (iniA a) → (s2.er = 0 → n < f + s2.po) → AW I_X10_load 78 [.ref 317, .int (nI n)] [] (hS M7 L6 dd) 0 0 Q := by
      intro f
      induction f with
      | zero =>
        intro s2 M7 f7 t7 r7 i7 e7 c7
        rw [prs] at e7
        have ne : ¬ s2.er = 0 := fun z => by have := c7 z; have := i7.1; omega
        refine r_aload_n dX10_load_78 rfl ?_
        refine m_get 10 13 dX10_load_79 fl_X10_81 ob_model rfl ?_
        rw [t7.1.2.1]
        refine r_if_ne 100 dX10_load_82 (by decide) (fun _ => ?_) (fun z => absurd z ne)
        exact c100 M7 f7 (by rw [← e7]; exact t7.1.2.1) (fun _ => by rw [← e7]; exact t7.1.2.2.2 ne) (by rw [← e7]; exact r7)
      | succ f ih =>
        intro s2 M7 f7 t7 r7 i7 e7 c7
        rw [prs] at e7
        refine r_aload_n dX10_load_78 rfl ?_
        refine m_get 10 13 dX10_load_79 fl_X10_81 ob_model rfl ?_
        rw [t7.1.2.1]
        refine r_if_ne 100 dX10_load_82 (by decide) (fun h82 => ?_) (fun h82 => ?_)
        · rw [if_neg h82] at e7
          exact c100 M7 f7 (by rw [← e7]; exact t7.1.2.1) (fun _ => by rw [← e7]; exact t7.1.2.2.2 h82) (by rw [← e7]; exact r7)
        · rw [if_pos h82] at e7
          have hL := t7.2 h82
          have b2 : s2.po ≤ skp g n s2.po ∧ skp g n s2.po ≤ n := en_b i7.1
          by_cases hs : skp g n s2.po < n
          · rw [if_pos hs] at e7
            have k3 : ¬ M7 317 11 = 3 := by
              rcases hL.2.2 with y | y | y | y
              · exact absurd hs y.1
              · rw [y.2.2.1]; decide
              · rw [y.2.2.2.1]; decide
              · rw [y.2.2.2.1]; decide
            have b7 : BR M7 g n := fun k hk => by rw [f7.1 322 (by decide) (by decide), u2.1 322 (by decide)]; exact b5 k hk
            have i8 : PI n (⟨s2.ra, skp g n s2.po, s2.er, s2.ea⟩ : PS) := ⟨b2.2, i7.2⟩
            have sc := stm_c (g := g) i8
            refine r_aload_n dX10_load_85 rfl ?_
            refine m_get 10 11 dX10_load_86 fl_X10_68 ob_model rfl ?_
            refine r_iconst_3 dX10_load_89 ?_
            refine r_icmp_eq 100 dX10_load_90 (by decide) (fun z => absurd z k3) (fun _ => ?_)
            refine r_aload_n dX10_load_93 rfl ?_
            refine m_pv0 dX10_load_94 cv_X10_163 (c_X10_readsStatement b7 hn6 t7 h82 hs i7 r7) ob_model ⟨_, rfl, rfl⟩ ⟨rfl, rfl⟩ (by decide) (by decide) (Nat.le_of_ble_eq_true rfl) (fun M8 L8 ⟨v1, v2, v3, v4⟩ => ?_)
            subst v1
            refine r_goto 78 dX10_load_97 (by decide) ?_
            exact ih _ M8 (fh_t f7 v2) v3 v4 sc.1 e7 (fun z => by have h1 := sc.2 z; have h2 := c7 h82; change skp g n s2.po < _ at h1; omega)
          · rw [if_neg hs] at e7
            have k3 : M7 317 11 = 3 := by
              rcases hL.2.2 with y | y | y | y
              · exact y.2.1
              · exact absurd y.1 hs
              · exact absurd y.1 hs
              · exact absurd y.1 hs
            refine r_aload_n dX10_load_85 rfl ?_
            refine m_get 10 11 dX10_load_86 fl_X10_68 ob_model rfl ?_
            refine r_iconst_3 dX10_load_89 ?_
            refine r_icmp_eq 100 dX10_load_90 (by decide) (fun _ => ?_) (fun z => absurd k3 z)
            exact c100 M7 f7 (by rw [← e7]; exact t7.1.2.1) (fun z => absurd (by rw [← e7]; exact h82) z) (by rw [← e7]; exact r7)
    exact lp (n + 1) (iniP (iniA a)) M6 fh_r t6 r6 (ini_pi ini_re) rfl (fun _ => by show n < n + 1 + 0; omega)
  refine r_aload_n dX10_load_0 rfl ?_
  refine r_iload_n dX10_load_1 rfl ?_
  refine r_iconst_0 dX10_load_2 ?_
  refine r_aload_n dX10_load_3 rfl ?_
  refine m_get 10 7 dX10_load_4 fl_X10_48 ob_model rfl ?_
  refine m_cs3 dX10_load_7 cs_X10_54 (c_X10_isIn) rfl ⟨rfl, rfl⟩ (by decide) (by decide) (Nat.le_of_ble_eq_true rfl) ?_
  rw [hF]
  refine r_if_eq 17 dX10_load_10 (by decide) (fun h10 => ?_) (fun h10 => ?_)
  · rw [bI_0] at h10
    refine r_iconst_1 dX10_load_17 ?_
    refine m_put 10 5 dX10_load_18 fl_X10_42 (fun r hr => by cases hr; rfl) ob_model (Nat.le_of_ble_eq_true rfl) rfl ?_
    refine r_aload_n dX10_load_21 rfl ?_
    refine m_get 10 5 dX10_load_22 fl_X10_42 ob_model rfl ?_
    refine r_if_le 30 dX10_load_25 (by decide) (fun z => absurd z (by rw [mU_s, upd_eq]; decide)) (fun _ => ?_)
    refine r_iconst_0 dX10_load_28 ?_
    exact r_iret dX10_load_29 rfl (hq _ _ ⟨_, _, L, rfl, rfl, rfl, Or.inl ⟨h10, by rw [mU_s, upd_eq], fun c hc => mU_n hc, fun i hi => by rw [mU_s, upd_ne hi]⟩⟩)
  · rw [bI_0, Decidable.not_not] at h10
    have ej : ∃ j, j ≤ N ∧ m = nI j := by
      obtain ⟨j, hj, e⟩ := nI_of (x := m) (Int32.not_lt.mpr h10.1)
      exact ⟨j, (nI_leI hj (by omega)).mp (by rw [← e]; exact h10.2), e⟩
    obtain ⟨j, hj, em⟩ := ej
    refine r_iconst_0 dX10_load_13 ?_
    refine r_goto 18 dX10_load_14 (by decide) ?_
    refine m_put 10 5 dX10_load_18 fl_X10_42 (fun r hr => by cases hr; rfl) ob_model (Nat.le_of_ble_eq_true rfl) rfl ?_
    refine r_aload_n dX10_load_21 rfl ?_
    refine m_get 10 5 dX10_load_22 fl_X10_42 ob_model rfl ?_
    refine r_if_le 30 dX10_load_25 (by decide) (fun _ => ?_) (fun z => absurd (by rw [mU_s, upd_eq]; decide) z)
    exact c30 j hj em _ (fun c hc => mU_n hc) (fun i hi => by rw [mU_s, upd_ne hi]) (by rw [mU_s, upd_eq])
end MLOAD
