/-! THE MODEL READS A TEXT: words and numbers -/
section MTEXT2
variable {M : Nat → Nat → Int32} {L : Nat → Nat → Int64} {dd : UInt64} {n p : Nat} {s : PS} {Q : a_Q} {g : Nat → Int32}
theorem rdN_nod {lo hi : Int32} (h0 : s.er = 0) (hz : ¬ (skp g n s.po < n ∧ cDg (g (skp g n s.po)) = true)) : rdN g n lo hi s = (dvP g n s, ⟨s.ra, skp g n s.po, -2, nI (skp g n s.po)⟩) := by
  have e : evP g n s = skp g n s.po := en_n hz
  rw [rdN, if_pos h0, if_pos e, e]
theorem rdN_dig {lo hi : Int32} {lh hh : Nat} (h0 : s.er = 0) (hn : n ≤ 600) (hb : skp g n s.po < n) (hd : cDg (g (skp g n s.po)) = true) (e1 : lo = nI lh) (e2 : hi = nI hh) (h1 : lh ≤ 9999) (h2 : hh ≤ 9999) :
    dwF g (skp g n s.po) (evP g n s - skp g n s.po) ≤ 100000 ∧ ((lh ≤ dwF g (skp g n s.po) (evP g n s - skp g n s.po) ∧ dwF g (skp g n s.po) (evP g n s - skp g n s.po) ≤ hh) → rdN g n lo hi s = (nI (dwF g (skp g n s.po) (evP g n s - skp g n s.po)), ⟨s.ra, evP g n s, 0, s.ea⟩)) ∧ (¬ (lh ≤ dwF g (skp g n s.po) (evP g n s - skp g n s.po) ∧ dwF g (skp g n s.po) (evP g n s - skp g n s.po) ≤ hh) → rdN g n lo hi s = (dvP g n s, ⟨s.ra, evP g n s, -3, nI (skp g n s.po)⟩)) := by
  subst e1 e2
  have hE : skp g n s.po + 1 ≤ evP g n s := by
    have e : evP g n s = en cDg g n (skp g n s.po + 1) := en_y hb hd
    rw [e]; exact (en_b (by omega)).1
  have ne : ¬ evP g n s = skp g n s.po := by omega
  have hw := dw_ok g (skp g n s.po) (evP g n s - skp g n s.po) (fun j hj => en_m (P := cDg) (g := g) (n := n) (i := skp g n s.po) (by omega) (by show _ < evP g n s; omega))
  have ev : dvP g n s = nI (min 10000 (dwF g (skp g n s.po) (evP g n s - skp g n s.po))) := by
    show nI (dvF g (skp g n s.po) (evP g n s - skp g n s.po)) = _
    rw [hw.2]
  refine ⟨hw.1, fun z => ?_, fun z => ?_⟩
  · rw [rdN, if_pos h0, if_neg ne, ev, Nat.min_eq_right (by omega), if_neg (fun y => y.elim (nI_nlt z.1 (by omega)) (fun w => w (nI_le z.2 (by omega))))]
  · rw [rdN, if_pos h0, if_neg ne, if_pos]
    rw [ev]
    by_cases y : lh ≤ dwF g (skp g n s.po) (evP g n s - skp g n s.po)
    · exact Or.inr (nI_ge (by omega) (by omega))
    · exact Or.inl (nI_lt (by omega) (by omega))
def Fg (M M' : Nat → Nat → Int32) : Prop := (∀ c, c ≠ 317 → M' c = M c) ∧ ∀ i, (i < 9 ∨ 14 < i) → M' 317 i = M 317 i
theorem fg_r : Fg M M := ⟨fun _ _ => rfl, fun _ _ => rfl⟩
theorem fg_t {M1 M2 : Nat → Nat → Int32} (h : Fg M M1) (h2 : Fg M1 M2) : Fg M M2 := ⟨fun c g1 => (h2.1 c g1).trans (h.1 c g1), fun i g1 => (h2.2 i g1).trans (h.2 i g1)⟩
theorem fg_k {M1 : Nat → Nat → Int32} (h : Fk M M1) : Fg M M1 := ⟨h.1, fun i hi => h.2 i (by omega) (by omega) (by omega) (by omega)⟩
def MB (M : Nat → Nat → Int32) (n : Nat) (s : PS) : Prop := M 317 8 = nI n ∧ M 317 13 = s.er ∧ (∃ i, i ≤ n ∧ M 317 9 = nI i) ∧ (s.er ≠ 0 → M 317 14 = s.ea)
def ML (M : Nat → Nat → Int32) (g : Nat → Int32) (n : Nat) (s : PS) : Prop := MB M n s ∧ (s.er = 0 → LT M g n (skp g n s.po))
theorem brd_f {M1 : Nat → Nat → Int32} (h : Fg M M1) (hB : BR M g n) : BR M1 g n := fun k hk => by rw [h.1 322 (by decide)]; exact hB k hk
theorem ml_e {s2 : PS} (h : MB M n s) (h1 : s.er ≠ 0) (h2 : s2.er = s.er) (h3 : s2.ea = s.ea) : ML M g n s2 :=
  ⟨⟨h.1, by rw [h2]; exact h.2.1, h.2.2.1, fun _ => by rw [h3]; exact h.2.2.2 h1⟩, fun z => absurd (h2.symm.trans z) h1⟩
theorem c_X10_fails {c : Int32} {i : Nat} (h : MB M n s) (h9 : s.er = 0 → M 317 9 = nI i) : PO yX10_fails I_X10_fails [.ref 317, .int c] M L dd none (fun M' L' => L' = L ∧ Fg M M' ∧ (∀ j, j ≠ 13 → j ≠ 14 → M' 317 j = M 317 j) ∧ MB M' n (flP c i s)) := by
  obtain ⟨t8, t13, t9, t14⟩ := h
  refine po_mk (fun Q hq => ?_)
  refine a_met (by decide +kernel) rfl rfl (Nat.le_of_ble_eq_true rfl) (by simp [Value.category]) (by decide) rfl ?_
  show AW I_X10_fails 0 [.ref 317, .int c] [] (hS M L dd) 0 0 Q
  refine r_aload_n dX10_fails_0 rfl ?_
  refine m_get 10 13 dX10_fails_1 fl_X10_81 ob_model rfl ?_
  rw [t13]
  refine r_if_eq 8 dX10_fails_4 (by decide) (fun h4 => ?_) (fun h4 => ?_)
  · refine r_aload_n dX10_fails_8 rfl ?_
    refine r_iload_n dX10_fails_9 rfl ?_
    refine m_put 10 13 dX10_fails_10 fl_X10_81 (fun r hr => by cases hr; rfl) ob_model (Nat.le_of_ble_eq_true rfl) rfl ?_
    refine r_aload_n dX10_fails_13 rfl ?_
    refine r_aload_n dX10_fails_14 rfl ?_
    refine m_get 10 9 dX10_fails_15 fl_X10_61 ob_model rfl ?_
    refine m_put 10 14 dX10_fails_18 fl_X10_94 (fun r hr => by cases hr; rfl) ob_model (Nat.le_of_ble_eq_true rfl) rfl ?_
    exact r_vret dX10_fails_21 rfl (hq _ _ ⟨rfl, ⟨fun c hc => by simp [mU, hc], fun j hj => by rw [mU_s, upd_ne (by omega), mU_s, upd_ne (by omega)]⟩, fun j h1 h2 => by rw [mU_s, upd_ne h2, mU_s, upd_ne h1], by rw [flP, if_pos h4]; exact ⟨by simp [mU, upd, t8], by simp [mU, upd], by simpa [mU, upd] using t9, fun _ => by simp [mU, upd, h9 h4]⟩⟩)
  · exact r_vret dX10_fails_7 rfl (hq _ _ ⟨rfl, fg_r, fun _ _ _ => rfl, by rw [flP, if_neg h4]; exact ⟨t8, t13, t9, t14⟩⟩)
def muP (ok : Prop) [Decidable ok] (p b : Nat) (s : PS) : PS := if s.er = 0 then (if ok then ⟨s.ra, p, s.er, s.ea⟩ else ⟨s.ra, b, -2, nI b⟩) else s
theorem c_X10_must {x : Int32} {ok : Prop} [Decidable ok] {b : Nat} (hx : x = bI ok) (hB : BR M g n) (hn : n ≤ 600) (h : MB M n s) (h1 : s.er = 0 → ok → M 317 10 = nI p ∧ p ≤ n) (h2 : s.er = 0 → ¬ ok → M 317 9 = nI b) : PO yX10_must I_X10_must [.ref 317, .int x] M L dd none (fun M' L' => L' = L ∧ Fg M M' ∧ ML M' g n (muP ok p b s)) := by
  subst hx
  refine po_mk (fun Q hq => ?_)
  refine a_met (by decide +kernel) rfl rfl (Nat.le_of_ble_eq_true rfl) (by simp [Value.category]) (by decide) rfl ?_
  show AW I_X10_must 0 [.ref 317, .int (bI ok)] [] (hS M L dd) 0 0 Q
  have c10 : ∀ (M2 : Nat → Nat → Int32) (s2 : PS), Fg M M2 → MB M2 n s2 → (s2.er = 0 → M2 317 10 = nI p ∧ p ≤ n) → ((if s2.er = 0 then ((s2.ra, p, s2.er, s2.ea) : PS) else s2) = muP ok p b s) → AW I_X10_must 10 [.ref 317, .int (bI ok)] [] (hS M2 L dd) 0 0 Q := by
    intro M2 s2 f2 t k e
    refine r_aload_n dX10_must_10 rfl ?_
    refine m_get 10 13 dX10_must_11 fl_X10_81 ob_model rfl ?_
    rw [t.2.1]
    refine r_if_ne 21 dX10_must_14 (by decide) (fun h14 => ?_) (fun h14 => ?_)
    · rw [if_neg h14] at e
      exact r_vret dX10_must_21 rfl (hq _ _ ⟨rfl, f2, by rw [← e]; exact ml_e t h14 rfl rfl⟩)
    · rw [if_pos h14] at e
      obtain ⟨k1, k2⟩ := k h14
      refine r_aload_n dX10_must_17 rfl ?_
      refine m_pv0 dX10_must_18 cv_X10_101 (c_X10_next (brd_f f2 hB) hn t.1 k1 k2) ob_model ⟨_, rfl, rfl⟩ ⟨rfl, rfl⟩ (by decide) (by decide) (Nat.le_of_ble_eq_true rfl) (fun M3 L3 ⟨z1, z2, z3⟩ => ?_)
      subst z1
      exact r_vret dX10_must_21 rfl (hq _ _ ⟨rfl, fg_t f2 (fg_k z2), by rw [← e]; exact ⟨⟨(z2.2 8 (by decide) (by decide) (by decide) (by decide)).trans t.1, (z2.2 13 (by decide) (by decide) (by decide) (by decide)).trans t.2.1, ⟨_, z3.2.1, z3.1⟩, fun z => absurd h14 z⟩, fun _ => z3⟩⟩)
  refine r_iload_n dX10_must_0 rfl ?_
  refine r_if_ne 10 dX10_must_1 (by decide) (fun h1b => ?_) (fun h1b => ?_)
  · rw [bI_0, Decidable.not_not] at h1b
    exact c10 M s fg_r h (fun z => h1 z h1b) (by simp only [muP, if_pos h1b])
  · rw [bI_0] at h1b
    refine r_aload_n dX10_must_4 rfl ?_
    refine r_bipush (-2) dX10_must_5 (by decide) ?_
    refine m_pv1 dX10_must_7 cv_X10_97 (c_X10_fails h (fun z => h2 z h1b)) ob_model ⟨_, rfl, rfl⟩ ⟨rfl, rfl⟩ (by decide) (by decide) (Nat.le_of_ble_eq_true rfl) (fun M2 L2 ⟨y1, y2, y3, y4⟩ => ?_)
    subst y1
    have hf := fl_c (s := s) (c := -2) (p := b) (by decide)
    by_cases z : s.er = 0
    · refine c10 M2 (⟨s.ra, b, -2, nI b⟩ : PS) y2 (by rw [flP, if_pos z] at y4; exact y4) (fun w => absurd w (show ¬ (-2 : Int32) = 0 by decide)) ?_
      rw [muP, if_pos z, if_neg h1b, if_neg (show ¬ (-2 : Int32) = 0 by decide)]
    · refine c10 M2 s y2 (by rw [flP, if_neg z] at y4; exact y4) (fun w => absurd w z) ?_
      rw [muP, if_neg z, if_neg z]
theorem c_X10_isWord {k : Nat} (hk : k < 6) (hB : BR M g n) (hn : n ≤ 600) (h : ML M g n s) (h0 : s.er = 0) : AD yX10_isWord I_X10_isWord [.ref 317, .ref (5010 + k)] (hS M L dd) (.inl (some (.int (bI (isW g (skp g n s.po) (en cLt g n (skp g n s.po)) k))))) (hS M L dd) := by
  obtain ⟨⟨t8, t13, t9, t14⟩, hL⟩ := h
  have h8 : kl k < 8 := (kl_ok ⟨k, hk⟩).2.1
  have h8p : 0 < kl k := (kl_ok ⟨k, hk⟩).2.2
  obtain ⟨l9, lb, lk⟩ := hL h0
  generalize skp g n s.po = b at l9 lb lk ⊢
  have b2 : b ≤ en cLt g n b ∧ en cLt g n b ≤ n := en_b lb
  by_cases hw : b < n ∧ cLt (g b) = true
  · have k11 : M 317 11 = 0 ∧ M 317 10 = nI (en cLt g n b) := by
      rcases lk with z | z | z | z
      · exact absurd hw.1 z.1
      · exact z.2.2
      · exact absurd hw.2 z.2.1
      · exact absurd hw.2 z.2.1
    intro Q hq
    refine a_met (by decide +kernel) rfl rfl (Nat.le_of_ble_eq_true rfl) (by simp [Value.category]) (by decide) rfl ?_
    show AW I_X10_isWord 0 [.ref 317, .ref (5010 + k), .null] [] (hS M L dd) 0 0 Q
    refine r_aload_n dX10_isWord_0 rfl ?_
    refine m_get 10 13 dX10_isWord_1 fl_X10_81 ob_model rfl ?_
    refine r_if_ne 30 dX10_isWord_4 (by decide) (fun z => absurd (by rw [t13]; exact h0) z) (fun _ => ?_)
    refine r_aload_n dX10_isWord_7 rfl ?_
    refine m_get 10 11 dX10_isWord_8 fl_X10_68 ob_model rfl ?_
    refine r_if_ne 30 dX10_isWord_11 (by decide) (fun z => absurd k11.1 z) (fun _ => ?_)
    refine r_aload_n dX10_isWord_14 rfl ?_
    refine m_get 10 10 dX10_isWord_15 fl_X10_58 ob_model rfl ?_
    refine r_aload_n dX10_isWord_18 rfl ?_
    refine m_get 10 9 dX10_isWord_19 fl_X10_61 ob_model rfl ?_
    refine r_isub dX10_isWord_22 ?_
    refine r_aload_n dX10_isWord_23 rfl ?_
    refine m_cx0 dX10_isWord_24 cx_X10_84 (c_J0_length hk) rfl (by assumption) rfl ⟨rfl, rfl⟩ (by decide) (by decide) (Nat.le_of_ble_eq_true rfl) ?_
    rw [k11.2, l9, pk_sub b2.1]
    refine r_icmp_eq 32 dX10_isWord_27 (by decide) (fun h27 => ?_) (fun h27 => ?_)
    · rw [nI_eq (by omega) (by omega)] at h27
      have lp : ∀ i, i ≤ kl k → (∀ j, j < i → g (b + j) = kc k j) → AW I_X10_isWord 34 [.ref 317, .ref (5010 + k), .int (nI i)] [] (hS M L dd) 0 0 Q := by
        refine lp_up _ ?_ ?_
        · intro f1 
          refine r_iload_n dX10_isWord_34 rfl ?_
          refine r_aload_n dX10_isWord_35 rfl ?_
          refine m_cx0 dX10_isWord_36 cx_X10_84 (c_J0_length hk) rfl (by assumption) rfl ⟨rfl, rfl⟩ (by decide) (by decide) (Nat.le_of_ble_eq_true rfl) ?_
          refine r_icmp_ge 69 dX10_isWord_39 (by decide) (fun _ => ?_) (fun z => absurd (nI_le (Nat.le_refl _) (by omega)) z)
          refine r_iconst_1 dX10_isWord_69 ?_
          exact e_zret dX10_isWord_70 rfl hq (by rw [bI, if_pos (show isW g b (en cLt g n b) k from ⟨by omega, f1⟩)])
        · intro i hi ih f1 
          have hc := kc_ok ⟨k, hk⟩ ⟨i, hi⟩
          have uk := ug_eq (hB (b + i) (by omega)) (c := kc k i) (Int32.le_trans (by decide) hc.2.2.1) (Int32.lt_of_le_of_lt hc.2.2.2 (by decide))
          refine r_iload_n dX10_isWord_34 rfl ?_
          refine r_aload_n dX10_isWord_35 rfl ?_
          refine m_cx0 dX10_isWord_36 cx_X10_84 (c_J0_length hk) rfl (by assumption) rfl ⟨rfl, rfl⟩ (by decide) (by decide) (Nat.le_of_ble_eq_true rfl) ?_
          refine r_icmp_ge 69 dX10_isWord_39 (by decide) (fun z => absurd z (nI_ge hi (by omega))) (fun _ => ?_)
          refine r_aload_n dX10_isWord_42 rfl ?_
          refine m_get 10 6 dX10_isWord_43 fl_X10_22 ob_model rfl ?_
          refine r_aload_n dX10_isWord_46 rfl ?_
          refine m_get 10 9 dX10_isWord_47 fl_X10_61 ob_model rfl ?_
          refine r_iload_n dX10_isWord_50 rfl ?_
          refine r_iadd dX10_isWord_51 ?_
          refine m_iald (b + i) dX10_isWord_52 ai_buffer (by rw [l9]; exact nI_add b i) (by omega) (by first | decide | assumption) ?_
          refine r_aload_n dX10_isWord_53 rfl ?_
          refine r_iload_n dX10_isWord_54 rfl ?_
          refine m_cx1 dX10_isWord_55 cx_X10_90 (c_J0_charAt hk hi) rfl (by assumption) rfl ⟨rfl, rfl⟩ (by decide) (by decide) (Nat.le_of_ble_eq_true rfl) ?_
          refine r_icmp_eq 63 dX10_isWord_58 (by decide) (fun h58 => ?_) (fun h58 => ?_)
          · rw [uk] at h58
            have f2 : ∀ j, j < i + 1 → g (b + j) = kc k j := by
              intro j hj
              by_cases z : j = i
              · subst z; exact h58
              · exact f1 j (by omega)
            refine s_iinc dX10_isWord_63 rfl (by decide) rfl ?_
            refine r_goto 34 dX10_isWord_66 (by decide) ?_
            exact m_sub (ih f2) (by simp [a_sub, nI_succ])
          · rw [uk] at h58
            refine r_iconst_0 dX10_isWord_61 ?_
            exact e_zret dX10_isWord_62 rfl hq (by rw [bI, if_neg (fun z : isW g b (en cLt g n b) k => h58 (z.2 i hi))])
      refine r_iconst_0 dX10_isWord_32 ?_
      refine s_istore_n 2 dX10_isWord_33 (by decide) rfl rfl ?_
      exact m_sub (lp 0 (Nat.zero_le _) (fun j hj => by omega)) (by simp [a_sub, nI_0])
    · refine r_iconst_0 dX10_isWord_30 ?_
      exact e_zret dX10_isWord_31 rfl hq (by rw [bI, if_neg (fun z : isW g b (en cLt g n b) k => h27 (congrArg nI (by have := z.1; omega)))])
  · have e : en cLt g n b = b := en_n hw
    have k11 : ¬ M 317 11 = 0 := by
      rcases lk with z | z | z | z
      · rw [z.2.1]; decide
      · exact absurd ⟨z.1, z.2.1⟩ hw
      · rw [z.2.2.2.1]; decide
      · rw [z.2.2.2.1]; decide
    intro Q hq
    refine a_met (by decide +kernel) rfl rfl (Nat.le_of_ble_eq_true rfl) (by simp [Value.category]) (by decide) rfl ?_
    show AW I_X10_isWord 0 [.ref 317, .ref (5010 + k), .null] [] (hS M L dd) 0 0 Q
    refine r_aload_n dX10_isWord_0 rfl ?_
    refine m_get 10 13 dX10_isWord_1 fl_X10_81 ob_model rfl ?_
    refine r_if_ne 30 dX10_isWord_4 (by decide) (fun z => absurd (by rw [t13]; exact h0) z) (fun _ => ?_)
    refine r_aload_n dX10_isWord_7 rfl ?_
    refine m_get 10 11 dX10_isWord_8 fl_X10_68 ob_model rfl ?_
    refine r_if_ne 30 dX10_isWord_11 (by decide) (fun _ => ?_) (fun z => absurd z k11)
    refine r_iconst_0 dX10_isWord_30 ?_
    exact e_zret dX10_isWord_31 rfl hq (by rw [bI, if_neg (fun z : isW g b (en cLt g n b) k => by have := z.1; omega)])
theorem c_X10_takes {lo hi : Int32} {lh hh : Nat} (e1 : lo = nI lh) (e2 : hi = nI hh) (h1 : lh ≤ 9999) (h2 : hh ≤ 9999) (hB : BR M g n) (hn : n ≤ 600) (h : ML M g n s) (hp : s.po ≤ n) : PO yX10_takes I_X10_takes [.ref 317, .int lo, .int hi] M L dd (some (.int (if (rdN g n lo hi s).2.er = 0 then (rdN g n lo hi s).1 else 0))) (fun M' L' => L' = L ∧ Fg M M' ∧ ML M' g n (rdN g n lo hi s).2) := by
  have b1 : s.po ≤ skp g n s.po ∧ skp g n s.po ≤ n := en_b hp
  have b2 : skp g n s.po ≤ evP g n s ∧ evP g n s ≤ n := en_b b1.2
  obtain ⟨hM, hL⟩ := h
  refine po_mk (fun Q hq => ?_)
  refine a_met (by decide +kernel) rfl rfl (Nat.le_of_ble_eq_true rfl) (by simp [Value.category]) (by decide) rfl ?_
  show AW I_X10_takes 0 [.ref 317, .int lo, .int hi, .null] [] (hS M L dd) 0 0 Q
  have c49 : ∀ (M2 : Nat → Nat → Int32) (s2 : PS), Fg M M2 → MB M2 n s2 → s2.er ≠ 0 → (rdN g n lo hi s).2.er = s2.er → (rdN g n lo hi s).2.ea = s2.ea → AW I_X10_takes 49 [.ref 317, .int lo, .int hi, .null] [] (hS M2 L dd) 0 0 Q := by
    intro M2 s2 f2 t k e3 e4
    rw [if_neg (by rw [e3]; exact k)] at hq
    refine r_aload_n dX10_takes_49 rfl ?_
    refine m_get 10 13 dX10_takes_50 fl_X10_81 ob_model rfl ?_
    refine r_if_ne 63 dX10_takes_53 (by decide) (fun _ => ?_) (fun z => absurd z (by rw [t.2.1]; exact k))
    refine r_iconst_0 dX10_takes_63 ?_
    refine s_istore_n 3 dX10_takes_64 (by decide) rfl rfl ?_
    refine r_aload_n dX10_takes_65 rfl ?_
    refine m_get 10 13 dX10_takes_66 fl_X10_81 ob_model rfl ?_
    refine r_if_ne 76 dX10_takes_69 (by decide) (fun _ => ?_) (fun z => absurd z (by rw [t.2.1]; exact k))
    refine r_iload_n dX10_takes_76 rfl ?_
    exact r_iret dX10_takes_77 rfl (hq _ _ ⟨rfl, f2, ml_e t k e3 e4⟩)
  refine r_aload_n dX10_takes_0 rfl ?_
  refine m_get 10 13 dX10_takes_1 fl_X10_81 ob_model rfl ?_
  rw [hM.2.1]
  refine r_if_ne 24 dX10_takes_4 (by decide) (fun h4 => ?_) (fun h4 => ?_)
  · have e3 : rdN g n lo hi s = (-1, s) := if_neg h4
    refine r_aload_n dX10_takes_24 rfl ?_
    refine m_get 10 13 dX10_takes_25 fl_X10_81 ob_model rfl ?_
    rw [hM.2.1]
    refine r_if_ne 49 dX10_takes_28 (by decide) (fun _ => ?_) (fun z => absurd z h4)
    exact c49 M s fg_r hM h4 (by rw [e3]) (by rw [e3])
  · obtain ⟨l9, lb, lk⟩ := hL h4
    refine r_aload_n dX10_takes_7 rfl ?_
    refine m_get 10 11 dX10_takes_8 fl_X10_68 ob_model rfl ?_
    refine r_iconst_1 dX10_takes_11 ?_
    by_cases hd : skp g n s.po < n ∧ ¬ cLt (g (skp g n s.po)) = true ∧ cDg (g (skp g n s.po)) = true
    · obtain ⟨k11, k10, k12⟩ : M 317 11 = 1 ∧ M 317 10 = nI (evP g n s) ∧ M 317 12 = nI (dwF g (skp g n s.po) (evP g n s - skp g n s.po)) := by
        rcases lk with z | z | z | z
        · exact absurd hd.1 z.1
        · exact absurd z.2.1 hd.2.1
        · exact ⟨z.2.2.2.1, z.2.2.2.2.1, z.2.2.2.2.2⟩
        · exact absurd hd.2.2 z.2.2.1
      obtain ⟨d1, d2, d3⟩ := rdN_dig h4 hn hd.1 hd.2.2 e1 e2 h1 h2
      refine r_icmp_eq 24 dX10_takes_12 (by decide) (fun _ => ?_) (fun z => absurd k11 z)
      refine r_aload_n dX10_takes_24 rfl ?_
      refine m_get 10 13 dX10_takes_25 fl_X10_81 ob_model rfl ?_
      refine r_if_ne 49 dX10_takes_28 (by decide) (fun z => absurd (by rw [hM.2.1]; exact h4) z) (fun _ => ?_)
      refine r_aload_n dX10_takes_31 rfl ?_
      refine m_get 10 12 dX10_takes_32 fl_X10_78 ob_model rfl ?_
      refine r_iload_n dX10_takes_35 rfl ?_
      refine r_iload_n dX10_takes_36 rfl ?_
      refine m_cs3 dX10_takes_37 cs_X10_54 (c_X10_isIn) rfl ⟨rfl, rfl⟩ (by decide) (by decide) (Nat.le_of_ble_eq_true rfl) ?_
      rw [k12, e1, e2]
      refine r_if_ne 49 dX10_takes_40 (by decide) (fun h40 => ?_) (fun h40 => ?_)
      · rw [bI_0, Decidable.not_not, nI_leI (by omega) (by omega), nI_leI (by omega) (by omega)] at h40
        have e3 := d2 h40
        rw [← e1, ← e2]
        rw [e3, if_pos rfl] at hq
        refine r_aload_n dX10_takes_49 rfl ?_
        refine m_get 10 13 dX10_takes_50 fl_X10_81 ob_model rfl ?_
        refine r_if_ne 63 dX10_takes_53 (by decide) (fun z => absurd (by rw [hM.2.1]; exact h4) z) (fun _ => ?_)
        refine r_aload_n dX10_takes_56 rfl ?_
        refine m_get 10 12 dX10_takes_57 fl_X10_78 ob_model rfl ?_
        refine r_goto 64 dX10_takes_60 (by decide) ?_
        rw [k12]
        refine s_istore_n 3 dX10_takes_64 (by decide) rfl rfl ?_
        refine r_aload_n dX10_takes_65 rfl ?_
        refine m_get 10 13 dX10_takes_66 fl_X10_81 ob_model rfl ?_
        refine r_if_ne 76 dX10_takes_69 (by decide) (fun z => absurd (by rw [hM.2.1]; exact h4) z) (fun _ => ?_)
        refine r_aload_n dX10_takes_72 rfl ?_
        refine m_pv0 dX10_takes_73 cv_X10_101 (c_X10_next hB hn hM.1 k10 b2.2) ob_model ⟨_, rfl, rfl⟩ ⟨rfl, rfl⟩ (by decide) (by decide) (Nat.le_of_ble_eq_true rfl) (fun M3 L3 ⟨z1, z2, z3⟩ => ?_)
        subst z1
        refine r_iload_n dX10_takes_76 rfl ?_
        exact r_iret dX10_takes_77 rfl (hq _ _ ⟨rfl, fg_k z2, ⟨⟨(z2.2 8 (by decide) (by decide) (by decide) (by decide)).trans hM.1, by rw [z2.2 13 (by decide) (by decide) (by decide) (by decide), hM.2.1]; exact h4, ⟨_, z3.2.1, z3.1⟩, fun z => absurd rfl z⟩, fun _ => z3⟩⟩)
      · rw [bI_0, nI_leI (by omega) (by omega), nI_leI (by omega) (by omega)] at h40
        have e3 := d3 h40
        rw [← e1, ← e2]
        refine r_aload_n dX10_takes_43 rfl ?_
        refine r_bipush (-3) dX10_takes_44 (by decide) ?_
        refine m_pv1 dX10_takes_46 cv_X10_97 (c_X10_fails hM (fun _ => l9)) ob_model ⟨_, rfl, rfl⟩ ⟨rfl, rfl⟩ (by decide) (by decide) (Nat.le_of_ble_eq_true rfl) (fun M3 L3 ⟨z1, z2, z3, z4⟩ => ?_)
        subst z1
        rw [flP, if_pos h4] at z4
        exact c49 M3 _ z2 z4 (show ¬ (-3 : Int32) = 0 by decide) (by rw [e3]) (by rw [e3])
    · have hz : ¬ (skp g n s.po < n ∧ cDg (g (skp g n s.po)) = true) := by
        rintro ⟨y1, y2⟩
        refine hd ⟨y1, fun z => ?_, y2⟩
        have z1 := (of_decide_eq_true z).1
        have z2 := (of_decide_eq_true y2).2
        exact absurd (Int32.le_trans z1 z2) (by decide)
      have k11 : ¬ M 317 11 = 1 := by
        rcases lk with z | z | z | z
        · rw [z.2.1]; decide
        · rw [z.2.2.1]; decide
        · exact absurd ⟨z.1, z.2.1, z.2.2.1⟩ hd
        · rw [z.2.2.2.1]; decide
      have e3 := rdN_nod (lo := lo) (hi := hi) h4 hz
      refine r_icmp_eq 24 dX10_takes_12 (by decide) (fun z => absurd z k11) (fun _ => ?_)
      refine r_aload_n dX10_takes_15 rfl ?_
      refine r_bipush (-2) dX10_takes_16 (by decide) ?_
      refine m_pv1 dX10_takes_18 cv_X10_97 (c_X10_fails hM (fun _ => l9)) ob_model ⟨_, rfl, rfl⟩ ⟨rfl, rfl⟩ (by decide) (by decide) (Nat.le_of_ble_eq_true rfl) (fun M3 L3 ⟨z1, z2, z3, z4⟩ => ?_)
      refine r_goto 49 dX10_takes_21 (by decide) ?_
      subst z1
      rw [flP, if_pos h4] at z4
      exact c49 M3 _ z2 z4 (show ¬ (-2 : Int32) = 0 by decide) (by rw [e3]) (by rw [e3])
end MTEXT2
