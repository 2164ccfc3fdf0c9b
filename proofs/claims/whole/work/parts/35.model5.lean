/-- how many jobs a tick's work ends -/
def fnF (a : Nat → Int32) : Nat → Int32
  | 0 => 0
  | j + 1 => fnF a j + (if jb (wkF a j) j 3 = 1 ∧ ¬ jb (wkF a j) j 2 + 1 < jb (wkF a j) j 1 then 1 else 0)
section MODEL5
variable {M : Nat → Nat → Int32} {L : Nat → Nat → Int64} {dd : UInt64} {a : Nat → Int32} {T B : Nat}
theorem lay_self {j f : Nat} : layJ a j f (jb a j f) = a := by
  funext i
  show upd a (58 + 7 * j + f) (a (58 + 7 * j + f)) i = a i
  unfold upd
  by_cases z : i = 58 + 7 * j + f
  · rw [if_pos z, z]
  · rw [if_neg z]
def hvR (b : Nat → Int32) (k : Nat) : Nat → Int32 := fun i => if 34 ≤ i ∧ i < 34 + k then b i / 2 else b i
theorem c_X10_ticksOnce (hA : M 318 = a) (hW : WF T a) (hV : WV (hvS (wkS (upd a 0 (a 0 + 1))))) (hT : T < 10399) : PO yX10_ticksOnce I_X10_ticksOnce [.ref 317] M L dd (some (.int (fnF (upd a 0 (a 0 + 1)) (nj a)))) (fun M' L' => L' = L ∧ Fm M M' ∧ M' 318 = tkOne a) := by
  obtain ⟨w1, w2, w3⟩ := wf_t0 hW hT
  have ht := hW.2.2.2.2.2.2.1
  have hB : 30000 * zN (a 0) + 30000 < 2 ^ 31 := by omega
  have enj : nj (upd a 0 (a 0 + 1)) = nj a := nj_u (by omega)
  have h30 := w1.2.2.2.1.2.1
  obtain ⟨v1, v2⟩ := wkF_ok w1 hB _ (Nat.le_refl _)
  change WFB _ _ (wkS (upd a 0 (a 0 + 1))) at v1
  have e0 : wkS (upd a 0 (a 0 + 1)) 0 = a 0 + 1 := (wkF_o w1 hB (by omega) _ (Nat.le_refl _)).trans upd_eq
  have wh := wfb_hv v1 (by omega)
  obtain ⟨wt, et⟩ := wf_tkB hW hT
  have hx : tkB a = drS (hvS (wkS (upd a 0 (a 0 + 1)))) := rfl
  have wL := wh.2.2.2.2.1
  refine po_mk (fun Q hq => ?_)
  refine a_met (by decide +kernel) rfl rfl (Nat.le_of_ble_eq_true rfl) (by simp [Value.category]) (by decide) rfl ?_
  show AW I_X10_ticksOnce 0 [.ref 317, .null, .null] [] (hS M L dd) 0 0 Q
  refine r_aload_n dX10_ticksOnce_0 rfl ?_
  refine m_get 10 0 dX10_ticksOnce_1 fl_X10_7 ob_model rfl ?_
  refine r_iconst_0 dX10_ticksOnce_4 ?_
  refine r_dup2 dX10_ticksOnce_5 rfl rfl ?_
  refine m_iald 0 dX10_ticksOnce_6 ai_a rfl (by omega) (by first | decide | assumption) ?_
  refine r_iconst_1 dX10_ticksOnce_7 ?_
  refine r_iadd dX10_ticksOnce_8 ?_
  refine m_iast 0 dX10_ticksOnce_9 ai_a rfl (by omega) (by first | decide | assumption) ?_
  refine r_iconst_0 dX10_ticksOnce_10 ?_
  refine s_istore_n 1 dX10_ticksOnce_11 (by decide) rfl rfl ?_
  refine r_iconst_0 dX10_ticksOnce_12 ?_
  refine s_istore_n 2 dX10_ticksOnce_13 (by decide) rfl rfl ?_
  refine m_abs (fun M1 => Fm M M1 ∧ M1 318 = upd a 0 (a 0 + 1)) ⟨fm_a fm_r, by rw [mU_s, hA]⟩ (fun M1 ⟨f1, a1⟩ => ?_)
  -- behind the work: the halving, the loans, the filling
  have fin : ∀ M2 : Nat → Nat → Int32, Fm M M2 → M2 318 = wkS (upd a 0 (a 0 + 1)) → AW I_X10_ticksOnce 134 [.ref 317, .int (fnF (upd a 0 (a 0 + 1)) (nj a)), .null] [] (hS M2 L dd) 0 0 Q := by
    intro M2 f2 a2
    generalize hb : wkS (upd a 0 (a 0 + 1)) = b at *
    have h12 := v1.1.2.2.1
    have s1 := v1.2.2.2.2.2
    have hpos : ¬ b 1 = 0 := by rw [s1.2.2.2.1]; exact nI_ne0 (by have := s1.2.2.2.2.1; omega) (by have := s1.2.2.2.2.2.1; omega)
    have tail : ∀ M3 : Nat → Nat → Int32, Fm M M3 → M3 318 = hvS b → AW I_X10_ticksOnce 181 [.ref 317, .int (fnF (upd a 0 (a 0 + 1)) (nj a)), .null] [] (hS M3 L dd) 0 0 Q := by
      intro M3 f3 a3
      refine r_aload_n dX10_ticksOnce_181 rfl ?_
      refine m_pv0 dX10_ticksOnce_182 cv_X10_269 (c_X10_endsLoans a3 wL.1 wL.2.1) ob_model ⟨_, rfl, rfl⟩ ⟨rfl, rfl⟩ (by decide) (by decide) (Nat.le_of_ble_eq_true rfl) (fun M4 L4 ⟨x1, x2⟩ => ?_)
      subst x1
      rw [hx] at wt
      refine r_aload_n dX10_ticksOnce_185 rfl ?_
      refine m_pv0 dX10_ticksOnce_186 cv_X10_166 (c_X10_fills (at318 x2) wt) ob_model ⟨_, rfl, rfl⟩ ⟨rfl, rfl⟩ (by decide) (by decide) (Nat.le_of_ble_eq_true rfl) (fun M5 L5 ⟨y1, y2, y3, y4⟩ => ?_)
      subst y1
      have wvd : WV (drS (hvS b)) := by
        have d3 := (drS_ok wL.1 wL.2.1).2.2
        intro j m hj h3 hm h4
        have h6 := wh.2.2.1.2.1
        have h30' := wh.2.2.2.1.2.1
        have ej : nj (drS (hvS b)) = nj (hvS b) := congrArg zN (d3 6 (by omega) (by omega))
        have em : nm (drS (hvS b)) = nm (hvS b) := congrArg zN (d3 5 (by omega) (by omega))
        rw [ej] at hj
        rw [em] at hm
        have g : ∀ f, f < 7 → jb (drS (hvS b)) j f = jb (hvS b) j f := fun f hf => d3 _ (by omega) (by omega)
        rw [g 3 (by omega)] at h3
        rw [g 4 (by omega)] at h4
        rw [d3 (52 + m) (by omega) (by omega)]
        exact hV j m hj h3 hm h4
      refine r_aload_n dX10_ticksOnce_189 rfl ?_
      refine m_pv0 dX10_ticksOnce_190 cv_X10_272 (c_X10_preempts y3 y4 (wf_fi wt) (wv_fi 30 _ wt wvd)) ob_model ⟨_, rfl, rfl⟩ ⟨rfl, rfl⟩ (by decide) (by decide) (Nat.le_of_ble_eq_true rfl) (fun M6 L6 ⟨z1, z2, z3⟩ => ?_)
      refine r_iload_n dX10_ticksOnce_193 rfl ?_
      exact e_iret dX10_ticksOnce_194 rfl (hq _ _ ⟨z1, fm_t f3 (fm_t (by rw [x2]; exact fm_a fm_r) (fm_t y2 z2)), by rw [tkOne, hx]; exact z3⟩) rfl
    by_cases hz : b 0 % b 1 = 0
    · have eh : hvS b = hvR b (nu b) := by rw [hvS, if_pos hz]; rfl
      have lp : ∀ k, k ≤ nu b → ∀ M3 : Nat → Nat → Int32, Fm M M3 → M3 318 = hvR b k → AW I_X10_ticksOnce 136 [.ref 317, .int (fnF (upd a 0 (a 0 + 1)) (nj a)), .int (nI k)] [] (hS M3 L dd) 0 0 Q := by
        refine lp_up _ ?_ ?_
        · intro M3 f3 a3 
          refine r_iload_n dX10_ticksOnce_136 rfl ?_
          refine r_aload_n dX10_ticksOnce_137 rfl ?_
          refine m_get 10 0 dX10_ticksOnce_138 fl_X10_7 ob_model rfl ?_
          refine r_iconst_4 dX10_ticksOnce_141 ?_
          refine m_iald 4 dX10_ticksOnce_142 ai_a rfl (by omega) (by first | decide | assumption) ?_
          refine r_icmp_ge 181 dX10_ticksOnce_143 (by decide) (fun _ => ?_) (fun z => absurd (by rw [a3, show hvR b (nu b) 4 = b 4 from if_neg (by omega), v1.1.1]; exact nI_le (Nat.le_refl _) (by omega)) z)
          exact m_sub (tail M3 f3 (by rw [eh]; exact a3)) (by simp [a_sub])
        · intro k hk ih M3 f3 a3 
          have r0 : hvR b k 0 = b 0 := if_neg (by omega)
          have r1 : hvR b k 1 = b 1 := if_neg (by omega)
          have r4 : hvR b k 4 = b 4 := if_neg (by omega)
          refine r_iload_n dX10_ticksOnce_136 rfl ?_
          refine r_aload_n dX10_ticksOnce_137 rfl ?_
          refine m_get 10 0 dX10_ticksOnce_138 fl_X10_7 ob_model rfl ?_
          refine r_iconst_4 dX10_ticksOnce_141 ?_
          refine m_iald 4 dX10_ticksOnce_142 ai_a rfl (by omega) (by first | decide | assumption) ?_
          refine r_icmp_ge 181 dX10_ticksOnce_143 (by decide) (fun z => absurd z (by rw [a3, r4, v1.1.1]; exact nI_ge hk (by omega))) (fun _ => ?_)
          refine r_aload_n dX10_ticksOnce_146 rfl ?_
          refine m_get 10 0 dX10_ticksOnce_147 fl_X10_7 ob_model rfl ?_
          refine r_iconst_0 dX10_ticksOnce_150 ?_
          refine m_iald 0 dX10_ticksOnce_151 ai_a rfl (by omega) (by first | decide | assumption) ?_
          refine r_aload_n dX10_ticksOnce_152 rfl ?_
          refine m_get 10 0 dX10_ticksOnce_153 fl_X10_7 ob_model rfl ?_
          refine r_iconst_1 dX10_ticksOnce_156 ?_
          refine m_iald 1 dX10_ticksOnce_157 ai_a rfl (by omega) (by first | decide | assumption) ?_
          rw [a3, r0, r1]
          refine r_irem dX10_ticksOnce_158 hpos ?_
          refine r_if_ne 181 dX10_ticksOnce_159 (by decide) (fun z => absurd hz z) (fun _ => ?_)
          refine r_aload_n dX10_ticksOnce_162 rfl ?_
          refine m_get 10 0 dX10_ticksOnce_163 fl_X10_7 ob_model rfl ?_
          refine r_bipush 34 dX10_ticksOnce_166 (by decide) ?_
          refine r_iload_n dX10_ticksOnce_168 rfl ?_
          refine r_iadd dX10_ticksOnce_169 ?_
          refine r_dup2 dX10_ticksOnce_170 rfl rfl ?_
          refine m_iald (34 + k) dX10_ticksOnce_171 ai_a (nI_add 34 k) (by omega) (by first | decide | assumption) ?_
          refine r_iconst_2 dX10_ticksOnce_172 ?_
          refine r_idiv dX10_ticksOnce_173 (by decide) ?_
          refine m_iast (34 + k) dX10_ticksOnce_174 ai_a (nI_add 34 k) (by omega) (by first | decide | assumption) ?_
          refine s_iinc dX10_ticksOnce_175 rfl (by decide) rfl ?_
          refine r_goto 136 dX10_ticksOnce_178 (by decide) ?_
          refine m_sub (ih _ (fm_a f3) ?_) (by simp [a_sub, nI_succ])
          rw [mU_s, a3]
          funext i
          unfold upd hvR
          by_cases y : i = 34 + k
          · subst y; rw [if_pos rfl, if_neg (by omega), if_pos (by omega)]
          · rw [if_neg y]
            by_cases y2 : 34 ≤ i ∧ i < 34 + k
            · rw [if_pos y2, if_pos (by omega)]
            · rw [if_neg y2, if_neg (by omega)]
      refine r_iconst_0 dX10_ticksOnce_134 ?_
      refine s_istore_n 2 dX10_ticksOnce_135 (by decide) rfl rfl ?_
      exact m_sub (lp 0 (Nat.zero_le _) M2 f2 (by rw [a2]; funext i; exact (if_neg (by omega)).symm)) (by simp [a_sub, nI_0])
    · have eh : hvS b = b := by rw [hvS, if_neg hz]
      refine r_iconst_0 dX10_ticksOnce_134 ?_
      refine s_istore_n 2 dX10_ticksOnce_135 (by decide) rfl rfl ?_
      refine r_iload_n dX10_ticksOnce_136 rfl ?_
      refine r_aload_n dX10_ticksOnce_137 rfl ?_
      refine m_get 10 0 dX10_ticksOnce_138 fl_X10_7 ob_model rfl ?_
      refine r_iconst_4 dX10_ticksOnce_141 ?_
      refine m_iald 4 dX10_ticksOnce_142 ai_a rfl (by omega) (by first | decide | assumption) ?_
      refine r_icmp_ge 181 dX10_ticksOnce_143 (by decide) (fun z => absurd z (by rw [a2, v1.1.1, show (0 : Int32) = nI 0 from rfl]; exact nI_ge (by have := v1.1.2.1; omega) (by omega))) (fun _ => ?_)
      refine r_aload_n dX10_ticksOnce_146 rfl ?_
      refine m_get 10 0 dX10_ticksOnce_147 fl_X10_7 ob_model rfl ?_
      refine r_iconst_0 dX10_ticksOnce_150 ?_
      refine m_iald 0 dX10_ticksOnce_151 ai_a rfl (by omega) (by first | decide | assumption) ?_
      refine r_aload_n dX10_ticksOnce_152 rfl ?_
      refine m_get 10 0 dX10_ticksOnce_153 fl_X10_7 ob_model rfl ?_
      refine r_iconst_1 dX10_ticksOnce_156 ?_
      refine m_iald 1 dX10_ticksOnce_157 ai_a rfl (by omega) (by first | decide | assumption) ?_
      rw [a2]
      refine r_irem dX10_ticksOnce_158 hpos ?_
      refine r_if_ne 181 dX10_ticksOnce_159 (by decide) (fun _ => ?_) (fun z => absurd z hz)
      exact m_sub (tail M2 f2 (by rw [eh]; exact a2)) (by simp [a_sub])
  have lp : ∀ k, k ≤ nj a → ∀ M2 : Nat → Nat → Int32, Fm M M2 → M2 318 = wkF (upd a 0 (a 0 + 1)) k → AW I_X10_ticksOnce 14 [.ref 317, .int (fnF (upd a 0 (a 0 + 1)) k), .int (nI k)] [] (hS M2 L dd) 0 0 Q := by
    rw [enj] at h30
    refine lp_up _ ?_ ?_
    · intro M2 f2 a2 
      obtain ⟨u1, u2⟩ := wkF_ok w1 hB (nj a) (by rw [enj]; exact Nat.le_refl _)
      refine r_iload_n dX10_ticksOnce_14 rfl ?_
      refine r_aload_n dX10_ticksOnce_15 rfl ?_
      refine m_get 10 0 dX10_ticksOnce_16 fl_X10_7 ob_model rfl ?_
      refine r_bipush 6 dX10_ticksOnce_19 (by decide) ?_
      refine m_iald 6 dX10_ticksOnce_21 ai_a rfl (by omega) (by first | decide | assumption) ?_
      refine r_icmp_ge 134 dX10_ticksOnce_22 (by decide) (fun _ => ?_) (fun z => absurd (by rw [a2, u1.2.2.2.1.1, u2, enj]; exact nI_le (Nat.le_refl _) (by omega)) z)
      exact m_sub (fin M2 f2 (by rw [a2, wkS, enj])) (by simp [a_sub])
    · intro k hk ih M2 f2 a2 
      obtain ⟨u1, u2⟩ := wkF_ok w1 hB k (by rw [enj]; omega)
      have e : wkF (upd a 0 (a 0 + 1)) (k + 1) = wkStep (wkF (upd a 0 (a 0 + 1)) k) k := rfl
      have ef : fnF (upd a 0 (a 0 + 1)) (k + 1) = fnF (upd a 0 (a 0 + 1)) k + (if jb (wkF (upd a 0 (a 0 + 1)) k) k 3 = 1 ∧ ¬ jb (wkF (upd a 0 (a 0 + 1)) k) k 2 + 1 < jb (wkF (upd a 0 (a 0 + 1)) k) k 1 then 1 else 0) := rfl
      generalize wkF (upd a 0 (a 0 + 1)) k = b at *
      have hkb : k < nj b := by rw [u2, enj]; exact hk
      have hk30 : k < 30 := by omega
      have wJ := u1.2.2.2.1
      have h12 := u1.1.2.2.1
      obtain ⟨u, hu, hu2, -⟩ := wJ.2.2.1 k hkb
      have zu : zN (jb b k 0) = u := by rw [hu2, zN, nI_clamp (by omega)]
      refine r_iload_n dX10_ticksOnce_14 rfl ?_
      refine r_aload_n dX10_ticksOnce_15 rfl ?_
      refine m_get 10 0 dX10_ticksOnce_16 fl_X10_7 ob_model rfl ?_
      refine r_bipush 6 dX10_ticksOnce_19 (by decide) ?_
      refine m_iald 6 dX10_ticksOnce_21 ai_a rfl (by omega) (by first | decide | assumption) ?_
      refine r_icmp_ge 134 dX10_ticksOnce_22 (by decide) (fun z => absurd z (by rw [a2, wJ.1, u2, enj]; exact nI_ge hk (by omega))) (fun _ => ?_)
      refine r_aload_n dX10_ticksOnce_25 rfl ?_
      refine r_iload_n dX10_ticksOnce_26 rfl ?_
      refine r_bipush 6 dX10_ticksOnce_27 (by decide) ?_
      refine r_aload_n dX10_ticksOnce_29 rfl ?_
      refine r_iload_n dX10_ticksOnce_30 rfl ?_
      refine r_bipush 6 dX10_ticksOnce_31 (by decide) ?_
      refine m_cv2 dX10_ticksOnce_33 cv_X10_175 (c_X10_of (f := 6) a2 hk30 (by omega)) rfl ob_model ⟨_, rfl, rfl⟩ ⟨rfl, rfl⟩ (by decide) (by decide) (Nat.le_of_ble_eq_true rfl) ?_
      refine r_aload_n dX10_ticksOnce_36 rfl ?_
      refine r_iload_n dX10_ticksOnce_37 rfl ?_
      refine r_iconst_3 dX10_ticksOnce_38 ?_
      refine m_cv2 dX10_ticksOnce_39 cv_X10_175 (c_X10_of (f := 3) a2 hk30 (by omega)) rfl ob_model ⟨_, rfl, rfl⟩ ⟨rfl, rfl⟩ (by decide) (by decide) (Nat.le_of_ble_eq_true rfl) ?_
      by_cases h0 : jb b k 3 = 0
      · have h1 : ¬ jb b k 3 = 1 := by rw [h0]; decide
        have e2 : wkF (upd a 0 (a 0 + 1)) (k + 1) = layJ b k 6 (jb b k 6 + 1) := by rw [e, wkStep, if_neg h1, if_pos h0]
        refine r_if_ne 49 dX10_ticksOnce_42 (by decide) (fun z => absurd h0 z) (fun _ => ?_)
        refine r_iconst_1 dX10_ticksOnce_45 ?_
        refine r_goto 50 dX10_ticksOnce_46 (by decide) ?_
        refine r_iadd dX10_ticksOnce_50 ?_
        refine m_pv3 dX10_ticksOnce_51 cv_X10_233 (c_X10_lays (f := 6) a2 hk30 (by omega)) ob_model ⟨_, rfl, rfl⟩ ⟨rfl, rfl⟩ (by decide) (by decide) (Nat.le_of_ble_eq_true rfl) (fun M3 L3 ⟨x1, x2⟩ => ?_)
        subst x1
        have g3 : jb (layJ b k 6 (jb b k 6 + 1)) k 3 = jb b k 3 := by rw [jb_lay (by omega) (by omega), if_neg (fun z => by omega)]
        refine r_aload_n dX10_ticksOnce_54 rfl ?_
        refine r_iload_n dX10_ticksOnce_55 rfl ?_
        refine r_iconst_3 dX10_ticksOnce_56 ?_
        refine m_cv2 dX10_ticksOnce_57 cv_X10_175 (c_X10_of (f := 3) (at318 x2) hk30 (by omega)) rfl ob_model ⟨_, rfl, rfl⟩ ⟨rfl, rfl⟩ (by decide) (by decide) (Nat.le_of_ble_eq_true rfl) ?_
        refine r_iconst_1 dX10_ticksOnce_60 ?_
        refine r_icmp_eq 67 dX10_ticksOnce_61 (by decide) (fun z => absurd z (by rw [g3]; exact h1)) (fun _ => ?_)
        refine r_goto 128 dX10_ticksOnce_64 (by decide) ?_
        refine s_iinc dX10_ticksOnce_128 rfl (by decide) rfl ?_
        refine r_goto 14 dX10_ticksOnce_131 (by decide) ?_
        exact m_sub (ih M3 (fm_t f2 (by rw [x2]; exact fm_a fm_r)) (by rw [e2]; exact at318 x2)) (by rw [ef, if_neg (fun z => h1 z.1)]; simp [a_sub, nI_succ])
      · refine r_if_ne 49 dX10_ticksOnce_42 (by decide) (fun _ => ?_) (fun z => absurd z h0)
        refine r_iconst_0 dX10_ticksOnce_49 ?_
        refine r_iadd dX10_ticksOnce_50 ?_
        refine m_pv3 dX10_ticksOnce_51 cv_X10_233 (c_X10_lays (f := 6) a2 hk30 (by omega)) ob_model ⟨_, rfl, rfl⟩ ⟨rfl, rfl⟩ (by decide) (by decide) (Nat.le_of_ble_eq_true rfl) (fun M3 L3 ⟨x1, x2⟩ => ?_)
        subst x1
        rw [Int32.add_zero, lay_self] at x2
        have a3 : M3 318 = b := at318 x2
        have f3 : Fm M M3 := fm_t f2 (by rw [x2]; exact fm_a fm_r)
        refine r_aload_n dX10_ticksOnce_54 rfl ?_
        refine r_iload_n dX10_ticksOnce_55 rfl ?_
        refine r_iconst_3 dX10_ticksOnce_56 ?_
        refine m_cv2 dX10_ticksOnce_57 cv_X10_175 (c_X10_of (f := 3) a3 hk30 (by omega)) rfl ob_model ⟨_, rfl, rfl⟩ ⟨rfl, rfl⟩ (by decide) (by decide) (Nat.le_of_ble_eq_true rfl) ?_
        refine r_iconst_1 dX10_ticksOnce_60 ?_
        refine r_icmp_eq 67 dX10_ticksOnce_61 (by decide) (fun h61 => ?_) (fun h61 => ?_)
        · refine r_aload_n dX10_ticksOnce_67 rfl ?_
          refine r_iload_n dX10_ticksOnce_68 rfl ?_
          refine r_iconst_2 dX10_ticksOnce_69 ?_
          refine r_aload_n dX10_ticksOnce_70 rfl ?_
          refine r_iload_n dX10_ticksOnce_71 rfl ?_
          refine r_iconst_2 dX10_ticksOnce_72 ?_
          refine m_cv2 dX10_ticksOnce_73 cv_X10_175 (c_X10_of (f := 2) a3 hk30 (by omega)) rfl ob_model ⟨_, rfl, rfl⟩ ⟨rfl, rfl⟩ (by decide) (by decide) (Nat.le_of_ble_eq_true rfl) ?_
          refine r_iconst_1 dX10_ticksOnce_76 ?_
          refine r_iadd dX10_ticksOnce_77 ?_
          refine m_pv3 dX10_ticksOnce_78 cv_X10_233 (c_X10_lays (f := 2) a3 hk30 (by omega)) ob_model ⟨_, rfl, rfl⟩ ⟨rfl, rfl⟩ (by decide) (by decide) (Nat.le_of_ble_eq_true rfl) (fun M4 L4 ⟨y1, y2⟩ => ?_)
          subst y1
          have a4 := at318 y2
          have g0 : jb (layJ b k 2 (jb b k 2 + 1)) k 0 = nI u := by rw [jb_lay (by omega) (by omega), if_neg (fun z => by omega), hu2]
          refine r_aload_n dX10_ticksOnce_81 rfl ?_
          refine m_get 10 0 dX10_ticksOnce_82 fl_X10_7 ob_model rfl ?_
          refine r_bipush 34 dX10_ticksOnce_85 (by decide) ?_
          refine r_aload_n dX10_ticksOnce_87 rfl ?_
          refine r_iload_n dX10_ticksOnce_88 rfl ?_
          refine r_iconst_0 dX10_ticksOnce_89 ?_
          refine m_cv2 dX10_ticksOnce_90 cv_X10_175 (c_X10_of (f := 0) a4 hk30 (by omega)) rfl ob_model ⟨_, rfl, rfl⟩ ⟨rfl, rfl⟩ (by decide) (by decide) (Nat.le_of_ble_eq_true rfl) ?_
          simp only [Option.toList_some, List.singleton_append]
          rw [g0]
          refine r_iadd dX10_ticksOnce_93 ?_
          refine r_dup2 dX10_ticksOnce_94 rfl rfl ?_
          refine m_iald (34 + u) dX10_ticksOnce_95 ai_a (nI_add 34 u) (by omega) (by first | decide | assumption) ?_
          refine r_sipush 1000 dX10_ticksOnce_96 (by decide) ?_
          refine r_iadd dX10_ticksOnce_99 ?_
          refine m_iast (34 + u) dX10_ticksOnce_100 ai_a (nI_add 34 u) (by omega) (by first | decide | assumption) ?_
          rw [a4, lay_o (i := 34 + u) hk30 (by omega) (by omega)]
          generalize hc : upd (layJ b k 2 (jb b k 2 + 1)) (34 + u) (b (34 + u) + 1000) = c
          refine m_abs (fun M5 => Fm M M5 ∧ M5 318 = c) ⟨fm_a (fm_t f3 (by rw [y2]; exact fm_a fm_r)), mU_s⟩ (fun M5 ⟨f5, a5⟩ => ?_)
          have ej : ∀ g, g < 7 → jb c k g = if g = 2 then jb b k 2 + 1 else jb b k g := fun g hg => by rw [← hc, jb_u (by omega), jb_lay (by omega) hg]; simp
          refine r_aload_n dX10_ticksOnce_101 rfl ?_
          refine r_iload_n dX10_ticksOnce_102 rfl ?_
          refine r_iconst_2 dX10_ticksOnce_103 ?_
          refine m_cv2 dX10_ticksOnce_104 cv_X10_175 (c_X10_of (f := 2) a5 hk30 (by omega)) rfl ob_model ⟨_, rfl, rfl⟩ ⟨rfl, rfl⟩ (by decide) (by decide) (Nat.le_of_ble_eq_true rfl) ?_
          refine r_aload_n dX10_ticksOnce_107 rfl ?_
          refine r_iload_n dX10_ticksOnce_108 rfl ?_
          refine r_iconst_1 dX10_ticksOnce_109 ?_
          refine m_cv2 dX10_ticksOnce_110 cv_X10_175 (c_X10_of (f := 1) a5 hk30 (by omega)) rfl ob_model ⟨_, rfl, rfl⟩ ⟨rfl, rfl⟩ (by decide) (by decide) (Nat.le_of_ble_eq_true rfl) ?_
          simp only [Option.toList_some, List.singleton_append]
          rw [(ej 1 (by omega)).trans (if_neg (by decide)), (ej 2 (by omega)).trans (if_pos rfl)]
          refine r_icmp_ge 119 dX10_ticksOnce_113 (by decide) (fun h113 => ?_) (fun h113 => ?_)
          · have hn : ¬ jb b k 2 + 1 < jb b k 1 := by rw [Int32.not_lt]; exact h113
            have e2 : wkF (upd a 0 (a 0 + 1)) (k + 1) = endS c k 2 := by rw [e, wkStep, if_pos h61, if_neg hn, zu, hc]
            refine r_aload_n dX10_ticksOnce_119 rfl ?_
            refine r_iload_n dX10_ticksOnce_120 rfl ?_
            refine r_iconst_2 dX10_ticksOnce_121 ?_
            refine m_pv2 dX10_ticksOnce_122 cv_X10_260 (c_X10_ends a5 hk30) ob_model ⟨_, rfl, rfl⟩ ⟨rfl, rfl⟩ (by decide) (by decide) (Nat.le_of_ble_eq_true rfl) (fun M6 L6 ⟨z1, z2⟩ => ?_)
            subst z1
            refine s_iinc dX10_ticksOnce_125 rfl (by decide) rfl ?_
            refine s_iinc dX10_ticksOnce_128 rfl (by decide) rfl ?_
            refine r_goto 14 dX10_ticksOnce_131 (by decide) ?_
            exact m_sub (ih M6 (fm_t f5 (by rw [z2]; exact fm_a fm_r)) (by rw [e2]; exact at318 z2)) (by rw [ef, if_pos ⟨h61, hn⟩]; simp [a_sub, nI_succ])
          · have hn : jb b k 2 + 1 < jb b k 1 := by rw [← Int32.not_le]; exact h113
            have e2 : wkF (upd a 0 (a 0 + 1)) (k + 1) = c := by rw [e, wkStep, if_pos h61, if_pos hn, zu, hc]
            refine r_goto 128 dX10_ticksOnce_116 (by decide) ?_
            refine s_iinc dX10_ticksOnce_128 rfl (by decide) rfl ?_
            refine r_goto 14 dX10_ticksOnce_131 (by decide) ?_
            exact m_sub (ih M5 f5 (by rw [e2]; exact a5)) (by rw [ef, if_neg (fun z => z.2 hn)]; simp [a_sub, nI_succ])
        · have e2 : wkF (upd a 0 (a 0 + 1)) (k + 1) = b := by rw [e, wkStep, if_neg h61, if_neg h0]
          refine r_goto 128 dX10_ticksOnce_64 (by decide) ?_
          refine s_iinc dX10_ticksOnce_128 rfl (by decide) rfl ?_
          refine r_goto 14 dX10_ticksOnce_131 (by decide) ?_
          exact m_sub (ih M3 f3 (by rw [e2]; exact a3)) (by rw [ef, if_neg (fun z => h61 z.1)]; simp [a_sub, nI_succ])
  exact m_sub (lp 0 (Nat.zero_le _) M1 f1 a1) (by simp [a_sub, nI_0, fnF])
end MODEL5
