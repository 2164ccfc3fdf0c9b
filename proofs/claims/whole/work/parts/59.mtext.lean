/-! THE MODEL READS A TEXT: tokens -/
def UG (u g : Int32) : Prop := (u = g ∧ 0 ≤ g) ∨ (g < 0 ∧ 128 ≤ u)
theorem ug_in {u g lo hi : Int32} (h : UG u g) (h1 : 0 ≤ lo) (h2 : hi < 128) : (lo ≤ u ∧ u ≤ hi) ↔ (lo ≤ g ∧ g ≤ hi) := by
  rcases h with ⟨rfl, -⟩ | ⟨a, b⟩
  · exact Iff.rfl
  · exact ⟨fun z => absurd (Int32.lt_of_le_of_lt (Int32.le_trans b z.2) h2) (fun y => Int32.lt_irrefl y), fun z => absurd (Int32.lt_of_le_of_lt (Int32.le_trans h1 z.1) a) (fun y => Int32.lt_irrefl y)⟩
theorem ug_eq {u g c : Int32} (h : UG u g) (h1 : 0 ≤ c) (h2 : c < 128) : u = c ↔ g = c := by
  rcases h with ⟨rfl, -⟩ | ⟨a, b⟩
  · exact Iff.rfl
  · refine ⟨fun z => ?_, fun z => ?_⟩
    · subst z; exact absurd (Int32.lt_of_le_of_lt b h2) (fun y => Int32.lt_irrefl y)
    · subst z; exact absurd (Int32.lt_of_le_of_lt h1 a) (fun y => Int32.lt_irrefl y)
theorem ug_b : ∀ j : Fin 256, (j.val < 128 → (nI j.val).toInt8.toInt32 = nI j.val ∧ 0 ≤ nI j.val) ∧ (128 ≤ j.val → (nI j.val).toInt8.toInt32 < 0 ∧ 128 ≤ nI j.val) := by decide +kernel
theorem ug_of {j : Nat} (h : j < 256) : UG (nI j) ((nI j).toInt8.toInt32) := by
  have h2 := ug_b ⟨j, h⟩
  by_cases z : j < 128
  · have := h2.1 z
    exact Or.inl ⟨this.1.symm, by rw [this.1]; exact this.2⟩
  · exact Or.inr (h2.2 (by show 128 ≤ j; omega))
section MTEXT
variable {M : Nat → Nat → Int32} {L : Nat → Nat → Int64} {dd : UInt64} {n p : Nat} {s : PS} {Q : a_Q} {g : Nat → Int32}
def BR (M : Nat → Nat → Int32) (g : Nat → Int32) (n : Nat) : Prop := ∀ k, k < n → UG (M 322 k) (g k)
def Fk (M M' : Nat → Nat → Int32) : Prop := (∀ c, c ≠ 317 → M' c = M c) ∧ ∀ i, i ≠ 9 → i ≠ 10 → i ≠ 11 → i ≠ 12 → M' 317 i = M 317 i
theorem fk_u {M1 : Nat → Nat → Int32} {j : Nat} {v : Int32} (h : Fk M M1) (hj : j = 9 ∨ j = 10 ∨ j = 11 ∨ j = 12) : Fk M (mU M1 317 (upd (M1 317) j v)) :=
  ⟨fun c hc => by rw [mU_n hc]; exact h.1 c hc, fun i h1 h2 h3 h4 => by rw [mU_s, upd_ne (by omega)]; exact h.2 i h1 h2 h3 h4⟩
def LT (M : Nat → Nat → Int32) (g : Nat → Int32) (n b : Nat) : Prop := M 317 9 = nI b ∧ b ≤ n ∧
  ((¬ b < n ∧ M 317 11 = 3 ∧ M 317 10 = nI b) ∨ (b < n ∧ cLt (g b) = true ∧ M 317 11 = 0 ∧ M 317 10 = nI (en cLt g n b)) ∨
  (b < n ∧ ¬ cLt (g b) = true ∧ cDg (g b) = true ∧ M 317 11 = 1 ∧ M 317 10 = nI (en cDg g n b) ∧ M 317 12 = nI (dwF g b (en cDg g n b - b))) ∨ (b < n ∧ ¬ cLt (g b) = true ∧ ¬ cDg (g b) = true ∧ M 317 11 = 2 ∧ M 317 10 = nI (b + 1)))
theorem c_X10_see {i : Nat} {q : Int32} (hq : q = nI i) (h8 : M 317 8 = nI n) (hn : n ≤ 600) (hi : i ≤ n) : AD yX10_see I_X10_see [.ref 317, .int q] (hS M L dd) (.inl (some (.int (if i < n then M 322 i else -1)))) (hS M L dd) := by
  subst hq
  by_cases h : i < n
  · rw [if_pos h]
    intro Q hq
    refine a_met (by decide +kernel) rfl rfl (Nat.le_of_ble_eq_true rfl) (by simp [Value.category]) (by decide) rfl ?_
    show AW I_X10_see 0 [.ref 317, .int (nI i)] [] (hS M L dd) 0 0 Q
    refine r_iload_n dX10_see_0 rfl ?_
    refine r_aload_n dX10_see_1 rfl ?_
    refine m_get 10 8 dX10_see_2 fl_X10_51 ob_model rfl ?_
    refine r_icmp_ge 17 dX10_see_5 (by decide) (fun z => absurd z (by rw [h8]; exact nI_ge h (by omega))) (fun _ => ?_)
    refine r_aload_n dX10_see_8 rfl ?_
    refine m_get 10 6 dX10_see_9 fl_X10_22 ob_model rfl ?_
    refine r_iload_n dX10_see_12 rfl ?_
    refine m_iald i dX10_see_13 ai_buffer rfl (by omega) (by first | decide | assumption) ?_
    refine r_goto 18 dX10_see_14 (by decide) ?_
    exact e_iret dX10_see_18 rfl hq (rfl)
  · rw [if_neg h]
    intro Q hq
    refine a_met (by decide +kernel) rfl rfl (Nat.le_of_ble_eq_true rfl) (by simp [Value.category]) (by decide) rfl ?_
    show AW I_X10_see 0 [.ref 317, .int (nI i)] [] (hS M L dd) 0 0 Q
    refine r_iload_n dX10_see_0 rfl ?_
    refine r_aload_n dX10_see_1 rfl ?_
    refine m_get 10 8 dX10_see_2 fl_X10_51 ob_model rfl ?_
    refine r_icmp_ge 17 dX10_see_5 (by decide) (fun _ => ?_) (fun z => absurd (by rw [h8]; exact nI_le (by omega) (by omega)) z)
    refine r_iconst_m1 dX10_see_17 ?_
    exact e_iret dX10_see_18 rfl hq (rfl)
theorem c_X10_isLetter {c : Int32} : AD yX10_isLetter I_X10_isLetter [.int c] (hS M L dd) (.inl (some (.int (bI (97 ≤ c ∧ c ≤ 122))))) (hS M L dd) := by
  intro Q hq
  refine a_met (by decide +kernel) rfl rfl (Nat.le_of_ble_eq_true rfl) (by simp [Value.category]) (by decide) rfl ?_
  show AW I_X10_isLetter 0 [.int c] [] (hS M L dd) 0 0 Q
  refine r_iload_n dX10_isLetter_0 rfl ?_
  refine r_bipush 97 dX10_isLetter_1 (by decide) ?_
  refine r_bipush 122 dX10_isLetter_3 (by decide) ?_
  refine m_cs3 dX10_isLetter_5 cs_X10_54 (c_X10_isIn) rfl ⟨rfl, rfl⟩ (by decide) (by decide) (Nat.le_of_ble_eq_true rfl) ?_
  exact e_zret dX10_isLetter_8 rfl hq (rfl)
theorem c_X10_isDigit {c : Int32} : AD yX10_isDigit I_X10_isDigit [.int c] (hS M L dd) (.inl (some (.int (bI (48 ≤ c ∧ c ≤ 57))))) (hS M L dd) := by
  intro Q hq
  refine a_met (by decide +kernel) rfl rfl (Nat.le_of_ble_eq_true rfl) (by simp [Value.category]) (by decide) rfl ?_
  show AW I_X10_isDigit 0 [.int c] [] (hS M L dd) 0 0 Q
  refine r_iload_n dX10_isDigit_0 rfl ?_
  refine r_bipush 48 dX10_isDigit_1 (by decide) ?_
  refine r_bipush 57 dX10_isDigit_3 (by decide) ?_
  refine m_cs3 dX10_isDigit_5 cs_X10_54 (c_X10_isIn) rfl ⟨rfl, rfl⟩ (by decide) (by decide) (Nat.le_of_ble_eq_true rfl) ?_
  exact e_zret dX10_isDigit_8 rfl hq (rfl)
theorem dw_step {b k : Nat} (hb : b ≤ k) (h : cDg (g k) = true) : dwF g b (k + 1 - b) = (if dwF g b (k - b) < 10000 then 10 * dwF g b (k - b) + dgN (g k) else dwF g b (k - b)) := by
  rw [show k + 1 - b = (k - b) + 1 by omega, dwF, show b + (k - b) = k by omega]
theorem c_X10_next (hB : BR M g n) (hn : n ≤ 600) (h8 : M 317 8 = nI n) (h10 : M 317 10 = nI p) (hp : p ≤ n) : PO yX10_next I_X10_next [.ref 317] M L dd none (fun M' L' => L' = L ∧ Fk M M' ∧ LT M' g n (skp g n p)) := by
  have b1 : p ≤ skp g n p ∧ skp g n p ≤ n := en_b hp
  generalize hb : skp g n p = b at b1 ⊢
  refine po_mk (fun Q hq => ?_)
  refine a_met (by decide +kernel) rfl rfl (Nat.le_of_ble_eq_true rfl) (by simp [Value.category]) (by decide) rfl ?_
  show AW I_X10_next 0 [.ref 317] [] (hS M L dd) 0 0 Q
  have c34 : ∀ M2 : Nat → Nat → Int32, Fk M M2 → M2 317 9 = nI b → AW I_X10_next 34 [.ref 317] [] (hS M2 L dd) 0 0 Q := by
    intro M2 f2 e9
    refine r_aload_n dX10_next_34 rfl ?_
    refine r_aload_n dX10_next_35 rfl ?_
    refine m_get 10 9 dX10_next_36 fl_X10_61 ob_model rfl ?_
    refine m_put 10 10 dX10_next_39 fl_X10_58 (fun r hr => by cases hr; rfl) ob_model (Nat.le_of_ble_eq_true rfl) rfl ?_
    refine m_abs (fun M3 => Fk M M3 ∧ M3 317 9 = nI b ∧ M3 317 10 = nI b) ⟨fk_u f2 (by omega), by rw [mU_s, upd_ne (by decide)]; exact e9, by rw [mU_s, upd_eq]; exact e9⟩ (fun M3 ⟨f3, k9, k10⟩ => ?_)
    have e8 : M3 317 8 = nI n := (f3.2 8 (by decide) (by decide) (by decide) (by decide)).trans h8
    have e22 : M3 322 = M 322 := f3.1 322 (by decide)
    refine r_aload_n dX10_next_42 rfl ?_
    refine m_get 10 9 dX10_next_43 fl_X10_61 ob_model rfl ?_
    refine r_aload_n dX10_next_46 rfl ?_
    refine m_get 10 8 dX10_next_47 fl_X10_51 ob_model rfl ?_
    rw [k9, e8]
    refine r_icmp_lt 61 dX10_next_50 (by decide) (fun h50 => ?_) (fun h50 => ?_)
    · rw [nI_ltI (by omega) (by omega)] at h50
      have ub := hB b h50
      refine r_aload_n dX10_next_61 rfl ?_
      refine r_aload_n dX10_next_62 rfl ?_
      refine m_get 10 9 dX10_next_63 fl_X10_61 ob_model rfl ?_
      refine m_cv1 dX10_next_66 cv_X10_64 (c_X10_see k9 e8 hn b1.2) rfl ob_model ⟨_, rfl, rfl⟩ ⟨rfl, rfl⟩ (by decide) (by decide) (Nat.le_of_ble_eq_true rfl) ?_
      refine m_cs1 dX10_next_69 cs_X10_71 (c_X10_isLetter) rfl ⟨rfl, rfl⟩ (by decide) (by decide) (Nat.le_of_ble_eq_true rfl) ?_
      rw [if_pos h50, e22]
      refine r_if_eq 110 dX10_next_72 (by decide) (fun h72 => ?_) (fun h72 => ?_)
      · rw [bI_0, ug_in ub (by decide) (by decide)] at h72
        have nl : ¬ cLt (g b) = true := fun z => h72 (of_decide_eq_true z)
        refine r_aload_n dX10_next_110 rfl ?_
        refine r_aload_n dX10_next_111 rfl ?_
        refine m_get 10 9 dX10_next_112 fl_X10_61 ob_model rfl ?_
        refine m_cv1 dX10_next_115 cv_X10_64 (c_X10_see k9 e8 hn b1.2) rfl ob_model ⟨_, rfl, rfl⟩ ⟨rfl, rfl⟩ (by decide) (by decide) (Nat.le_of_ble_eq_true rfl) ?_
        refine m_cs1 dX10_next_118 cs_X10_75 (c_X10_isDigit) rfl ⟨rfl, rfl⟩ (by decide) (by decide) (Nat.le_of_ble_eq_true rfl) ?_
        rw [if_pos h50, e22]
        refine r_if_eq 197 dX10_next_121 (by decide) (fun h121 => ?_) (fun h121 => ?_)
        · rw [bI_0, ug_in ub (by decide) (by decide)] at h121
          refine r_aload_n dX10_next_197 rfl ?_
          refine r_dup dX10_next_198 rfl ?_
          refine m_get 10 10 dX10_next_199 fl_X10_58 ob_model rfl ?_
          refine r_iconst_1 dX10_next_202 ?_
          refine r_iadd dX10_next_203 ?_
          refine m_put 10 10 dX10_next_204 fl_X10_58 (fun r hr => by cases hr; rfl) ob_model (Nat.le_of_ble_eq_true rfl) rfl ?_
          refine r_aload_n dX10_next_207 rfl ?_
          refine r_iconst_2 dX10_next_208 ?_
          refine m_put 10 11 dX10_next_209 fl_X10_68 (fun r hr => by cases hr; rfl) ob_model (Nat.le_of_ble_eq_true rfl) rfl ?_
          exact r_vret dX10_next_212 rfl (hq _ _ ⟨rfl, fk_u (fk_u f3 (by omega)) (by omega), by simp [mU, upd, k9], b1.2, Or.inr (Or.inr (Or.inr ⟨h50, nl, fun z => h121 (of_decide_eq_true z), by simp [mU, upd], by simp only [mU_s]; rw [upd_ne (by decide), upd_eq, k10]; exact nI_1 _⟩))⟩)
        · rw [bI_0, Decidable.not_not, ug_in ub (by decide) (by decide)] at h121
          have dg : cDg (g b) = true := decide_eq_true h121
          have lp : ∀ k, k ≤ n → ∀ M5 : Nat → Nat → Int32, Fk M M5 → M5 317 9 = nI b → M5 317 10 = nI k → M5 317 12 = nI (dwF g b (k - b)) → b ≤ k → en cDg g n k = en cDg g n b → AW I_X10_next 129 [.ref 317] [] (hS M5 L dd) 0 0 Q := by
            have ex : ∀ k, k ≤ n → ∀ M5 : Nat → Nat → Int32, Fk M M5 → M5 317 9 = nI b → M5 317 10 = nI k → M5 317 12 = nI (dwF g b (k - b)) → en cDg g n k = en cDg g n b → en cDg g n k = k → AW I_X10_next 189 [.ref 317] [] (hS M5 L dd) 0 0 Q := by
              intro k hk M5 f5 m9 m10 m12 he hz
              rw [hz] at he
              subst he
              refine r_aload_n dX10_next_189 rfl ?_
              refine r_iconst_1 dX10_next_190 ?_
              refine m_put 10 11 dX10_next_191 fl_X10_68 (fun r hr => by cases hr; rfl) ob_model (Nat.le_of_ble_eq_true rfl) rfl ?_
              refine r_goto 212 dX10_next_194 (by decide) ?_
              exact r_vret dX10_next_212 rfl (hq _ _ ⟨rfl, fk_u f5 (by omega), by simp [mU, upd, m9], b1.2, Or.inr (Or.inr (Or.inl ⟨h50, nl, dg, by simp [mU, upd], by simp [mU, upd, m10], by simp [mU, upd, m12]⟩))⟩)
            refine lp_up _ ?_ ?_
            · intro M5 f5 m9 m10 m12 hk2 he 
              have i8 : M5 317 8 = nI n := (f5.2 8 (by decide) (by decide) (by decide) (by decide)).trans h8
              refine r_aload_n dX10_next_129 rfl ?_
              refine r_aload_n dX10_next_130 rfl ?_
              refine m_get 10 10 dX10_next_131 fl_X10_58 ob_model rfl ?_
              refine m_cv1 dX10_next_134 cv_X10_64 (c_X10_see m10 i8 hn (Nat.le_refl _)) rfl ob_model ⟨_, rfl, rfl⟩ ⟨rfl, rfl⟩ (by decide) (by decide) (Nat.le_of_ble_eq_true rfl) ?_
              refine m_cs1 dX10_next_137 cs_X10_75 (c_X10_isDigit) rfl ⟨rfl, rfl⟩ (by decide) (by decide) (Nat.le_of_ble_eq_true rfl) ?_
              refine r_if_eq 189 dX10_next_140 (by decide) (fun _ => ?_) (fun z => absurd (by rw [if_neg (Nat.lt_irrefl n)]; decide) z)
              exact ex n (Nat.le_refl _) M5 f5 m9 m10 m12 he (en_n (fun z => by omega))
            · intro k hk ih M5 f5 m9 m10 m12 hk2 he 
              have i8 : M5 317 8 = nI n := (f5.2 8 (by decide) (by decide) (by decide) (by decide)).trans h8
              have i22 : M5 322 = M 322 := f5.1 322 (by decide)
              have uk := hB k hk
              have hE : k ≤ en cDg g n k := (en_b (Nat.le_of_lt hk)).1
              have hw := (dw_ok g b (k - b) (fun j hj => en_m (P := cDg) (g := g) (n := n) (i := b) (by omega) (by omega))).1
              refine r_aload_n dX10_next_129 rfl ?_
              refine r_aload_n dX10_next_130 rfl ?_
              refine m_get 10 10 dX10_next_131 fl_X10_58 ob_model rfl ?_
              refine m_cv1 dX10_next_134 cv_X10_64 (c_X10_see m10 i8 hn (Nat.le_of_lt hk)) rfl ob_model ⟨_, rfl, rfl⟩ ⟨rfl, rfl⟩ (by decide) (by decide) (Nat.le_of_ble_eq_true rfl) ?_
              refine m_cs1 dX10_next_137 cs_X10_75 (c_X10_isDigit) rfl ⟨rfl, rfl⟩ (by decide) (by decide) (Nat.le_of_ble_eq_true rfl) ?_
              rw [if_pos hk, i22]
              refine r_if_eq 189 dX10_next_140 (by decide) (fun h140 => ?_) (fun h140 => ?_)
              · rw [bI_0, ug_in uk (by decide) (by decide)] at h140
                exact ex k (Nat.le_of_lt hk) M5 f5 m9 m10 m12 he (en_n (fun z => h140 (of_decide_eq_true z.2)))
              · rw [bI_0, Decidable.not_not] at h140
                have gu : M 322 k = g k := by
                  rcases uk with z | z
                  · exact z.1
                  · exact absurd (Int32.le_trans z.2 h140.2) (by decide)
                rw [gu] at h140
                have dk : cDg (g k) = true := decide_eq_true h140
                have c176 : ∀ M6 : Nat → Nat → Int32, Fk M M6 → M6 317 9 = nI b → M6 317 10 = nI k → M6 317 12 = nI (dwF g b (k + 1 - b)) → AW I_X10_next 176 [.ref 317] [] (hS M6 L dd) 0 0 Q := by
                  intro M6 f6 o9 o10 o12
                  refine r_aload_n dX10_next_176 rfl ?_
                  refine r_dup dX10_next_177 rfl ?_
                  refine m_get 10 10 dX10_next_178 fl_X10_58 ob_model rfl ?_
                  refine r_iconst_1 dX10_next_181 ?_
                  refine r_iadd dX10_next_182 ?_
                  refine m_put 10 10 dX10_next_183 fl_X10_58 (fun r hr => by cases hr; rfl) ob_model (Nat.le_of_ble_eq_true rfl) rfl ?_
                  refine r_goto 129 dX10_next_186 (by decide) ?_
                  exact ih _ (fk_u f6 (by omega)) (by simp [mU, upd, o9]) (by rw [mU_s, upd_eq, o10]; exact nI_1 _) (by simp [mU, upd, o12]) (by omega) (by rw [← he]; exact (en_y hk dk).symm)
                refine r_aload_n dX10_next_143 rfl ?_
                refine m_get 10 12 dX10_next_144 fl_X10_78 ob_model rfl ?_
                refine r_sipush 10000 dX10_next_147 (by decide) ?_
                rw [m12]
                refine r_icmp_ge 176 dX10_next_150 (by decide) (fun h150 => ?_) (fun h150 => ?_)
                · rw [show (10000 : Int32) = nI 10000 from rfl, nI_leI (by decide) (by omega)] at h150
                  exact c176 M5 f5 m9 m10 (by rw [m12, dw_step hk2 dk, if_neg (by omega)])
                · rw [show (10000 : Int32) = nI 10000 from rfl, nI_leI (by decide) (by omega)] at h150
                  obtain ⟨eg, -⟩ := cDg_of dk
                  refine r_aload_n dX10_next_153 rfl ?_
                  refine r_bipush 10 dX10_next_154 (by decide) ?_
                  refine r_aload_n dX10_next_156 rfl ?_
                  refine m_get 10 12 dX10_next_157 fl_X10_78 ob_model rfl ?_
                  refine r_imul dX10_next_160 ?_
                  refine r_aload_n dX10_next_161 rfl ?_
                  refine r_aload_n dX10_next_162 rfl ?_
                  refine m_get 10 10 dX10_next_163 fl_X10_58 ob_model rfl ?_
                  refine m_cv1 dX10_next_166 cv_X10_64 (c_X10_see m10 i8 hn (Nat.le_of_lt hk)) rfl ob_model ⟨_, rfl, rfl⟩ ⟨rfl, rfl⟩ (by decide) (by decide) (Nat.le_of_ble_eq_true rfl) ?_
                  refine r_iadd dX10_next_169 ?_
                  refine r_bipush 48 dX10_next_170 (by decide) ?_
                  refine r_isub dX10_next_172 ?_
                  rw [if_pos hk, i22, gu, m12]
                  have e5 : (10 : Int32) * nI (dwF g b (k - b)) + g k - 48 = nI (dwF g b (k + 1 - b)) := by
                    rw [dw_step hk2 dk, if_pos (by omega)]
                    generalize dgN (g k) = d at eg
                    rw [eg, show (10 : Int32) = nI 10 from rfl, pk_mul, nI_add, show (48 : Int32) = nI 48 from rfl, pk_sub (by omega)]
                    exact congrArg nI (by omega)
                  rw [e5]
                  refine m_put 10 12 dX10_next_173 fl_X10_78 (fun r hr => by cases hr; rfl) ob_model (Nat.le_of_ble_eq_true rfl) rfl ?_
                  exact c176 _ (fk_u f5 (by omega)) (by simp [mU, upd, m9]) (by simp [mU, upd, m10]) (by rw [mU_s, upd_eq])
          refine r_aload_n dX10_next_124 rfl ?_
          refine r_iconst_0 dX10_next_125 ?_
          refine m_put 10 12 dX10_next_126 fl_X10_78 (fun r hr => by cases hr; rfl) ob_model (Nat.le_of_ble_eq_true rfl) rfl ?_
          exact lp b b1.2 _ (fk_u f3 (by omega)) (by simp [mU, upd, k9]) (by simp [mU, upd, k10]) (by rw [mU_s, upd_eq, Nat.sub_self]; rfl) (Nat.le_refl _) rfl
      · rw [bI_0, Decidable.not_not, ug_in ub (by decide) (by decide)] at h72
        have lt : cLt (g b) = true := decide_eq_true h72
        have lp : ∀ k, k ≤ n → ∀ M5 : Nat → Nat → Int32, Fk M M5 → M5 317 9 = nI b → M5 317 10 = nI k → en cLt g n k = en cLt g n b → AW I_X10_next 75 [.ref 317] [] (hS M5 L dd) 0 0 Q := by
          have ex : ∀ k, k ≤ n → ∀ M5 : Nat → Nat → Int32, Fk M M5 → M5 317 9 = nI b → M5 317 10 = nI k → en cLt g n k = en cLt g n b → en cLt g n k = k → AW I_X10_next 102 [.ref 317] [] (hS M5 L dd) 0 0 Q := by
            intro k hk M5 f5 m9 m10 he hz
            rw [hz] at he
            subst he
            refine r_aload_n dX10_next_102 rfl ?_
            refine r_iconst_0 dX10_next_103 ?_
            refine m_put 10 11 dX10_next_104 fl_X10_68 (fun r hr => by cases hr; rfl) ob_model (Nat.le_of_ble_eq_true rfl) rfl ?_
            refine r_goto 212 dX10_next_107 (by decide) ?_
            exact r_vret dX10_next_212 rfl (hq _ _ ⟨rfl, fk_u f5 (by omega), by simp [mU, upd, m9], b1.2, Or.inr (Or.inl ⟨h50, lt, by simp [mU, upd], by simp [mU, upd, m10]⟩)⟩)
          refine lp_up _ ?_ ?_
          · intro M5 f5 m9 m10 he 
            have i8 : M5 317 8 = nI n := (f5.2 8 (by decide) (by decide) (by decide) (by decide)).trans h8
            refine r_aload_n dX10_next_75 rfl ?_
            refine r_aload_n dX10_next_76 rfl ?_
            refine m_get 10 10 dX10_next_77 fl_X10_58 ob_model rfl ?_
            refine m_cv1 dX10_next_80 cv_X10_64 (c_X10_see m10 i8 hn (Nat.le_refl _)) rfl ob_model ⟨_, rfl, rfl⟩ ⟨rfl, rfl⟩ (by decide) (by decide) (Nat.le_of_ble_eq_true rfl) ?_
            refine m_cs1 dX10_next_83 cs_X10_71 (c_X10_isLetter) rfl ⟨rfl, rfl⟩ (by decide) (by decide) (Nat.le_of_ble_eq_true rfl) ?_
            refine r_if_eq 102 dX10_next_86 (by decide) (fun _ => ?_) (fun z => absurd (by rw [if_neg (Nat.lt_irrefl n)]; decide) z)
            exact ex n (Nat.le_refl _) M5 f5 m9 m10 he (en_n (fun z => by omega))
          · intro k hk ih M5 f5 m9 m10 he 
            have i8 : M5 317 8 = nI n := (f5.2 8 (by decide) (by decide) (by decide) (by decide)).trans h8
            have i22 : M5 322 = M 322 := f5.1 322 (by decide)
            have uk := hB k hk
            refine r_aload_n dX10_next_75 rfl ?_
            refine r_aload_n dX10_next_76 rfl ?_
            refine m_get 10 10 dX10_next_77 fl_X10_58 ob_model rfl ?_
            refine m_cv1 dX10_next_80 cv_X10_64 (c_X10_see m10 i8 hn (Nat.le_of_lt hk)) rfl ob_model ⟨_, rfl, rfl⟩ ⟨rfl, rfl⟩ (by decide) (by decide) (Nat.le_of_ble_eq_true rfl) ?_
            refine m_cs1 dX10_next_83 cs_X10_71 (c_X10_isLetter) rfl ⟨rfl, rfl⟩ (by decide) (by decide) (Nat.le_of_ble_eq_true rfl) ?_
            rw [if_pos hk, i22]
            refine r_if_eq 102 dX10_next_86 (by decide) (fun h86 => ?_) (fun h86 => ?_)
            · rw [bI_0, ug_in uk (by decide) (by decide)] at h86
              exact ex k (Nat.le_of_lt hk) M5 f5 m9 m10 he (en_n (fun z => h86 (of_decide_eq_true z.2)))
            · rw [bI_0, Decidable.not_not, ug_in uk (by decide) (by decide)] at h86
              refine r_aload_n dX10_next_89 rfl ?_
              refine r_dup dX10_next_90 rfl ?_
              refine m_get 10 10 dX10_next_91 fl_X10_58 ob_model rfl ?_
              refine r_iconst_1 dX10_next_94 ?_
              refine r_iadd dX10_next_95 ?_
              refine m_put 10 10 dX10_next_96 fl_X10_58 (fun r hr => by cases hr; rfl) ob_model (Nat.le_of_ble_eq_true rfl) rfl ?_
              refine r_goto 75 dX10_next_99 (by decide) ?_
              exact ih _ (fk_u f5 (by omega)) (by simp [mU, upd, m9]) (by rw [mU_s, upd_eq, m10]; exact nI_1 _) (by rw [← he]; exact (en_y hk (decide_eq_true h86)).symm)
        exact lp b b1.2 M3 f3 k9 k10 rfl
    · rw [nI_ltI (by omega) (by omega)] at h50
      refine r_aload_n dX10_next_53 rfl ?_
      refine r_iconst_3 dX10_next_54 ?_
      refine m_put 10 11 dX10_next_55 fl_X10_68 (fun r hr => by cases hr; rfl) ob_model (Nat.le_of_ble_eq_true rfl) rfl ?_
      refine r_goto 212 dX10_next_58 (by decide) ?_
      exact r_vret dX10_next_212 rfl (hq _ _ ⟨rfl, fk_u f3 (by omega), by simp [mU, upd, k9], b1.2, Or.inl ⟨h50, by simp [mU, upd], by simp [mU, upd, k10]⟩⟩)
  have lp : ∀ k, k ≤ n → ∀ M2 : Nat → Nat → Int32, Fk M M2 → M2 317 9 = nI k → skp g n k = b → AW I_X10_next 8 [.ref 317] [] (hS M2 L dd) 0 0 Q := by
    refine lp_up _ ?_ ?_
    · intro M2 f2 k9 he 
      have i8 : M2 317 8 = nI n := (f2.2 8 (by decide) (by decide) (by decide) (by decide)).trans h8
      refine r_aload_n dX10_next_8 rfl ?_
      refine r_aload_n dX10_next_9 rfl ?_
      refine m_get 10 9 dX10_next_10 fl_X10_61 ob_model rfl ?_
      refine m_cv1 dX10_next_13 cv_X10_64 (c_X10_see k9 i8 hn (Nat.le_refl _)) rfl ob_model ⟨_, rfl, rfl⟩ ⟨rfl, rfl⟩ (by decide) (by decide) (Nat.le_of_ble_eq_true rfl) ?_
      refine r_bipush 32 dX10_next_16 (by decide) ?_
      refine r_icmp_ne 34 dX10_next_18 (by decide) (fun _ => ?_) (fun z => absurd z (by rw [if_neg (Nat.lt_irrefl n)]; decide))
      exact c34 M2 f2 (by rw [k9, ← he, show skp g n n = n from en_n (fun z => by omega)])
    · intro k hk ih M2 f2 k9 he 
      have i8 : M2 317 8 = nI n := (f2.2 8 (by decide) (by decide) (by decide) (by decide)).trans h8
      have i22 : M2 322 = M 322 := f2.1 322 (by decide)
      have uk := hB k hk
      refine r_aload_n dX10_next_8 rfl ?_
      refine r_aload_n dX10_next_9 rfl ?_
      refine m_get 10 9 dX10_next_10 fl_X10_61 ob_model rfl ?_
      refine m_cv1 dX10_next_13 cv_X10_64 (c_X10_see k9 i8 hn (Nat.le_of_lt hk)) rfl ob_model ⟨_, rfl, rfl⟩ ⟨rfl, rfl⟩ (by decide) (by decide) (Nat.le_of_ble_eq_true rfl) ?_
      refine r_bipush 32 dX10_next_16 (by decide) ?_
      rw [if_pos hk, i22]
      refine r_icmp_ne 34 dX10_next_18 (by decide) (fun h18 => ?_) (fun h18 => ?_)
      · rw [ug_eq uk (by decide) (by decide)] at h18
        exact c34 M2 f2 (by rw [k9, ← he, show skp g n k = k from en_n (fun z => h18 (of_decide_eq_true z.2))])
      · rw [ug_eq uk (by decide) (by decide)] at h18
        refine r_aload_n dX10_next_21 rfl ?_
        refine r_dup dX10_next_22 rfl ?_
        refine m_get 10 9 dX10_next_23 fl_X10_61 ob_model rfl ?_
        refine r_iconst_1 dX10_next_26 ?_
        refine r_iadd dX10_next_27 ?_
        refine m_put 10 9 dX10_next_28 fl_X10_61 (fun r hr => by cases hr; rfl) ob_model (Nat.le_of_ble_eq_true rfl) rfl ?_
        refine r_goto 8 dX10_next_31 (by decide) ?_
        exact ih _ (fk_u f2 (by omega)) (by rw [mU_s, upd_eq, k9]; exact nI_1 _) (by rw [← he]; exact (en_y hk (decide_eq_true h18)).symm)
  refine r_aload_n dX10_next_0 rfl ?_
  refine r_aload_n dX10_next_1 rfl ?_
  refine m_get 10 10 dX10_next_2 fl_X10_58 ob_model rfl ?_
  refine m_put 10 9 dX10_next_5 fl_X10_61 (fun r hr => by cases hr; rfl) ob_model (Nat.le_of_ble_eq_true rfl) rfl ?_
  exact lp p hp _ (fk_u (show Fk M M from ⟨fun _ _ => rfl, fun _ _ _ _ _ => rfl⟩) (by omega)) (by rw [mU_s, upd_eq]; exact h10) hb
end MTEXT
