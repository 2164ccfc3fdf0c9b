/-! THE WRITTEN TEXT: both sides write the same list of signs -/
def dgT (j : Nat) : List Int32 := if 9 < j then [48 + nI j / 10, 48 + nI j % 10] else [48 + nI j % 10]
def jlF (a : Row) (m : Nat) : Nat → List Int32
  | 0 => []
  | j + 1 => if jb a j 3 = 1 ∧ jb a j 4 = nI m then (if jlF a m j = [] then dgT j else jlF a m j ++ 44 :: dgT j) else jlF a m j
def mcL (a : Row) (m : Nat) : List Int32 := if jlF a m (nj a) = [] then [if a (52 + m) = 1 then 45 else 120] else jlF a m (nj a)
def wrL (a : Row) : Nat → List Int32
  | 0 => []
  | m + 1 => wrL a m ++ ((if m = 0 then [] else [32]) ++ mcL a m)
section WRP
variable {a : Row} {T : Nat}
def cnJ (a : Row) (m k : Nat) : Nat := sumN (fun j => if jb a j 3 = 1 ∧ jb a j 4 = nI m then 1 else 0) k
theorem dgT_len (j : Nat) : 1 ≤ (dgT j).length ∧ (dgT j).length ≤ 2 := by unfold dgT; split <;> simp
theorem dgT_ne (j : Nat) : dgT j ≠ [] := fun z => by have := (dgT_len j).1; rw [z] at this; simp at this
theorem jlF_len (m : Nat) : ∀ k, (jlF a m k).length ≤ 3 * cnJ a m k := by
  intro k
  induction k with
  | zero => simp [jlF]
  | succ k ih =>
    have h2 := (dgT_len k).2
    show (jlF a m (k + 1)).length ≤ 3 * (cnJ a m k + (if jb a k 3 = 1 ∧ jb a k 4 = nI m then 1 else 0))
    rw [jlF]
    by_cases h : jb a k 3 = 1 ∧ jb a k 4 = nI m
    · rw [if_pos h, if_pos h]
      split
      · omega
      · rw [List.length_append, List.length_cons]; omega
    · rw [if_neg h, if_neg h]; omega
theorem cnJ_mono {m k n : Nat} (h : k ≤ n) : cnJ a m k ≤ cnJ a m n := by
  induction n with
  | zero => have : k = 0 := by omega
            subst this; exact Nat.le_refl _
  | succ n ih =>
    by_cases z : k = n + 1
    · subst z; exact Nat.le_refl _
    · have := ih (by omega)
      show _ ≤ cnJ a m n + _
      omega
theorem sumN_0 {f : Nat → Nat} {n : Nat} (h : ∀ k, k < n → f k = 0) : sumN f n = 0 := by
  induction n with
  | zero => rfl
  | succ n ih => rw [sumN, ih (fun k hk => h k (by omega)), h n (by omega)]
theorem sumN_add {f g : Nat → Nat} {n : Nat} : sumN (fun k => f k + g k) n = sumN f n + sumN g n := by
  induction n with
  | zero => rfl
  | succ n ih => rw [sumN, sumN, sumN, ih]; omega
theorem one_m {P : Prop} [Decidable P] {x : Int32} {m : Nat} (hm : m < 2 ^ 31) : sumN (fun i => if P ∧ x = nI i then 1 else 0) m ≤ 1 := by
  induction m with
  | zero => simp [sumN]
  | succ m ih =>
    rw [sumN]
    by_cases h : P ∧ x = nI m
    · rw [sumN_0 (fun k hk => if_neg (fun z => by
        have := (nI_eq (by omega) (by omega)).mp (h.2.symm.trans z.2)
        omega))]
      split <;> omega
    · rw [if_neg h]; have := ih (by omega); omega
theorem cn_tot {m : Nat} (hm : m < 2 ^ 31) : ∀ n, sumN (fun i => cnJ a i n) m ≤ n := by
  intro n
  induction n with
  | zero => exact Nat.le_of_eq (sumN_0 (fun k _ => rfl))
  | succ n ih =>
    have e : sumN (fun i => cnJ a i (n + 1)) m = sumN (fun i => cnJ a i n) m + sumN (fun i => if jb a n 3 = 1 ∧ jb a n 4 = nI i then 1 else 0) m := sumN_add (f := fun i => cnJ a i n) (g := fun i => if jb a n 3 = 1 ∧ jb a n 4 = nI i then 1 else 0)
    have h1 := one_m (P := jb a n 3 = 1) (x := jb a n 4) hm
    omega
theorem mcL_len (m : Nat) : (mcL a m).length ≤ 3 * cnJ a m (nj a) + 1 := by
  have := jlF_len (a := a) m (nj a)
  unfold mcL
  split
  · simp
  · omega
theorem wrL_len : ∀ m, (wrL a m).length ≤ 3 * sumN (fun i => cnJ a i (nj a)) m + 2 * m := by
  intro m
  induction m with
  | zero => simp [wrL]
  | succ m ih =>
    have h1 := mcL_len (a := a) m
    rw [wrL, sumN, List.length_append, List.length_append]
    have : (if m = 0 then ([] : List Int32) else [32]).length ≤ 1 := by split <;> simp
    omega
/-- room before a machine is written -/
theorem wr_room (h6 : nm a ≤ 6) (h30 : nj a ≤ 30) {m : Nat} (hm : m < nm a) : (wrL a m).length + 3 * cnJ a m (nj a) + 2 ≤ 120 := by
  have h1 := wrL_len (a := a) m
  have h2 : sumN (fun i => cnJ a i (nj a)) (m + 1) ≤ nj a := cn_tot (by omega) _
  rw [sumN] at h2
  omega
theorem wr_all (h6 : nm a ≤ 6) (h30 : nj a ≤ 30) : (wrL a (nm a)).length ≤ 120 := by
  have h1 := wrL_len (a := a) (nm a)
  have h2 : sumN (fun i => cnJ a i (nj a)) (nm a) ≤ nj a := cn_tot (by omega) _
  omega
theorem jl_down (hW : WF T a) (hV : WV a) {m : Nat} (hm : m < nm a) (h0 : ¬ a (52 + m) = 1) : ∀ k, k ≤ nj a → jlF a m k = [] := by
  intro k
  induction k with
  | zero => intro _; rfl
  | succ k ih =>
    intro hk
    rw [jlF, if_neg (fun z => h0 (hV k m (by omega) z.1 hm z.2))]
    exact ih (by omega)
end WRP
section WRM
variable {M : Nat → Nat → Int32} {L : Nat → Nat → Int64} {dd : UInt64} {a a' : Row} {R R' : List Row} {T B : Nat} {xs : List Int32}
def WR (M : Nat → Nat → Int32) (xs : List Int32) : Prop := M 317 19 = nI xs.length ∧ ∀ (k : Nat) (c : Int32), xs[k]? = some c → M 324 k = c
def Fw (M M' : Nat → Nat → Int32) : Prop := (∀ c, c ≠ 317 → c ≠ 324 → M' c = M c) ∧ ∀ i, i ≠ 19 → M' 317 i = M 317 i
theorem fw_r : Fw M M := ⟨fun _ _ _ => rfl, fun _ _ => rfl⟩
theorem fw_t {M1 M2 : Nat → Nat → Int32} (h : Fw M M1) (h2 : Fw M1 M2) : Fw M M2 := ⟨fun c g1 g2 => (h2.1 c g1 g2).trans (h.1 c g1 g2), fun i g => (h2.2 i g).trans (h.2 i g)⟩
theorem c_X10_says {c : Int32} (h : WR M xs) (hl : xs.length < 120) : PO yX10_says I_X10_says [.ref 317, .int c] M L dd none (fun M' L' => L' = L ∧ Fw M M' ∧ WR M' (xs ++ [c])) := by
  obtain ⟨h1, h2⟩ := h
  refine po_mk (fun Q hq => ?_)
  refine a_met (by decide +kernel) rfl rfl (Nat.le_of_ble_eq_true rfl) (by simp [Value.category]) (by decide) rfl ?_
  show AW I_X10_says 0 [.ref 317, .int c] [] (hS M L dd) 0 0 Q
  refine r_aload_n dX10_says_0 rfl ?_
  refine m_get 10 18 dX10_says_1 fl_X10_32 ob_model rfl ?_
  refine r_aload_n dX10_says_4 rfl ?_
  refine m_get 10 19 dX10_says_5 fl_X10_286 ob_model rfl ?_
  refine r_iload_n dX10_says_8 rfl ?_
  refine m_iast xs.length dX10_says_9 ai_written h1 (by omega) (by first | decide | assumption) ?_
  refine r_aload_n dX10_says_10 rfl ?_
  refine r_dup dX10_says_11 rfl ?_
  refine m_get 10 19 dX10_says_12 fl_X10_286 ob_model rfl ?_
  refine r_iconst_1 dX10_says_15 ?_
  refine r_iadd dX10_says_16 ?_
  refine m_put 10 19 dX10_says_17 fl_X10_286 (fun r hr => by cases hr; rfl) ob_model (Nat.le_of_ble_eq_true rfl) rfl ?_
  refine r_vret dX10_says_20 rfl (hq _ _ ⟨rfl, ⟨fun d g1 g2 => by rw [mU_n g1, mU_n g2], fun i hi => by rw [mU_s, upd_ne hi, mU_n (by omega)]⟩, ?_, fun k d hk => ?_⟩)
  · rw [mU_s, upd_eq, mU_n (by omega), h1, List.length_append]; exact nI_1 _
  · rw [mU_n (by omega), mU_s]
    by_cases z : k = xs.length
    · subst z
      rw [List.getElem?_append_right (Nat.le_refl _), Nat.sub_self] at hk
      simp at hk
      rw [upd_eq, hk]
    · have hl2 := (List.getElem?_eq_some_iff.mp hk).1
      rw [List.length_append, List.length_singleton] at hl2
      rw [List.getElem?_append_left (by omega)] at hk
      rw [upd_ne z]
      exact h2 k d hk
theorem c_X10_saysJobs {m : Nat} (hA : M 318 = a) (hW : WF T a) (hm : m < nm a) (h : WR M xs) (hl : xs.length + 3 * cnJ a m (nj a) + 1 ≤ 120) : PO yX10_saysJobs I_X10_saysJobs [.ref 317, .int (nI m)] M L dd none (fun M' L' => L' = L ∧ Fw M M' ∧ WR M' (xs ++ mcL a m)) := by
  have wJ := hW.2.2.2.1
  have h30 := wJ.2.1
  have h6 := hW.2.2.1.2.1
  refine po_mk (fun Q hq => ?_)
  refine a_met (by decide +kernel) rfl rfl (Nat.le_of_ble_eq_true rfl) (by simp [Value.category]) (by decide) rfl ?_
  show AW I_X10_saysJobs 0 [.ref 317, .int (nI m), .null, .null] [] (hS M L dd) 0 0 Q
  have lp : ∀ k, k ≤ nj a → ∀ M2 : Nat → Nat → Int32, Fw M M2 → WR M2 (xs ++ jlF a m k) → AW I_X10_saysJobs 4 [.ref 317, .int (nI m), .int (bI (jlF a m k ≠ [])), .int (nI k)] [] (hS M2 L dd) 0 0 Q := by
    refine lp_up _ ?_ ?_
    · intro M2 f2 w2 
      have a2 : M2 318 = a := (f2.1 318 (by omega) (by omega)).trans hA
      refine r_iload_n dX10_saysJobs_4 rfl ?_
      refine r_aload_n dX10_saysJobs_5 rfl ?_
      refine m_get 10 0 dX10_saysJobs_6 fl_X10_7 ob_model rfl ?_
      refine r_bipush 6 dX10_saysJobs_9 (by decide) ?_
      refine m_iald 6 dX10_saysJobs_11 ai_a rfl (by omega) (by first | decide | assumption) ?_
      refine r_icmp_ge 84 dX10_saysJobs_12 (by decide) (fun _ => ?_) (fun z => absurd (by rw [a2, wJ.1]; exact nI_le (Nat.le_refl _) (by omega)) z)
      refine r_iload_n dX10_saysJobs_84 rfl ?_
      refine r_if_ne 112 dX10_saysJobs_85 (by decide) (fun h85 => ?_) (fun h85 => ?_)
      · rw [bI_0, Decidable.not_not] at h85
        exact r_vret dX10_saysJobs_112 rfl (hq _ _ ⟨rfl, f2, by rw [mcL, if_neg h85]; exact w2⟩)
      · rw [bI_0, Decidable.not_not] at h85
        rw [h85, List.append_nil] at w2
        refine r_aload_n dX10_saysJobs_88 rfl ?_
        refine r_aload_n dX10_saysJobs_89 rfl ?_
        refine m_get 10 0 dX10_saysJobs_90 fl_X10_7 ob_model rfl ?_
        refine r_bipush 52 dX10_saysJobs_93 (by decide) ?_
        refine r_iload_n dX10_saysJobs_95 rfl ?_
        refine r_iadd dX10_saysJobs_96 ?_
        refine m_iald (52 + m) dX10_saysJobs_97 ai_a (nI_add 52 m) (by omega) (by first | decide | assumption) ?_
        refine r_iconst_1 dX10_saysJobs_98 ?_
        rw [a2]
        refine r_icmp_ne 107 dX10_saysJobs_99 (by decide) (fun h99 => ?_) (fun h99 => ?_)
        · refine r_bipush 120 dX10_saysJobs_107 (by decide) ?_
          refine m_pv1 dX10_saysJobs_109 cv_X10_289 (c_X10_says w2 (by omega)) ob_model ⟨_, rfl, rfl⟩ ⟨rfl, rfl⟩ (by decide) (by decide) (Nat.le_of_ble_eq_true rfl) (fun M3 L3 ⟨y1, y2, y3⟩ => ?_)
          subst y1
          exact r_vret dX10_saysJobs_112 rfl (hq _ _ ⟨rfl, fw_t f2 y2, by rw [mcL, if_pos h85, if_neg h99]; exact y3⟩)
        · refine r_bipush 45 dX10_saysJobs_102 (by decide) ?_
          refine r_goto 109 dX10_saysJobs_104 (by decide) ?_
          refine m_pv1 dX10_saysJobs_109 cv_X10_289 (c_X10_says w2 (by omega)) ob_model ⟨_, rfl, rfl⟩ ⟨rfl, rfl⟩ (by decide) (by decide) (Nat.le_of_ble_eq_true rfl) (fun M3 L3 ⟨y1, y2, y3⟩ => ?_)
          subst y1
          exact r_vret dX10_saysJobs_112 rfl (hq _ _ ⟨rfl, fw_t f2 y2, by rw [mcL, if_pos h85, if_pos h99]; exact y3⟩)
    · intro k hk ih M2 f2 w2 
      have a2 : M2 318 = a := (f2.1 318 (by omega) (by omega)).trans hA
      have hj1 := jlF_len (a := a) m k
      have hj2 := cnJ_mono (a := a) (m := m) (show k + 1 ≤ nj a by omega)
      refine r_iload_n dX10_saysJobs_4 rfl ?_
      refine r_aload_n dX10_saysJobs_5 rfl ?_
      refine m_get 10 0 dX10_saysJobs_6 fl_X10_7 ob_model rfl ?_
      refine r_bipush 6 dX10_saysJobs_9 (by decide) ?_
      refine m_iald 6 dX10_saysJobs_11 ai_a rfl (by omega) (by first | decide | assumption) ?_
      refine r_icmp_ge 84 dX10_saysJobs_12 (by decide) (fun z => absurd z (by rw [a2, wJ.1]; exact nI_ge hk (by omega))) (fun _ => ?_)
      refine r_aload_n dX10_saysJobs_15 rfl ?_
      refine r_iload_n dX10_saysJobs_16 rfl ?_
      refine r_iconst_3 dX10_saysJobs_17 ?_
      refine m_cv2 dX10_saysJobs_18 cv_X10_175 (c_X10_of (f := 3) a2 (by omega) (by omega)) rfl ob_model ⟨_, rfl, rfl⟩ ⟨rfl, rfl⟩ (by decide) (by decide) (Nat.le_of_ble_eq_true rfl) ?_
      refine r_iconst_1 dX10_saysJobs_21 ?_
      refine r_icmp_ne 78 dX10_saysJobs_22 (by decide) (fun h22 => ?_) (fun h22 => ?_)
      · have e : jlF a m (k + 1) = jlF a m k := by rw [jlF, if_neg (fun z => h22 z.1)]
        refine s_iinc dX10_saysJobs_78 rfl (by decide) rfl ?_
        refine r_goto 4 dX10_saysJobs_81 (by decide) ?_
        exact m_sub (ih M2 f2 (by rw [e]; exact w2)) (by rw [e]; simp [a_sub, nI_succ])
      · refine r_aload_n dX10_saysJobs_25 rfl ?_
        refine r_iload_n dX10_saysJobs_26 rfl ?_
        refine r_iconst_4 dX10_saysJobs_27 ?_
        refine m_cv2 dX10_saysJobs_28 cv_X10_175 (c_X10_of (f := 4) a2 (by omega) (by omega)) rfl ob_model ⟨_, rfl, rfl⟩ ⟨rfl, rfl⟩ (by decide) (by decide) (Nat.le_of_ble_eq_true rfl) ?_
        refine r_iload_n dX10_saysJobs_31 rfl ?_
        refine r_icmp_eq 38 dX10_saysJobs_32 (by decide) (fun h32 => ?_) (fun h32 => ?_)
        · have hc : cnJ a m (k + 1) = cnJ a m k + 1 := by
            show cnJ a m k + (if jb a k 3 = 1 ∧ jb a k 4 = nI m then 1 else 0) = _
            rw [if_pos ⟨h22, h32⟩]
          have e : jlF a m (k + 1) = if jlF a m k = [] then dgT k else jlF a m k ++ 44 :: dgT k := by rw [jlF, if_pos ⟨h22, h32⟩]
          have ne : jlF a m (k + 1) ≠ [] := by
            rw [e]
            split
            · exact dgT_ne k
            · simp
          have c65 : ∀ (M5 : Nat → Nat → Int32) (ys : List Int32) (u : Int32), Fw M M5 → WR M5 ys → ys.length < 120 → ys ++ [48 + nI k % 10] = xs ++ jlF a m (k + 1) → AW I_X10_saysJobs 65 [.ref 317, .int (nI m), .int u, .int (nI k)] [] (hS M5 L dd) 0 0 Q := by
            intro M5 ys u f5 w5 l5 e5
            refine r_aload_n dX10_saysJobs_65 rfl ?_
            refine r_bipush 48 dX10_saysJobs_66 (by decide) ?_
            refine r_iload_n dX10_saysJobs_68 rfl ?_
            refine r_bipush 10 dX10_saysJobs_69 (by decide) ?_
            refine r_irem dX10_saysJobs_71 (by decide) ?_
            refine r_iadd dX10_saysJobs_72 ?_
            refine m_pv1 dX10_saysJobs_73 cv_X10_289 (c_X10_says w5 l5) ob_model ⟨_, rfl, rfl⟩ ⟨rfl, rfl⟩ (by decide) (by decide) (Nat.le_of_ble_eq_true rfl) (fun M3 L3 ⟨y1, y2, y3⟩ => ?_)
            subst y1
            refine r_iconst_1 dX10_saysJobs_76 ?_
            refine s_istore_n 2 dX10_saysJobs_77 (by decide) rfl rfl ?_
            refine s_iinc dX10_saysJobs_78 rfl (by decide) rfl ?_
            refine r_goto 4 dX10_saysJobs_81 (by decide) ?_
            exact m_sub (ih _ (fw_t f5 y2) (by rw [← e5]; exact y3)) (by rw [bI_t ne]; simp [a_sub, nI_succ])
          have c48 : ∀ (M5 : Nat → Nat → Int32) (ys : List Int32) (u : Int32), Fw M M5 → WR M5 ys → ys.length + 1 < 120 → ys ++ dgT k = xs ++ jlF a m (k + 1) → AW I_X10_saysJobs 48 [.ref 317, .int (nI m), .int u, .int (nI k)] [] (hS M5 L dd) 0 0 Q := by
            intro M5 ys u f5 w5 l5 e5
            refine r_iload_n dX10_saysJobs_48 rfl ?_
            refine r_bipush 9 dX10_saysJobs_49 (by decide) ?_
            refine r_icmp_le 65 dX10_saysJobs_51 (by decide) (fun h51 => ?_) (fun h51 => ?_)
            · have h9 : ¬ 9 < k := by rw [show (9 : Int32) = nI 9 from rfl, nI_leI (by omega) (by omega)] at h51; omega
              exact c65 M5 ys u f5 w5 (by omega) (by rw [← e5, dgT, if_neg h9])
            · have h9 : 9 < k := by rw [show (9 : Int32) = nI 9 from rfl, nI_leI (by omega) (by omega)] at h51; omega
              refine r_aload_n dX10_saysJobs_54 rfl ?_
              refine r_bipush 48 dX10_saysJobs_55 (by decide) ?_
              refine r_iload_n dX10_saysJobs_57 rfl ?_
              refine r_bipush 10 dX10_saysJobs_58 (by decide) ?_
              refine r_idiv dX10_saysJobs_60 (by decide) ?_
              refine r_iadd dX10_saysJobs_61 ?_
              refine m_pv1 dX10_saysJobs_62 cv_X10_289 (c_X10_says w5 (by omega)) ob_model ⟨_, rfl, rfl⟩ ⟨rfl, rfl⟩ (by decide) (by decide) (Nat.le_of_ble_eq_true rfl) (fun M3 L3 ⟨y1, y2, y3⟩ => ?_)
              subst y1
              exact c65 _ _ u (fw_t f5 y2) y3 (by rw [List.length_append, List.length_singleton]; omega) (by rw [← e5, dgT, if_pos h9, List.append_assoc]; rfl)
          refine r_iload_n dX10_saysJobs_38 rfl ?_
          refine r_if_eq 48 dX10_saysJobs_39 (by decide) (fun h39 => ?_) (fun h39 => ?_)
          · rw [bI_0, Decidable.not_not] at h39
            rw [h39, List.append_nil] at w2
            exact c48 M2 xs _ f2 w2 (by omega) (by rw [e, if_pos h39])
          · rw [bI_0, Decidable.not_not] at h39
            refine r_aload_n dX10_saysJobs_42 rfl ?_
            refine r_bipush 44 dX10_saysJobs_43 (by decide) ?_
            refine m_pv1 dX10_saysJobs_45 cv_X10_289 (c_X10_says w2 (by rw [List.length_append]; omega)) ob_model ⟨_, rfl, rfl⟩ ⟨rfl, rfl⟩ (by decide) (by decide) (Nat.le_of_ble_eq_true rfl) (fun M3 L3 ⟨y1, y2, y3⟩ => ?_)
            subst y1
            exact c48 _ _ _ (fw_t f2 y2) y3 (by rw [List.length_append, List.length_append, List.length_singleton]; omega) (by rw [e, if_neg h39]; simp)
        · have e : jlF a m (k + 1) = jlF a m k := by rw [jlF, if_neg (fun z => h32 z.2)]
          refine r_goto 78 dX10_saysJobs_35 (by decide) ?_
          refine s_iinc dX10_saysJobs_78 rfl (by decide) rfl ?_
          refine r_goto 4 dX10_saysJobs_81 (by decide) ?_
          exact m_sub (ih M2 f2 (by rw [e]; exact w2)) (by rw [e]; simp [a_sub, nI_succ])
  refine r_iconst_0 dX10_saysJobs_0 ?_
  refine s_istore_n 2 dX10_saysJobs_1 (by decide) rfl rfl ?_
  refine r_iconst_0 dX10_saysJobs_2 ?_
  refine s_istore_n 3 dX10_saysJobs_3 (by decide) rfl rfl ?_
  exact m_sub (lp 0 (Nat.zero_le _) M fw_r (by rw [jlF, List.append_nil]; exact h)) (by simp [a_sub, jlF, bI, nI_0])
theorem c_X10_writeMachines (hA : M 318 = a) (hW : WF T a) : PO yX10_writeMachines I_X10_writeMachines [.ref 317] M L dd (some (.int (nI (wrL a (nm a)).length))) (fun M' L' => L' = L ∧ (∀ c, c ≠ 317 → c ≠ 324 → M' c = M c) ∧ (∀ i, i ≠ 19 → i ≠ 5 → M' 317 i = M 317 i) ∧ M' 317 5 = 0 ∧ WR M' (wrL a (nm a))) := by
  have wM := hW.2.2.1
  have h6 := wM.2.1
  have h30 := hW.2.2.2.1.2.1
  refine po_mk (fun Q hq => ?_)
  refine a_met (by decide +kernel) rfl rfl (Nat.le_of_ble_eq_true rfl) (by simp [Value.category]) (by decide) rfl ?_
  show AW I_X10_writeMachines 0 [.ref 317, .null] [] (hS M L dd) 0 0 Q
  refine r_aload_n dX10_writeMachines_0 rfl ?_
  refine r_iconst_0 dX10_writeMachines_1 ?_
  refine m_put 10 5 dX10_writeMachines_2 fl_X10_42 (fun r hr => by cases hr; rfl) ob_model (Nat.le_of_ble_eq_true rfl) rfl ?_
  refine r_aload_n dX10_writeMachines_5 rfl ?_
  refine r_iconst_0 dX10_writeMachines_6 ?_
  refine m_put 10 19 dX10_writeMachines_7 fl_X10_286 (fun r hr => by cases hr; rfl) ob_model (Nat.le_of_ble_eq_true rfl) rfl ?_
  refine m_abs (fun M1 => (∀ c, c ≠ 317 → M1 c = M c) ∧ (∀ i, i ≠ 19 → i ≠ 5 → M1 317 i = M 317 i) ∧ M1 317 5 = 0 ∧ M1 317 19 = 0) ⟨fun c hc => by rw [mU_n hc, mU_n hc], fun i g1 g2 => by rw [mU_s, upd_ne g1, mU_s, upd_ne g2], by rw [mU_s, upd_ne (by omega), mU_s, upd_eq], by rw [mU_s, upd_eq]⟩ (fun M1 ⟨z1, z2, z3, z4⟩ => ?_)
  have lp : ∀ k, k ≤ nm a → ∀ M2 : Nat → Nat → Int32, Fw M1 M2 → WR M2 (wrL a k) → AW I_X10_writeMachines 12 [.ref 317, .int (nI k)] [] (hS M2 L dd) 0 0 Q := by
    refine lp_up _ ?_ ?_
    · intro M2 f2 w2 
      have a2 : M2 318 = a := (f2.1 318 (by omega) (by omega)).trans ((z1 318 (by omega)).trans hA)
      refine r_iload_n dX10_writeMachines_12 rfl ?_
      refine r_aload_n dX10_writeMachines_13 rfl ?_
      refine m_get 10 0 dX10_writeMachines_14 fl_X10_7 ob_model rfl ?_
      refine r_iconst_5 dX10_writeMachines_17 ?_
      refine m_iald 5 dX10_writeMachines_18 ai_a rfl (by omega) (by first | decide | assumption) ?_
      refine r_icmp_ge 43 dX10_writeMachines_19 (by decide) (fun _ => ?_) (fun z => absurd (by rw [a2, wM.1]; exact nI_le (Nat.le_refl _) (by omega)) z)
      refine r_aload_n dX10_writeMachines_43 rfl ?_
      refine m_get 10 19 dX10_writeMachines_44 fl_X10_286 ob_model rfl ?_
      rw [w2.1]
      exact r_iret dX10_writeMachines_47 rfl (hq _ _ ⟨rfl, fun c g1 g2 => (f2.1 c g1 g2).trans (z1 c g1), fun i g1 g2 => (f2.2 i g1).trans (z2 i g1 g2), (f2.2 5 (by omega)).trans z3, w2⟩)
    · intro k hk ih M2 f2 w2 
      have a2 : M2 318 = a := (f2.1 318 (by omega) (by omega)).trans ((z1 318 (by omega)).trans hA)
      have hr := wr_room h6 h30 hk
      have c32 : ∀ (M5 : Nat → Nat → Int32), Fw M1 M5 → WR M5 (wrL a k ++ (if k = 0 then [] else [32])) → AW I_X10_writeMachines 32 [.ref 317, .int (nI k)] [] (hS M5 L dd) 0 0 Q := by
        intro M5 f5 w5
        have a5 : M5 318 = a := (f5.1 318 (by omega) (by omega)).trans ((z1 318 (by omega)).trans hA)
        have hl : (wrL a k ++ (if k = 0 then [] else [32])).length + 3 * cnJ a k (nj a) + 1 ≤ 120 := by
          rw [List.length_append]
          have : (if k = 0 then ([] : List Int32) else [32]).length ≤ 1 := by split <;> simp
          omega
        refine r_aload_n dX10_writeMachines_32 rfl ?_
        refine r_iload_n dX10_writeMachines_33 rfl ?_
        refine m_pv1 dX10_writeMachines_34 cv_X10_292 (c_X10_saysJobs a5 hW hk w5 hl) ob_model ⟨_, rfl, rfl⟩ ⟨rfl, rfl⟩ (by decide) (by decide) (Nat.le_of_ble_eq_true rfl) (fun M3 L3 ⟨y1, y2, y3⟩ => ?_)
        subst y1
        refine s_iinc dX10_writeMachines_37 rfl (by decide) rfl ?_
        refine r_goto 12 dX10_writeMachines_40 (by decide) ?_
        exact m_sub (ih _ (fw_t f5 y2) (by rw [wrL, ← List.append_assoc]; exact y3)) (by simp [a_sub, nI_succ])
      refine r_iload_n dX10_writeMachines_12 rfl ?_
      refine r_aload_n dX10_writeMachines_13 rfl ?_
      refine m_get 10 0 dX10_writeMachines_14 fl_X10_7 ob_model rfl ?_
      refine r_iconst_5 dX10_writeMachines_17 ?_
      refine m_iald 5 dX10_writeMachines_18 ai_a rfl (by omega) (by first | decide | assumption) ?_
      refine r_icmp_ge 43 dX10_writeMachines_19 (by decide) (fun z => absurd z (by rw [a2, wM.1]; exact nI_ge hk (by omega))) (fun _ => ?_)
      refine r_iload_n dX10_writeMachines_22 rfl ?_
      refine r_if_le 32 dX10_writeMachines_23 (by decide) (fun h23 => ?_) (fun h23 => ?_)
      · have h0 : k = 0 := by rw [show (0 : Int32) = nI 0 from rfl, nI_leI (by omega) (by omega)] at h23; omega
        exact c32 M2 f2 (by rw [if_pos h0, List.append_nil]; exact w2)
      · have h0 : k ≠ 0 := by rw [show (0 : Int32) = nI 0 from rfl, nI_leI (by omega) (by omega)] at h23; omega
        refine r_aload_n dX10_writeMachines_26 rfl ?_
        refine r_bipush 32 dX10_writeMachines_27 (by decide) ?_
        refine m_pv1 dX10_writeMachines_29 cv_X10_289 (c_X10_says w2 (by omega)) ob_model ⟨_, rfl, rfl⟩ ⟨rfl, rfl⟩ (by decide) (by decide) (Nat.le_of_ble_eq_true rfl) (fun M3 L3 ⟨y1, y2, y3⟩ => ?_)
        subst y1
        exact c32 _ (fw_t f2 y2) (by rw [if_neg h0]; exact y3)
  refine r_iconst_0 dX10_writeMachines_10 ?_
  refine s_istore_n 1 dX10_writeMachines_11 (by decide) rfl rfl ?_
  exact m_sub (lp 0 (Nat.zero_le _) M1 fw_r ⟨by rw [z4]; rfl, fun k c hk => by simp [wrL] at hk⟩) (by simp [a_sub, nI_0])
end WRM
