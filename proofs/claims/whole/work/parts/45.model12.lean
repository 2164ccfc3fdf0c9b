/-! leaves by their worths -/
section RANK
variable {a : Row} {T : Nat}
theorem sumN_lt {f g : Nat → Nat} {n j : Nat} (h : ∀ k, k < n → f k ≤ g k) (hj : j < n) (hs : f j < g j) : sumN f n < sumN g n := by
  induction n with
  | zero => omega
  | succ n ih =>
    rw [sumN, sumN]
    by_cases z : j = n
    · subst z
      have := sumN_mono (f := f) (g := g) (n := j) (fun k hk => h k (by omega))
      omega
    · have := ih (fun k hk => h k (by omega)) (by omega)
      have := h n (by omega)
      omega
def bfo (a : Row) (o u : Nat) : Prop := wnS a u < wnS a o ∨ (wnS a o = wnS a u ∧ o < u)
theorem bfo_i {a : Row} {o u : Nat} : bfo a o u ↔ (wnS a u).toInt < (wnS a o).toInt ∨ ((wnS a o).toInt = (wnS a u).toInt ∧ o < u) := by
  unfold bfo
  rw [Int64.lt_iff_toInt_lt, Int64.toInt_inj]
theorem bfo_irr {u : Nat} : ¬ bfo a u u := by rw [bfo_i]; omega
theorem bfo_tot {u v : Nat} (h : u ≠ v) : bfo a u v ∨ bfo a v u := by rw [bfo_i, bfo_i]; omega
theorem bfo_asy {u v : Nat} (h : bfo a u v) : ¬ bfo a v u := by rw [bfo_i] at h; rw [bfo_i]; omega
theorem bfo_tr {u v w : Nat} (h : bfo a u v) (h2 : bfo a v w) : bfo a u w := by rw [bfo_i] at h h2; rw [bfo_i]; omega
noncomputable def lbN (a : Row) (u : Nat) : Nat := by
  classical
  exact sumN (fun o => if lfS a o ∧ bfo a o u then 1 else 0) (nu a)
theorem lbS_N (u : Nat) : lbS a u = nI (lbN a u) := by
  classical
  unfold lbS lbN
  refine sumI_nat (fun k hk => ?_)
  by_cases z : lfS a k ∧ bfo a k u
  · rw [if_pos z, if_pos (show lfS a k ∧ (wnS a u < wnS a k ∨ wnS a k = wnS a u ∧ k < u) from z)]; rfl
  · rw [if_neg z, if_neg (show ¬ (lfS a k ∧ (wnS a u < wnS a k ∨ wnS a k = wnS a u ∧ k < u)) from z)]; rfl
theorem lbN_mono {u v : Nat} (h : bfo a v u) (hv : v < nu a) (lv : lfS a v) : lbN a v < lbN a u := by
  classical
  unfold lbN
  refine sumN_lt (j := v) (fun k hk => ?_) hv ?_
  · by_cases z : lfS a k ∧ bfo a k v
    · rw [if_pos z, if_pos ⟨z.1, bfo_tr z.2 h⟩]; exact Nat.le_refl _
    · rw [if_neg z]; exact Nat.zero_le _
  · rw [if_neg (fun z => bfo_irr z.2), if_pos ⟨lv, h⟩]; exact Nat.zero_lt_one
theorem lbN_lt (h12 : nu a ≤ 12) (u : Nat) : lbN a u ≤ 12 := by
  classical
  unfold lbN
  have := sumN_mul (f := fun o => if lfS a o ∧ bfo a o u then 1 else 0) (n := nu a) (b := 1) (fun k hk => by split <;> omega)
  omega
noncomputable def cnN (a : Row) (n : Nat) : Nat := by
  classical
  exact sumN (fun u => if lfS a u ∧ lbN a u < n then 1 else 0) (nu a)
theorem cnN_le (n : Nat) : cnN a n ≤ nu a := by
  classical
  unfold cnN
  have := sumN_mul (f := fun u => if lfS a u ∧ lbN a u < n then 1 else 0) (n := nu a) (b := 1) (fun k hk => by split <;> omega)
  omega
/-- the best leaf of those not among the first n is the n-th -/
theorem rk_n {n u : Nat} (hu : u < nu a) (lu : lfS a u) (hn : n ≤ lbN a u) (hb : ∀ o, o < nu a → lfS a o → n ≤ lbN a o → ¬ bfo a o u) : lbN a u = cnN a n := by
  classical
  unfold cnN
  show sumN (fun o => if lfS a o ∧ bfo a o u then 1 else 0) (nu a) = _
  refine sumN_cong (fun o ho => ?_)
  have e : (lfS a o ∧ bfo a o u) ↔ (lfS a o ∧ lbN a o < n) := by
    refine ⟨fun z => ⟨z.1, ?_⟩, fun z => ⟨z.1, ?_⟩⟩
    · by_cases y : n ≤ lbN a o
      · exact absurd z.2 (hb o ho z.1 y)
      · omega
    · have hne : o ≠ u := fun y => by subst y; omega
      rcases bfo_tot (a := a) hne with y | y
      · exact y
      · have := lbN_mono y hu lu; omega
  by_cases z : lfS a o ∧ bfo a o u
  · rw [if_pos z, if_pos (e.mp z)]
  · rw [if_neg z, if_neg (fun y => z (e.mpr y))]
theorem rk_u {u v : Nat} (hu : u < nu a) (lu : lfS a u) (hv : v < nu a) (lv : lfS a v) (h : lbN a u = lbN a v) : u = v := by
  by_cases z : u = v
  · exact z
  · rcases bfo_tot (a := a) z with y | y
    · have := lbN_mono y hu lu; omega
    · have := lbN_mono y hv lv; omega
theorem cn_s {n u : Nat} (hu : u < nu a) (lu : lfS a u) (hn : lbN a u = n) : cnN a (n + 1) = cnN a n + 1 := by
  classical
  unfold cnN
  refine sumN_ch hu (fun k hk hne => ?_) ?_
  · have hx : ¬ (lfS a k ∧ lbN a k = n) := fun z => hne (rk_u hk z.1 hu lu (z.2.trans hn.symm))
    by_cases z : lfS a k ∧ lbN a k < n
    · rw [if_pos z, if_pos ⟨z.1, by omega⟩]
    · rw [if_neg z, if_neg (fun y => by
        by_cases w : lbN a k < n
        · exact z ⟨y.1, w⟩
        · exact hx ⟨y.1, by omega⟩)]
  · rw [if_pos ⟨lu, by omega⟩, if_neg (fun z => by omega)]
theorem cn_0 : cnN a 0 = 0 := by
  classical
  unfold cnN
  have := sumN_mul (f := fun u => if lfS a u ∧ lbN a u < 0 then 1 else 0) (n := nu a) (b := 0) (fun k hk => by simp)
  omega
/-- the search for the best of the rest -/
noncomputable def rkF (a : Row) (n : Nat) : Nat → Int32 := by
  classical
  exact fun k => Nat.rec (-1) (fun u r => if lfS a u ∧ n ≤ lbN a u ∧ (r = -1 ∨ wnS a (zN r) < wnS a u) then nI u else r) k
theorem rkF_0 {n : Nat} : rkF a n 0 = -1 := rfl
theorem rkF_y {n u : Nat} (h : lfS a u ∧ n ≤ lbN a u ∧ (rkF a n u = -1 ∨ wnS a (zN (rkF a n u)) < wnS a u)) : rkF a n (u + 1) = nI u := by
  classical
  exact if_pos h
theorem rkF_n {n u : Nat} (h : ¬ (lfS a u ∧ n ≤ lbN a u ∧ (rkF a n u = -1 ∨ wnS a (zN (rkF a n u)) < wnS a u))) : rkF a n (u + 1) = rkF a n u := by
  classical
  exact if_neg h
theorem rkF_ok {n : Nat} : ∀ k, k ≤ 12 → (rkF a n k = -1 ∧ ∀ o, o < k → lfS a o → ¬ n ≤ lbN a o) ∨ ∃ u, u < k ∧ rkF a n k = nI u ∧ lfS a u ∧ n ≤ lbN a u ∧ ∀ o, o < k → lfS a o → n ≤ lbN a o → ¬ bfo a o u := by
  intro k
  induction k with
  | zero => intro _; exact Or.inl ⟨rfl, fun o ho => by omega⟩
  | succ k ih =>
    intro hk
    rcases ih (by omega) with ⟨h1, h2⟩ | ⟨u, h1, h2, h3, h4, h5⟩
    · by_cases z : lfS a k ∧ n ≤ lbN a k
      · refine Or.inr ⟨k, by omega, rkF_y ⟨z.1, z.2, Or.inl h1⟩, z.1, z.2, fun o ho lo hn => ?_⟩
        by_cases y : o = k
        · subst y; exact bfo_irr
        · exact absurd hn (h2 o (by omega) lo)
      · refine Or.inl ⟨(rkF_n (fun y => z ⟨y.1, y.2.1⟩)).trans h1, fun o ho lo hn => ?_⟩
        by_cases y : o = k
        · subst y; exact z ⟨lo, hn⟩
        · exact h2 o (by omega) lo hn
    · have zu : zN (rkF a n k) = u := by rw [h2]; exact nI_clamp (by omega)
      by_cases z : lfS a k ∧ n ≤ lbN a k ∧ wnS a u < wnS a k
      · refine Or.inr ⟨k, by omega, rkF_y ⟨z.1, z.2.1, Or.inr (by rw [zu]; exact z.2.2)⟩, z.1, z.2.1, fun o ho lo hn hb => ?_⟩
        have hku : bfo a k u := Or.inl z.2.2
        by_cases y : o = k
        · subst y; exact bfo_irr hb
        · exact h5 o (by omega) lo hn (bfo_tr hb hku)
      · refine Or.inr ⟨u, by omega, (rkF_n (fun y => ?_)).trans h2, h3, h4, fun o ho lo hn hb => ?_⟩
        · rcases y.2.2 with w | w
          · rw [h2] at w; exact nI_m1 (by omega) w
          · rw [zu] at w; exact z ⟨y.1, y.2.1, w⟩
        · by_cases y : o = k
          · subst y
            rcases hb with w | w
            · exact z ⟨lo, hn, w⟩
            · omega
          · exact h5 o (by omega) lo hn hb
/-- what lkS finds -/
theorem lk_y (h12 : nu a ≤ 12) {u : Nat} {r : Int32} (hu : u < nu a) (lu : lfS a u) (h : r = nI (lbN a u)) : lkS a r = nI u := by
  unfold lkS
  have hl := fun v => lbS_N (a := a) v
  have hb := fun v => lbN_lt (a := a) h12 v
  rcases fstB_ok (fun u => decide (lfS a u ∧ lbS a u = r)) (nu a) (by omega) with ⟨h1, h2⟩ | ⟨v, hv, h1, h2⟩
  · have := h2 u hu
    rw [decide_eq_false_iff_not] at this
    exact absurd ⟨lu, (hl u).trans h.symm⟩ this
  · have h3 := of_decide_eq_true h2
    rw [h1, rk_u hu lu hv h3.1 ((nI_eq (by have := hb u; omega) (by have := hb v; omega)).mp (h.symm.trans (h3.2.symm.trans (hl v))))]
theorem lk_n (h12 : nu a ≤ 12) {r : Int32} (h : ∀ u, u < nu a → lfS a u → r ≠ nI (lbN a u)) : lkS a r = -1 := by
  unfold lkS
  rcases fstB_ok (fun u => decide (lfS a u ∧ lbS a u = r)) (nu a) (by omega) with ⟨h1, h2⟩ | ⟨v, hv, h1, h2⟩
  · exact h1
  · have h3 := of_decide_eq_true h2
    exact absurd (h3.2.symm.trans (lbS_N v)) (h v hv h3.1)
end RANK
section MASK
/-! bits of the mask -/
theorem sh_c : ∀ u : Fin 12, ((nI u.val).toInt64 &&& 63) = Int64.ofNat u.val := by decide
def dB (d : Int64) (u : Nat) : Prop := d.toBitVec.getLsbD u = true
theorem one_b {x : Int64} : x &&& 1 = 1 ↔ x.toBitVec.getLsbD 0 = true := by
  rw [← Int64.toBitVec_inj, Int64.toBitVec_and]
  rw [show (1 : Int64).toBitVec = 1#64 from rfl, BitVec.and_one_eq_setWidth_ofBool_getLsbD]
  cases x.toBitVec.getLsbD 0 <;> decide
theorem shr_b {d : Int64} {u : Nat} (hu : u < 12) : ((d >>> ((nI u).toInt64 &&& 63)) &&& 1 = 1) ↔ dB d u := by
  rw [sh_c ⟨u, hu⟩, one_b]
  unfold dB
  rw [Int64.toBitVec_shiftRight]
  have e : (BitVec.smod (Int64.ofNat u).toBitVec 64).toNat = u := by
    rcases (show u = 0 ∨ u = 1 ∨ u = 2 ∨ u = 3 ∨ u = 4 ∨ u = 5 ∨ u = 6 ∨ u = 7 ∨ u = 8 ∨ u = 9 ∨ u = 10 ∨ u = 11 by omega) with z | z | z | z | z | z | z | z | z | z | z | z <;> subst z <;> decide
  unfold BitVec.sshiftRight'
  rw [e, BitVec.getLsbD_sshiftRight]
  simp
  omega
theorem shl_b {d : Int64} {u f : Nat} (hu : u < 12) (hf : f < 12) : dB (d ||| ((1 : Int64) <<< ((nI f).toInt64 &&& 63))) u ↔ dB d u ∨ u = f := by
  rw [sh_c ⟨f, hf⟩]
  unfold dB
  rw [Int64.toBitVec_or, BitVec.getLsbD_or, Int64.toBitVec_shiftLeft]
  have e : (BitVec.smod (Int64.ofNat f).toBitVec 64).toNat = f := by
    rcases (show f = 0 ∨ f = 1 ∨ f = 2 ∨ f = 3 ∨ f = 4 ∨ f = 5 ∨ f = 6 ∨ f = 7 ∨ f = 8 ∨ f = 9 ∨ f = 10 ∨ f = 11 by omega) with z | z | z | z | z | z | z | z | z | z | z | z <;> subst z <;> decide
  rw [show (1 : Int64).toBitVec = 1#64 from rfl]
  rw [show (1#64 <<< (BitVec.smod (Int64.ofNat f).toBitVec 64)) = 1#64 <<< f from by rw [BitVec.shiftLeft_eq', e]]
  rw [BitVec.getLsbD_shiftLeft]
  by_cases z : u = f
  · subst z; simp; omega
  · simp [z]
    intro h1 h2 h3
    omega
theorem dB_0 {u : Nat} : ¬ dB 0 u := by unfold dB; simp
end MASK
section MODEL12
variable {M : Nat → Nat → Int32} {L : Nat → Nat → Int64} {dd : UInt64} {a a' : Row} {R R' : List Row} {T B : Nat} {thr c : Int32} {V : Value → Prop} {x : Value} {Q : a_Q}
def thP (a : Row) (u : Int32) : Int32 := if ¬ (0 ≤ u ∧ u < a 4) then 1 else if allU a = 0 then 2 else 0
theorem c_X10_part {u : Int32} (hA : M 318 = a) (hR : MH M R) (hW : WF T a) : MQa yX10_part I_X10_part [.ref 317, .int u] M L dd (thP a u) (fun x => x = .float (FP.fdiv (FP.i2f (sbS a u (fun k => a (34 + k)))) (FP.i2f (allU a)))) a a R R := by
  have wU := hW.1
  have h12 := wU.2.2.1
  refine mq_mk (fun Q hq => ?_)
  refine a_met (by decide +kernel) rfl rfl (Nat.le_of_ble_eq_true rfl) (by simp [Value.category]) (by decide) rfl ?_
  show AW I_X10_part 0 [.ref 317, .int u] [] (hS M L dd) 0 0 Q
  refine r_aload_n dX10_part_0 rfl ?_
  refine r_aload_n dX10_part_1 rfl ?_
  refine r_iload_n dX10_part_2 rfl ?_
  refine m_cv1 dX10_part_3 cv_X10_192 (c_X10_isUser hA wU.1 h12) rfl ob_model ⟨_, rfl, rfl⟩ ⟨rfl, rfl⟩ (by decide) (by decide) (Nat.le_of_ble_eq_true rfl) ?_
  refine r_if_ne 13 dX10_part_6 (by decide) (fun h6 => ?_) (fun h6 => ?_)
  · rw [bI_0, Decidable.not_not] at h6
    refine r_aload_n dX10_part_13 rfl ?_
    refine r_iconst_0 dX10_part_14 ?_
    refine m_cv1 dX10_part_15 cv_X10_198 (c_X10_useOf hA wU (by decide)) rfl ob_model ⟨_, rfl, rfl⟩ ⟨rfl, rfl⟩ (by decide) (by decide) (Nat.le_of_ble_eq_true rfl) ?_
    refine r_if_ne 25 dX10_part_18 (by decide) (fun h18 => ?_) (fun h18 => ?_)
    · have eA : (mU M 317 (upd (M 317) 5 0)) 318 = a := by rw [mU_n (by omega)]; exact hA
      refine r_iconst_0 dX10_part_25 ?_
      refine m_put 10 5 dX10_part_26 fl_X10_42 (fun r hr => by cases hr; rfl) ob_model (Nat.le_of_ble_eq_true rfl) rfl ?_
      refine r_aload_n dX10_part_29 rfl ?_
      refine m_get 10 5 dX10_part_30 fl_X10_42 ob_model rfl ?_
      refine r_if_le 40 dX10_part_33 (by decide) (fun _ => ?_) (fun z => absurd (by rw [mU_s, upd_eq]; decide) z)
      refine r_aload_n dX10_part_40 rfl ?_
      refine r_iload_n dX10_part_41 rfl ?_
      refine m_cv1 dX10_part_42 cv_X10_198 (c_X10_useOf eA wU h6.1) rfl ob_model ⟨_, rfl, rfl⟩ ⟨rfl, rfl⟩ (by decide) (by decide) (Nat.le_of_ble_eq_true rfl) ?_
      refine r_i2f dX10_part_45 ?_
      refine r_aload_n dX10_part_46 rfl ?_
      refine r_iconst_0 dX10_part_47 ?_
      refine m_cv1 dX10_part_48 cv_X10_198 (c_X10_useOf eA wU (by decide)) rfl ob_model ⟨_, rfl, rfl⟩ ⟨rfl, rfl⟩ (by decide) (by decide) (Nat.le_of_ble_eq_true rfl) ?_
      refine r_i2f dX10_part_51 ?_
      refine r_fdiv dX10_part_52 (fdiv_ok _ _ h18) ?_
      exact r_fret dX10_part_53 rfl (mq_v hq hA hR (by rw [thP, if_neg (not_not_intro h6), if_neg h18]) rfl)
    · refine r_iconst_2 dX10_part_21 ?_
      refine r_goto 26 dX10_part_22 (by decide) ?_
      refine m_put 10 5 dX10_part_26 fl_X10_42 (fun r hr => by cases hr; rfl) ob_model (Nat.le_of_ble_eq_true rfl) rfl ?_
      refine r_aload_n dX10_part_29 rfl ?_
      refine m_get 10 5 dX10_part_30 fl_X10_42 ob_model rfl ?_
      refine r_if_le 40 dX10_part_33 (by decide) (fun z => absurd z (by rw [mU_s, upd_eq]; decide)) (fun _ => ?_)
      refine r_fconst0 dX10_part_36 ?_
      refine r_goto 53 dX10_part_37 (by decide) ?_
      exact r_fret dX10_part_53 rfl (mq_t hq hA hR (by decide) (by rw [thP, if_neg (not_not_intro h6), if_pos h18]))
  · rw [bI_0] at h6
    refine r_iconst_1 dX10_part_9 ?_
    refine r_goto 26 dX10_part_10 (by decide) ?_
    refine m_put 10 5 dX10_part_26 fl_X10_42 (fun r hr => by cases hr; rfl) ob_model (Nat.le_of_ble_eq_true rfl) rfl ?_
    refine r_aload_n dX10_part_29 rfl ?_
    refine m_get 10 5 dX10_part_30 fl_X10_42 ob_model rfl ?_
    refine r_if_le 40 dX10_part_33 (by decide) (fun z => absurd z (by rw [mU_s, upd_eq]; decide)) (fun _ => ?_)
    refine r_fconst0 dX10_part_36 ?_
    refine r_goto 53 dX10_part_37 (by decide) ?_
    exact r_fret dX10_part_53 rfl (mq_t hq hA hR (by decide) (by rw [thP, if_pos h6]))
end MODEL12
