/-! THE LAST BLOCKS: writeMachines, part, append, load -/
theorem rdN_er {g : Nat → Int32} {n : Nat} {lo hi : Int32} {s : PS} (h : (rdN g n lo hi s).2.er = 0) : s.er = 0 := by
  unfold rdN at h
  by_cases h0 : s.er = 0
  · exact h0
  · rw [if_neg h0] at h; exact h
theorem q3_er {g : Nat → Int32} {n : Nat} {t : Int32 → Bool} {s1 : PS} {v : Int32 × PS} (h : (q3P g n t s1 v).er = 0) : v.2.er = 0 := by
  unfold q3P at h
  split at h
  · exact absurd h (fl_c (by decide)).2.2
  · exact h
theorem q1_er {full : Bool} {st : Nat} {s : PS} (h : (q1P full st s).er = 0) : s.er = 0 := (q1_c.2.2 h).1
theorem prs_er {g : Nat → Int32} {n : Nat} {f : Nat} {s : PS} (h : (prs g n f s).er = 0) : s.er = 0 := by
  cases f with
  | zero => exact h
  | succ f =>
    rw [prs] at h
    by_cases h0 : s.er = 0
    · exact h0
    · rw [if_neg h0] at h; exact h
section EA
variable {g : Nat → Int32} {n : Nat}
theorem fl_ea {c : Int32} {p : Nat} {s : PS} (hc : c ≠ 0) (h : (flP c p s).er = 0) : False := (fl_c (s := s) (p := p) hc).2.2 h
theorem rdN_ea {lo hi : Int32} {s : PS} (h : (rdN g n lo hi s).2.er = 0) : (rdN g n lo hi s).2.ea = s.ea := by
  unfold rdN at h ⊢
  by_cases h0 : s.er = 0
  · rw [if_pos h0] at h ⊢
    split at h
    · exact absurd h (show ¬ (-2 : Int32) = 0 by decide)
    · rename_i h1
      rw [if_neg h1]
      split at h
      · exact absurd h (show ¬ (-3 : Int32) = 0 by decide)
      · rename_i h2
        rw [if_neg h2]
  · rw [if_neg h0] at h ⊢
theorem q1_ea {full : Bool} {st : Nat} {s : PS} (h : (q1P full st s).er = 0) : (q1P full st s).ea = s.ea := by
  unfold q1P at h ⊢
  split at h
  · exact (fl_ea (by decide) h).elim
  · rename_i h1; rw [if_neg h1]
theorem q3_ea {t : Int32 → Bool} {s1 : PS} {v : Int32 × PS} (h : (q3P g n t s1 v).er = 0) : (q3P g n t s1 v).ea = v.2.ea := by
  unfold q3P at h ⊢
  split at h
  · exact (fl_ea (by decide) h).elim
  · rename_i h1; rw [if_neg h1]
theorem q5_ea {f : Int32 → Row} {v : Int32 × PS} : (q5P f v).ea = v.2.ea := by
  unfold q5P
  split <;> rfl
theorem rdP_ea {full : Bool} {st : Nat} {t : Int32 → Bool} {h1 h2 : Int32} {f : Int32 → Int32 → Row} {s : PS} (h : (rdP g n full st t h1 h2 f s).er = 0) : (rdP g n full st t h1 h2 f s).ea = s.ea := by
  unfold rdP at h ⊢
  rw [q5_ea]
  have e1 := (q5_c (f := f (rdN g n 0 h1 (q1P full st s)).1) (v := rdN g n 1 h2 (q3P g n t (q1P full st s) (rdN g n 0 h1 (q1P full st s))))).2.1
  rw [e1] at h
  rw [rdN_ea h]
  have z1 := rdN_er h
  rw [q3_ea z1]
  have z2 := q3_er z1
  rw [rdN_ea z2]
  exact q1_ea (rdN_er z2)
theorem rdM_ea {st : Nat} {s : PS} (h : (rdMs g n st s).er = 0) : (rdMs g n st s).ea = s.ea := by
  unfold rdMs at h ⊢
  rw [q5_ea]
  have e1 := (q5_c (f := fun v => adM s.ra v) (v := rdN g n 1 4 (q1P (decide (6 ≤ nm s.ra)) st s))).2.1
  rw [e1] at h
  rw [rdN_ea h]
  exact q1_ea (rdN_er h)
theorem rdS_ea {k : Nat} {s : PS} (h : (rdSs g n k s).er = 0) : (rdSs g n k s).ea = s.ea := by
  unfold rdSs at h ⊢
  rw [q5_ea]
  have e1 := (q5_c (f := fun v => upd s.ra (1 + k) v) (v := rdN g n ((a_sv 1).getD k 0) ((a_sv 2).getD k 0) s)).2.1
  rw [e1] at h
  exact rdN_ea h
theorem rdU_ea {st : Nat} {s : PS} (h : (rdUs g n st s).er = 0) : (rdUs g n st s).ea = s.ea := by
  unfold rdUs at h ⊢
  exact rdP_ea h
theorem rdJ_ea {st : Nat} {s : PS} (h : (rdJs g n st s).er = 0) : (rdJs g n st s).ea = s.ea := by
  unfold rdJs at h ⊢
  exact rdP_ea h
theorem stB_ea {st : Nat} {s : PS} (h : (stB g n st s).er = 0) : (stB g n st s).ea = s.ea := by
  unfold stB at h ⊢
  split at h
  · rename_i k; rw [if_pos k]; exact rdU_ea h
  · rename_i k; rw [if_neg k]
    split at h
    · rename_i k; rw [if_pos k]; exact rdM_ea h
    · rename_i k; rw [if_neg k]
      split at h
      · rename_i k; rw [if_pos k]; exact rdJ_ea h
      · rename_i k; rw [if_neg k]
        split at h
        · rename_i k; rw [if_pos k]; exact rdS_ea h
        · rename_i k; rw [if_neg k]
          split at h
          · rename_i k; rw [if_pos k]; exact rdS_ea h
          · rename_i k; rw [if_neg k]
            split at h
            · rename_i k; rw [if_pos k]; exact rdS_ea h
            · exact (fl_ea (by decide) h).elim
theorem rdC_ea {s : PS} (h : (rdC g n s).er = 0) : (rdC g n s).ea = s.ea ∧ s.er = 0 := by
  unfold rdC at h ⊢
  by_cases h0 : s.er = 0
  · rw [if_pos h0] at h ⊢
    split at h
    · rename_i k; rw [if_pos k]; exact ⟨rfl, h0⟩
    · exact absurd h (show ¬ (-2 : Int32) = 0 by decide)
  · rw [if_neg h0] at h; exact absurd h h0
theorem stm_ea {s : PS} (h : (stm g n s).er = 0) : (stm g n s).ea = s.ea := by
  unfold stm at h ⊢
  obtain ⟨h1, h2⟩ := rdC_ea h
  rw [h1, stB_ea h2]
theorem prs_ea : ∀ f (s : PS), (prs g n f s).er = 0 → (prs g n f s).ea = s.ea := by
  intro f
  induction f with
  | zero => exact fun s _ => rfl
  | succ f ih =>
    intro s h
    rw [prs] at h ⊢
    by_cases h0 : s.er = 0
    · rw [if_pos h0] at h ⊢
      by_cases h1 : skp g n s.po < n
      · rw [if_pos h1] at h ⊢
        rw [ih _ h]
        exact stm_ea (prs_er h)
      · rw [if_neg h1]
    · rw [if_neg h0]
end EA
