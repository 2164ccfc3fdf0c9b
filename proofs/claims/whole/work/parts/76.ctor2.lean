/-! CALLS ON A HEAP THAT GROWS; the tree's constructor -/
section CCALL
variable {I : a_I} {pc uc us : Nat} {ls st : List Value} {pre l l' : List a_E} {Q : a_Q}
theorem x_ci {ix c : Nat} {y : MethodName} {I' : a_I} (hd : decode (i_cc I) pc = .ok (.invokespecial ix, 3)) (hc : a_CI (i_own I) ix y I' 0) (hM : ∀ Q' : a_Q, Q' (.inl none) (true, pre ++ l') → AM y I' [.ref c] (true, pre ++ l) Q') (hlen : l'.length = l.length + i_mc I') (hp : pre.length ≤ 400) (hl4 : l'.length ≤ 400)
    (hd1 : i_d I' + 1 ≤ i_d I) (hnl : i_nL I' ≤ 40) (hst : (st.map fun v => v.category).sum ≤ 8) (hu : uc + i_mc I' ≤ i_mc I) (hv : us + i_ms I' ≤ i_ms I) (kk : AW I (pc + 3) ls st (true, pre ++ l') (uc + i_mc I') (us + i_ms I') Q) : AW I pc ls (.ref c :: st) (true, pre ++ l) uc us Q := by
  refine r_callI (As := []) hd hc (hM (fun o h => o = .inl none ∧ h = (true, pre ++ l')) ⟨rfl, rfl⟩) rfl ⟨hd1, hnl, hst, hu, hv⟩ ⟨?_, ?_⟩
  · rintro v h2 ⟨e, rfl⟩
    cases e
    exact ⟨fun _ => ⟨rfl, by show (pre ++ l').length = (pre ++ l).length + _; rw [List.length_append, List.length_append]; omega, by show (pre ++ l').length ≤ 5000; rw [List.length_append]; omega⟩, kk⟩
  · rintro E h2 ⟨e, rfl⟩
    cases e
theorem x_cv {ix i ci : Nat} {vs : List Value} {y : MethodName} {I' : a_I} (hd : decode (i_cc I) pc = .ok (.invokevirtual ix, 3)) (hc : a_CV (i_own I) ix y I' 0) (hM : ∀ Q' : a_Q, Q' (.inl none) (true, pre ++ l') → AM y I' [.ref (pre.length + i)] (true, pre ++ l) Q') (hcell : l[i]? = some (.inr (ci, vs))) (hci : ∃ r, a_cls[ci]? = some r ∧ r.1 = y.cls) (hz : i_mc I' = 0 ∧ i_ms I' = 0) (hlen : l'.length = l.length) (hp : pre.length ≤ 400) (hl4 : l'.length ≤ 400)
    (hd1 : i_d I' + 1 ≤ i_d I) (hnl : i_nL I' ≤ 40) (hst : (st.map fun v => v.category).sum ≤ 8) (hu : uc ≤ i_mc I) (hv : us ≤ i_ms I) (kk : AW I (pc + 3) ls st (true, pre ++ l') uc us Q) : AW I pc ls (.ref (pre.length + i) :: st) (true, pre ++ l) uc us Q := by
  refine r_callV (As := []) hd hc (hM (fun o h => o = .inl none ∧ h = (true, pre ++ l')) ⟨rfl, rfl⟩) rfl (p_at.trans hcell) hci ⟨hd1, hnl, hst, by omega, by omega⟩ ⟨?_, ?_⟩
  · rintro v h2 ⟨e, rfl⟩
    cases e
    rw [hz.1, hz.2]
    exact ⟨fun _ => ⟨rfl, by show (pre ++ l').length = (pre ++ l).length + _; rw [List.length_append, List.length_append]; omega, by show (pre ++ l').length ≤ 5000; rw [List.length_append]; omega⟩, kk⟩
  · rintro E h2 ⟨e, rfl⟩
    cases e
end CCALL
