/-! MORE ROWS ON A HEAP THAT GROWS -/
section CROWS2
variable {I : a_I} {pc uc us : Nat} {ls st : List Value} {pre l : List a_E} {Q : a_Q}
theorem x_iald {i n : Nat} {f : Nat → Int32} {q : Int32} (hd : decode (i_cc I) pc = .ok (.iaload, 1)) (hh : l[i]? = some (.inl (0, n, .inl f))) (hin : vp_in q n) (kk : AW I (pc + 1) ls (.int (f q.toNatClampNeg) :: st) (true, pre ++ l) uc us Q) : AW I pc ls (.int q :: .ref (pre.length + i) :: st) (true, pre ++ l) uc us Q :=
  r_iald hd (p_at.trans hh) hin kk
theorem x_newd {n : Int32} (N k : Nat) (hd : decode (i_cc I) pc = .ok (.newarray .double, 2)) (hw : Cond.arrayClass .double ∈ a_GT) (hn : ¬ n < 0) (hN : n.toNatClampNeg = N) (hb : N ≤ 65536) (hk : l.length = k) (hp : pre.length ≤ 400) (hk2 : k ≤ 400) (hu1 : uc + 1 ≤ i_mc I) (hv1 : us + N ≤ i_ms I)
    (kk : AW I (pc + 2) ls (.ref (pre.length + k) :: st) (true, pre ++ (l ++ [.inl (3, N, .inr (.inr (.inr (.inl (fun _ => 0)))))])) (uc + 1) (us + N) Q) : AW I pc ls (.int n :: st) (true, pre ++ l) uc us Q := by
  subst hk
  refine r_new_double N hd hw hn hN hb (by rw [List.length_append]; omega) hu1 hv1 ?_
  rw [List.length_append, List.append_assoc]; exact kk
end CROWS2
