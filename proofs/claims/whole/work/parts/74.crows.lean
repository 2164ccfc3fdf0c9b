/-! ROWS ON A HEAP THAT GROWS: what was there, and the cells of one's own -/
theorem p_at {pre l : List a_E} {i : Nat} : (pre ++ l)[pre.length + i]? = l[i]? := by
  rw [List.getElem?_append_right (by omega), Nat.add_sub_cancel_left]
theorem p_set {pre l : List a_E} {i : Nat} {e : a_E} : (pre ++ l).set (pre.length + i) e = pre ++ l.set i e := by
  rw [List.set_append_right _ _ (by omega), Nat.add_sub_cancel_left]
section CROWS
variable {I : a_I} {pc uc us : Nat} {ls st : List Value} {pre l : List a_E} {Q : a_Q}
theorem x_get {ix i : Nat} (ci k : Nat) {vs : List Value} {v : Value} (hd : decode (i_cc I) pc = .ok (.getfield ix, 3)) (hf : a_FL (i_own I) ix ci k) (hh : l[i]? = some (.inr (ci, vs))) (hv : vs[k]? = some v) (kk : AW I (pc + 3) ls (v :: st) (true, pre ++ l) uc us Q) : AW I pc ls (.ref (pre.length + i) :: st) (true, pre ++ l) uc us Q :=
  r_get ci k hd hf (p_at.trans hh) hv kk
theorem x_put {ix i : Nat} (ci k : Nat) {vs : List Value} {x : Int32} (hd : decode (i_cc I) pc = .ok (.putfield ix, 3)) (hf : a_FL (i_own I) ix ci k) (hfin : ∀ r, a_cls[ci]? = some r → (r.2.1 k).2.2 = ("I", false)) (hh : l[i]? = some (.inr (ci, vs))) (hl : k < vs.length)
    (kk : AW I (pc + 3) ls st (true, pre ++ l.set i (.inr (ci, vs.set k (.int x)))) uc us Q) : AW I pc ls (.int x :: .ref (pre.length + i) :: st) (true, pre ++ l) uc us Q := by
  refine r_put ci k hd hf hfin (p_at.trans hh) hl ?_
  show AW I (pc + 3) ls st (true, (pre ++ l).set _ _) uc us Q
  rw [p_set]; exact kk
theorem x_putF {ix i b : Nat} (ci k : Nat) {vs : List Value} (hd : decode (i_cc I) pc = .ok (.putfield ix, 3)) (hf : a_FL (i_own I) ix ci k) (hini : i_ini I = true) (hfin : ∀ r, a_cls[ci]? = some r → (r.2.1 k).2.2.2 = true ∧ r.1 = i_own I) (hfit : ∀ a : Nat, narrow (a_tyf ci k) (.ref a) = .ref a ∧ fits (a_tyf ci k) (.ref a) = true) (hh : l[i]? = some (.inr (ci, vs))) (hl : k < vs.length)
    (kk : AW I (pc + 3) ls st (true, pre ++ l.set i (.inr (ci, vs.set k (.ref b)))) uc us Q) : AW I pc ls (.ref b :: .ref (pre.length + i) :: st) (true, pre ++ l) uc us Q := by
  refine r_putF ci k hd hf hini hfin hfit (p_at.trans hh) hl ?_
  show AW I (pc + 3) ls st (true, (pre ++ l).set _ _) uc us Q
  rw [p_set]; exact kk
theorem x_iast {i n : Nat} {f : Nat → Int32} {q : Int32} {x : Int32} (hd : decode (i_cc I) pc = .ok (.iastore, 1)) (hh : l[i]? = some (.inl (0, n, .inl f))) (hin : vp_in q n) (kk : AW I (pc + 1) ls st (true, pre ++ l.set i (.inl (0, n, .inl (upd f q.toNatClampNeg x)))) uc us Q) : AW I pc ls (.int x :: .int q :: .ref (pre.length + i) :: st) (true, pre ++ l) uc us Q := by
  refine r_iast hd (p_at.trans hh) hin ?_
  show AW I (pc + 1) ls st (true, (pre ++ l).set _ _) uc us Q
  rw [p_set]; exact kk
theorem x_newi {n : Int32} (N k : Nat) (hd : decode (i_cc I) pc = .ok (.newarray .int, 2)) (hw : Cond.arrayClass .int ∈ a_GT) (hn : ¬ n < 0) (hN : n.toNatClampNeg = N) (hb : N ≤ 65536) (hk : l.length = k) (hp : pre.length ≤ 400) (hk2 : k ≤ 400) (hu1 : uc + 1 ≤ i_mc I) (hv1 : us + N ≤ i_ms I)
    (kk : AW I (pc + 2) ls (.ref (pre.length + k) :: st) (true, pre ++ (l ++ [.inl (0, N, .inl (fun _ => 0))])) (uc + 1) (us + N) Q) : AW I pc ls (.int n :: st) (true, pre ++ l) uc us Q := by
  subst hk
  refine r_new_int N hd hw hn hN hb (by rw [List.length_append]; omega) hu1 hv1 ?_
  rw [List.length_append, List.append_assoc]; exact kk
theorem x_newb {n : Int32} (N k : Nat) (hd : decode (i_cc I) pc = .ok (.newarray .byte, 2)) (hw : Cond.arrayClass .byte ∈ a_GT) (hn : ¬ n < 0) (hN : n.toNatClampNeg = N) (hb : N ≤ 65536) (hk : l.length = k) (hp : pre.length ≤ 400) (hk2 : k ≤ 400) (hu1 : uc + 1 ≤ i_mc I) (hv1 : us + N ≤ i_ms I)
    (kk : AW I (pc + 2) ls (.ref (pre.length + k) :: st) (true, pre ++ (l ++ [.inl (1, N, .inl (fun _ => 0))])) (uc + 1) (us + N) Q) : AW I pc ls (.int n :: st) (true, pre ++ l) uc us Q := by
  subst hk
  refine r_new_byte N hd hw hn hN hb (by rw [List.length_append]; omega) hu1 hv1 ?_
  rw [List.length_append, List.append_assoc]; exact kk
theorem x_newl {n : Int32} (N k : Nat) (hd : decode (i_cc I) pc = .ok (.newarray .long, 2)) (hw : Cond.arrayClass .long ∈ a_GT) (hn : ¬ n < 0) (hN : n.toNatClampNeg = N) (hb : N ≤ 65536) (hk : l.length = k) (hp : pre.length ≤ 400) (hk2 : k ≤ 400) (hu1 : uc + 1 ≤ i_mc I) (hv1 : us + N ≤ i_ms I)
    (kk : AW I (pc + 2) ls (.ref (pre.length + k) :: st) (true, pre ++ (l ++ [.inl (2, N, .inr (.inl (fun _ => 0)))])) (uc + 1) (us + N) Q) : AW I pc ls (.int n :: st) (true, pre ++ l) uc us Q := by
  subst hk
  refine r_new_long N hd hw hn hN hb (by rw [List.length_append]; omega) hu1 hv1 ?_
  rw [List.length_append, List.append_assoc]; exact kk
theorem x_new {ix : Nat} (ci k : Nat) (fs : List Value) {r : vw_C} (hd : decode (i_cc I) pc = .ok (.new ix, 3)) (hr : a_cls[ci]? = some r) (hw1 : Cond.classLink (i_own I) ix r.1 ∈ a_GT) (hw2 : Cond.instantiable r.1 r.2.2 ∈ a_GT) (hw3 : Cond.initialized r.1 ∈ a_GT) (hin : ∀ w ∈ u_ws r.1 r.2.1 r.2.2, w ∈ a_GT)
    (hfs : ∀ j, j < r.2.2 → defaultValue (a_tyf ci j) = vp_V fs j) (hfc : ∀ V : a_V, fs.map (a_cv V) = fs) (hk : l.length = k) (hp : pre.length ≤ 400) (hk2 : k ≤ 400) (hu1 : uc + 1 ≤ i_mc I) (hv1 : us + r.2.2 ≤ i_ms I)
    (kk : AW I (pc + 3) ls (.ref (pre.length + k) :: st) (true, pre ++ (l ++ [.inr (ci, fs)])) (uc + 1) (us + r.2.2) Q) : AW I pc ls st (true, pre ++ l) uc us Q := by
  subst hk
  refine r_new ci fs hd hr hw1 hw2 hw3 hin hfs hfc (by rw [List.length_append]; omega) hu1 hv1 ?_
  rw [List.length_append, List.append_assoc]; exact kk
end CROWS
