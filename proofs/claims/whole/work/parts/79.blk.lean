/-! NEW CELLS BY BLOCKS -/
def kz_0 : Nat → Int32 := fun _ => 0
def kz_P : Nat → Int32 := fun j => if j = 0 then -1 else 0
def kz_B : Nat → Int32 := fun j => if j = 0 then 1000000 else 0
def kz_S : Nat → Int32 := va_cpy (fun j => (a_sv 0).getD j 0) kz_0 0 0 3
theorem kz_u1 : upd kz_P (Int32.toNatClampNeg 0) (-1) = kz_P := by
  funext j
  show (if j = 0 then (-1 : Int32) else kz_P j) = kz_P j
  unfold kz_P
  split <;> rfl
theorem kz_u2 : upd kz_0 (Int32.toNatClampNeg 0) 0 = kz_0 := by
  funext j
  show (if j = 0 then (0 : Int32) else kz_0 j) = kz_0 j
  unfold kz_0
  split <;> rfl
theorem kz_u3 : upd kz_B (Int32.toNatClampNeg 0) 1000000 = kz_B := by
  funext j
  show (if j = 0 then (1000000 : Int32) else kz_B j) = kz_B j
  unfold kz_B
  split <;> rfl
theorem kz_u4 : upd (fun _ => 0) (Int32.toNatClampNeg 0) 0 = kz_0 := kz_u2
def kb_T (n : Nat) : List a_E := [.inr (8, [.int 1, .ref (n + 1), .ref (n + 2), .ref (n + 3), .ref (n + 4)]), .inl (0, 12, .inl kz_P), .inl (0, 12, .inl kz_0), .inl (0, 12, .inl kz_0), .inl (0, 12, .inl kz_B)]
def kb_L (n : Nat) : List a_E := [.inr (2, [.int 0, .ref (n + 1), .ref (n + 2), .ref (n + 3), .ref (n + 4), .ref (n + 5)]), .inl (0, 8, .inl kz_0), .inl (0, 8, .inl kz_0), .inl (0, 8, .inl kz_0), .inl (0, 8, .inl kz_0), .inl (0, 8, .inl kz_0)]
def kb_M (n : Nat) : List a_E := [.inr (3, [.int 0, .ref (n + 1), .ref (n + 2)]), .inl (0, 6, .inl kz_0), .inl (0, 6, .inl kz_0)]
def kb_J (n : Nat) : List a_E := [.inr (1, [.int 0, .ref (n + 1), .ref (n + 2), .ref (n + 3), .ref (n + 4), .ref (n + 5), .ref (n + 6), .ref (n + 7)]), .inl (0, 30, .inl kz_0), .inl (0, 30, .inl kz_0), .inl (0, 30, .inl kz_0), .inl (0, 30, .inl kz_0), .inl (0, 30, .inl kz_0), .inl (0, 30, .inl kz_0), .inl (0, 30, .inl kz_0)]
def kb_S (n : Nat) : List a_E := [.inr (6, [.ref (n + 1), .ref (n + 2), .ref (n + 3), .ref (n + 4), .ref (n + 5), .ref (n + 6)]), .inl (0, 12, .inl kz_0), .inl (0, 12, .inl kz_0), .inl (0, 12, .inl kz_0), .inl (0, 6, .inl kz_0), .inl (2, 12, .inr (.inl (fun _ => 0))), .inl (2, 12, .inr (.inl (fun _ => 0)))]
def kb_N (n : Nat) : List a_E := [.inr (4, [.int 0, .ref (n + 1)]), .inl (1, 128, .inl kz_0)]
def kb_X (n : Nat) : List a_E := [.inr (7, [.int 0, .int 0, .int (-1), .ref (n + 1), .int 0, .int 0, .int 0]), .inl (1, 600, .inl kz_0)]
/-- a constructor: from a cell with the fields' first values to a block of cells -/
def IB (y : MethodName) (I : a_I) (ci : Nat) (fs : List Value) (blk : Nat → List a_E) : Prop :=
  ∀ (pre : List a_E) (n : Nat) (Q : a_Q), pre.length = n → n + 1 + i_mc I ≤ 400 → Q (.inl none) (true, pre ++ blk n) → AM y I [.ref n] (true, pre ++ [.inr (ci, fs)]) Q
theorem ib_1 : IB yX1_init I_X1_init 1 [.int 0, .null, .null, .null, .null, .null, .null, .null] kb_J := fun _ _ _ hn hp hq => i_X1 hn (by omega) hq
theorem ib_2 : IB yX2_init I_X2_init 2 [.int 0, .null, .null, .null, .null, .null] kb_L := fun _ _ _ hn hp hq => i_X2 hn (by omega) hq
theorem ib_3 : IB yX3_init I_X3_init 3 [.int 0, .null, .null] kb_M := fun _ _ _ hn hp hq => i_X3 hn (by omega) hq
theorem ib_4 : IB yX4_init I_X4_init 4 [.int 0, .null] kb_N := fun _ _ _ hn hp hq => i_X4 hn (by omega) hq
theorem ib_6 : IB yX6_init I_X6_init 6 [.null, .null, .null, .null, .null, .null] kb_S := fun _ _ _ hn hp hq => i_X6 hn (by omega) hq
theorem ib_7 : IB yX7_init I_X7_init 7 [.int 0, .int 0, .int 0, .null, .int 0, .int 0, .int 0] kb_X := fun _ _ _ hn hp hq => i_X7 hn (by omega) hq
theorem ib_8 : IB yX8_init I_X8_init 8 [.int 0, .null, .null, .null, .null] kb_T := fun _ _ _ hn hp hq => i_X8 hn (by omega) (by
  rw [kz_u4]; exact hq)
section CMK
variable {I : a_I} {pc uc us : Nat} {ls st : List Value} {pre l : List a_E} {Q : a_Q}
/-- new, dup and the constructor without arguments -/
theorem x_mk {ix ic ci : Nat} {fs : List Value} {r : vw_C} {y : MethodName} {I' : a_I} {blk : Nat → List a_E} (k : Nat) (hd : decode (i_cc I) pc = .ok (.new ix, 3)) (hd2 : decode (i_cc I) (pc + 3) = .ok (.dup, 1)) (hd3 : decode (i_cc I) (pc + 4) = .ok (.invokespecial ic, 3))
    (hr : a_cls[ci]? = some r) (hw1 : Cond.classLink (i_own I) ix r.1 ∈ a_GT) (hw2 : Cond.instantiable r.1 r.2.2 ∈ a_GT) (hw3 : Cond.initialized r.1 ∈ a_GT) (hin : ∀ w ∈ u_ws r.1 r.2.1 r.2.2, w ∈ a_GT) (hfs : ∀ j, j < r.2.2 → defaultValue (a_tyf ci j) = vp_V fs j) (hfc : ∀ V : a_V, fs.map (a_cv V) = fs)
    (hc : a_CI (i_own I) ic y I' 0) (hB : IB y I' ci fs blk) (hbl : ∀ n, (blk n).length = 1 + i_mc I') (hk : l.length = k) (hp : pre.length ≤ 400 ∧ pre.length + k + 1 + i_mc I' ≤ 400)
    (hd1 : i_d I' + 1 ≤ i_d I) (hnl : i_nL I' ≤ 40) (hst : (st.map fun v => v.category).sum ≤ 7) (hu : uc + 1 + i_mc I' ≤ i_mc I) (hv : us + r.2.2 + i_ms I' ≤ i_ms I)
    (kk : AW I (pc + 7) ls (.ref (pre.length + k) :: st) (true, pre ++ (l ++ blk (pre.length + k))) (uc + 1 + i_mc I') (us + r.2.2 + i_ms I') Q) : AW I pc ls st (true, pre ++ l) uc us Q := by
  subst hk
  refine x_new ci l.length fs hd hr hw1 hw2 hw3 hin hfs hfc rfl hp.1 (by omega) (by omega) (by omega) ?_
  refine r_dup hd2 rfl ?_
  refine x_ci (l' := l ++ blk (pre.length + l.length)) hd3 hc (fun Q' hq' => ?_) (by rw [List.length_append, List.length_append, hbl]; show _ = l.length + 1 + i_mc I'; omega) hp.1 (by rw [List.length_append, hbl]; omega) hd1 hnl (by rw [List.map_cons, List.sum_cons]; show 1 + _ ≤ 8; omega) hu hv kk
  have h := hB (pre ++ l) (pre.length + l.length) Q' (List.length_append) (by omega) (by rw [List.append_assoc]; exact hq')
  rw [List.append_assoc] at h
  exact h
/-- a final reference of the object that is being made, the first of its own cells -/
theorem x_putF0 {ix b n : Nat} (ci k : Nat) {vs vs' : List Value} {t : List a_E} (hd : decode (i_cc I) pc = .ok (.putfield ix, 3)) (hf : a_FL (i_own I) ix ci k) (hini : i_ini I = true) (hfin : ∀ r, a_cls[ci]? = some r → (r.2.1 k).2.2.2 = true ∧ r.1 = i_own I) (hfit : ∀ a : Nat, narrow (a_tyf ci k) (.ref a) = .ref a ∧ fits (a_tyf ci k) (.ref a) = true) (hn : pre.length = n) (hl : k < vs.length) (hs : vs.set k (.ref b) = vs')
    (kk : AW I (pc + 3) ls st (true, pre ++ (.inr (ci, vs') :: t)) uc us Q) : AW I pc ls (.ref b :: .ref n :: st) (true, pre ++ (.inr (ci, vs) :: t)) uc us Q := by
  subst hn; subst hs
  exact x_putF (i := 0) ci k hd hf hini hfin hfit rfl hl kk
theorem x_anew {n : Int32} {ix : Nat} (N k : Nat) (hd : decode (i_cc I) pc = .ok (.anewarray ix, 3)) (hw1 : Cond.classLink (i_own I) ix RX5 ∈ a_GT) (hw : Cond.arrayOver (.object RX5) ∈ a_GN) (hn : ¬ n < 0) (hN : n.toNatClampNeg = N) (hb : N ≤ 65536) (hk : l.length = k) (hp : pre.length ≤ 400) (hk2 : k ≤ 400) (hu1 : uc + 1 ≤ i_mc I) (hv1 : us + N ≤ i_ms I)
    (kk : AW I (pc + 3) ls (.ref (pre.length + k) :: st) (true, pre ++ (l ++ [.inl (4, N, .inr (.inr (.inr (.inr (fun _ => none)))))])) (uc + 1) (us + N) Q) : AW I pc ls (.int n :: st) (true, pre ++ l) uc us Q := by
  subst hk
  refine r_anew N hd hw1 hw hn hN hb (by rw [List.length_append]; omega) hu1 hv1 ?_
  rw [List.length_append, List.append_assoc]; exact kk
end CMK
