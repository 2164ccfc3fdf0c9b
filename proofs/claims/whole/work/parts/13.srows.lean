def a_k1 (ls : List Value) : Nat → Bool
  | 0 => true
  | j + 1 => match ls[j]? with
    | some w => w.category == 1
    | none => true
theorem a_k1_ok {ls : List Value} {i : Nat} (h : a_k1 ls i = true) : ∀ j w, ls[j]? = some w → j + 1 = i → w.category = 1 := by
  intro j w hj hi
  subst hi
  simpa [a_k1, hj] using h
section AS
variable {I : a_I} {pc uc us : Nat} {ls st : List Value} {h : a_H} {Q : a_Q}
theorem s_istore {i : Nat} {x : Int32} (hd : decode (i_cc I) pc = .ok (.istore i, 2)) (hn : i < i_nL I) (hk : a_k1 ls i = true) (k : AW I (pc + 2) (ls.set i (.int x)) st h uc us Q) : AW I pc ls (.int x :: st) h uc us Q := r_istore hd hn (a_k1_ok hk) k
theorem s_istore_n {i : Fin 4} (j : Nat) {x : Int32} (hd : decode (i_cc I) pc = .ok (.istore_n i, 1)) (hn : (i : Nat) < i_nL I) (hk : a_k1 ls j = true) (hj : (i : Nat) = j) (k : AW I (pc + 1) (ls.set j (.int x)) st h uc us Q) : AW I pc ls (.int x :: st) h uc us Q := by subst hj; exact r_istore_n hd hn (a_k1_ok hk) k
theorem s_fstore {i : Nat} {x : UInt32} (hd : decode (i_cc I) pc = .ok (.fstore i, 2)) (hn : i < i_nL I) (hk : a_k1 ls i = true) (k : AW I (pc + 2) (ls.set i (.float x)) st h uc us Q) : AW I pc ls (.float x :: st) h uc us Q := r_fstore hd hn (a_k1_ok hk) k
theorem s_fstore_n {i : Fin 4} (j : Nat) {x : UInt32} (hd : decode (i_cc I) pc = .ok (.fstore_n i, 1)) (hn : (i : Nat) < i_nL I) (hk : a_k1 ls j = true) (hj : (i : Nat) = j) (k : AW I (pc + 1) (ls.set j (.float x)) st h uc us Q) : AW I pc ls (.float x :: st) h uc us Q := by subst hj; exact r_fstore_n hd hn (a_k1_ok hk) k
theorem s_astore {i : Nat} {x : Nat} (hd : decode (i_cc I) pc = .ok (.astore i, 2)) (hn : i < i_nL I) (hk : a_k1 ls i = true) (k : AW I (pc + 2) (ls.set i (.ref x)) st h uc us Q) : AW I pc ls (.ref x :: st) h uc us Q := r_astore hd hn (a_k1_ok hk) k
theorem s_astore_n {i : Fin 4} (j : Nat) {x : Nat} (hd : decode (i_cc I) pc = .ok (.astore_n i, 1)) (hn : (i : Nat) < i_nL I) (hk : a_k1 ls j = true) (hj : (i : Nat) = j) (k : AW I (pc + 1) (ls.set j (.ref x)) st h uc us Q) : AW I pc ls (.ref x :: st) h uc us Q := by subst hj; exact r_astore_n hd hn (a_k1_ok hk) k
theorem s_lstore {i : Nat} {x : Int64} (hd : decode (i_cc I) pc = .ok (.lstore i, 2)) (hn : i + 1 < i_nL I) (hk : a_k1 ls i = true) (k : AW I (pc + 2) ((ls.set i (.long x)).set (i + 1) .null) st h uc us Q) : AW I pc ls (.long x :: st) h uc us Q := r_lstore hd hn (a_k1_ok hk) k
theorem s_lstore_n {i : Fin 4} (j : Nat) {x : Int64} (hd : decode (i_cc I) pc = .ok (.lstore_n i, 1)) (hn : (i : Nat) + 1 < i_nL I) (hk : a_k1 ls j = true) (hj : (i : Nat) = j) (k : AW I (pc + 1) ((ls.set j (.long x)).set (j + 1) .null) st h uc us Q) : AW I pc ls (.long x :: st) h uc us Q := by subst hj; exact r_lstore_n hd hn (a_k1_ok hk) k
theorem s_iinc {i : Nat} {x : Int32} (hd : decode (i_cc I) pc = .ok (.iinc i 1, 3)) (hl : ls[i]? = some (.int x)) (hn : i < i_nL I) (hk : a_k1 ls i = true) (k : AW I (pc + 3) (ls.set i (.int (x + 1))) st h uc us Q) : AW I pc ls st h uc us Q := r_iinc (x + 1) hd hl (by rw [show Int32.ofInt 1 = 1 from by decide]) hn (a_k1_ok hk) k
theorem s_iinc_m1 {i : Nat} {x : Int32} (hd : decode (i_cc I) pc = .ok (.iinc i (-1), 3)) (hl : ls[i]? = some (.int x)) (hn : i < i_nL I) (hk : a_k1 ls i = true) (k : AW I (pc + 3) (ls.set i (.int (x + -1))) st h uc us Q) : AW I pc ls st h uc us Q := r_iinc (x + -1) hd hl (by rw [show Int32.ofInt (-1) = -1 from by decide]) hn (a_k1_ok hk) k
theorem s_iincN {i : Nat} {n : Int} {x : Int32} (hd : decode (i_cc I) pc = .ok (.iinc i n, 3)) (hl : ls[i]? = some (.int x)) (hn : i < i_nL I) (hk : a_k1 ls i = true) (k : AW I (pc + 3) (ls.set i (.int (x + Int32.ofInt n))) st h uc us Q) : AW I pc ls st h uc us Q := r_iinc (x + Int32.ofInt n) hd hl rfl hn (a_k1_ok hk) k
variable {M : Nat → Nat → Int32} {L : Nat → Nat → Int64} {dd : UInt64} {ix c ci n : Nat} {y : MethodName} {I' : a_I} {vs : (Nat → Int32) → List Value} {v : Option Value} {h' : a_H}
theorem m_cv0 (hd : decode (i_cc I) pc = .ok (.invokevirtual ix, 3)) (hc : a_CV (i_own I) ix y I' 0) (hM : AD y I' [.ref c] (hS M L dd) (.inl v) h') (hh : h'.1 = false) (ho : OB c ci vs) (hci : ∃ r, a_cls[ci]? = some r ∧ r.1 = y.cls)
    (hz : i_mc I' = 0 ∧ i_ms I' = 0) (hd1 : i_d I' + 1 ≤ i_d I) (hnl : i_nL I' ≤ 40) (hst : (st.map fun v => v.category).sum ≤ 8) (kk : AW I (pc + 3) ls (v.toList ++ st) h' uc us Q) : AW I pc ls (.ref c :: st) (hS M L dd) uc us Q := m_cv (As := []) hd hc hM hh rfl ho hci hz hd1 hnl hst kk
theorem m_cs0 (hd : decode (i_cc I) pc = .ok (.invokestatic ix, 3)) (hc : a_CS (i_own I) ix y I' 0) (hM : AD y I' [] (hS M L dd) (.inl v) h') (hh : h'.1 = false)
    (hz : i_mc I' = 0 ∧ i_ms I' = 0) (hd1 : i_d I' + 1 ≤ i_d I) (hnl : i_nL I' ≤ 40) (hst : (st.map fun v => v.category).sum ≤ 8) (kk : AW I (pc + 3) ls (v.toList ++ st) h' uc us Q) : AW I pc ls (st) (hS M L dd) uc us Q := m_cs (As := []) hd hc hM hh rfl hz hd1 hnl hst kk
theorem m_cv1 {a1 : Value} (hd : decode (i_cc I) pc = .ok (.invokevirtual ix, 3)) (hc : a_CV (i_own I) ix y I' 1) (hM : AD y I' [.ref c, a1] (hS M L dd) (.inl v) h') (hh : h'.1 = false) (ho : OB c ci vs) (hci : ∃ r, a_cls[ci]? = some r ∧ r.1 = y.cls)
    (hz : i_mc I' = 0 ∧ i_ms I' = 0) (hd1 : i_d I' + 1 ≤ i_d I) (hnl : i_nL I' ≤ 40) (hst : (st.map fun v => v.category).sum ≤ 8) (kk : AW I (pc + 3) ls (v.toList ++ st) h' uc us Q) : AW I pc ls (a1 :: .ref c :: st) (hS M L dd) uc us Q := m_cv (As := [a1]) hd hc hM hh rfl ho hci hz hd1 hnl hst kk
theorem m_cs1 {a1 : Value} (hd : decode (i_cc I) pc = .ok (.invokestatic ix, 3)) (hc : a_CS (i_own I) ix y I' 1) (hM : AD y I' [a1] (hS M L dd) (.inl v) h') (hh : h'.1 = false)
    (hz : i_mc I' = 0 ∧ i_ms I' = 0) (hd1 : i_d I' + 1 ≤ i_d I) (hnl : i_nL I' ≤ 40) (hst : (st.map fun v => v.category).sum ≤ 8) (kk : AW I (pc + 3) ls (v.toList ++ st) h' uc us Q) : AW I pc ls (a1 :: st) (hS M L dd) uc us Q := m_cs (As := [a1]) hd hc hM hh rfl hz hd1 hnl hst kk
theorem m_cv2 {a1 a2 : Value} (hd : decode (i_cc I) pc = .ok (.invokevirtual ix, 3)) (hc : a_CV (i_own I) ix y I' 2) (hM : AD y I' [.ref c, a1, a2] (hS M L dd) (.inl v) h') (hh : h'.1 = false) (ho : OB c ci vs) (hci : ∃ r, a_cls[ci]? = some r ∧ r.1 = y.cls)
    (hz : i_mc I' = 0 ∧ i_ms I' = 0) (hd1 : i_d I' + 1 ≤ i_d I) (hnl : i_nL I' ≤ 40) (hst : (st.map fun v => v.category).sum ≤ 8) (kk : AW I (pc + 3) ls (v.toList ++ st) h' uc us Q) : AW I pc ls (a2 :: a1 :: .ref c :: st) (hS M L dd) uc us Q := m_cv (As := [a1, a2]) hd hc hM hh rfl ho hci hz hd1 hnl hst kk
theorem m_cs2 {a1 a2 : Value} (hd : decode (i_cc I) pc = .ok (.invokestatic ix, 3)) (hc : a_CS (i_own I) ix y I' 2) (hM : AD y I' [a1, a2] (hS M L dd) (.inl v) h') (hh : h'.1 = false)
    (hz : i_mc I' = 0 ∧ i_ms I' = 0) (hd1 : i_d I' + 1 ≤ i_d I) (hnl : i_nL I' ≤ 40) (hst : (st.map fun v => v.category).sum ≤ 8) (kk : AW I (pc + 3) ls (v.toList ++ st) h' uc us Q) : AW I pc ls (a2 :: a1 :: st) (hS M L dd) uc us Q := m_cs (As := [a1, a2]) hd hc hM hh rfl hz hd1 hnl hst kk
theorem m_cv3 {a1 a2 a3 : Value} (hd : decode (i_cc I) pc = .ok (.invokevirtual ix, 3)) (hc : a_CV (i_own I) ix y I' 3) (hM : AD y I' [.ref c, a1, a2, a3] (hS M L dd) (.inl v) h') (hh : h'.1 = false) (ho : OB c ci vs) (hci : ∃ r, a_cls[ci]? = some r ∧ r.1 = y.cls)
    (hz : i_mc I' = 0 ∧ i_ms I' = 0) (hd1 : i_d I' + 1 ≤ i_d I) (hnl : i_nL I' ≤ 40) (hst : (st.map fun v => v.category).sum ≤ 8) (kk : AW I (pc + 3) ls (v.toList ++ st) h' uc us Q) : AW I pc ls (a3 :: a2 :: a1 :: .ref c :: st) (hS M L dd) uc us Q := m_cv (As := [a1, a2, a3]) hd hc hM hh rfl ho hci hz hd1 hnl hst kk
theorem m_cs3 {a1 a2 a3 : Value} (hd : decode (i_cc I) pc = .ok (.invokestatic ix, 3)) (hc : a_CS (i_own I) ix y I' 3) (hM : AD y I' [a1, a2, a3] (hS M L dd) (.inl v) h') (hh : h'.1 = false)
    (hz : i_mc I' = 0 ∧ i_ms I' = 0) (hd1 : i_d I' + 1 ≤ i_d I) (hnl : i_nL I' ≤ 40) (hst : (st.map fun v => v.category).sum ≤ 8) (kk : AW I (pc + 3) ls (v.toList ++ st) h' uc us Q) : AW I pc ls (a3 :: a2 :: a1 :: st) (hS M L dd) uc us Q := m_cs (As := [a1, a2, a3]) hd hc hM hh rfl hz hd1 hnl hst kk
theorem m_cv4 {a1 a2 a3 a4 : Value} (hd : decode (i_cc I) pc = .ok (.invokevirtual ix, 3)) (hc : a_CV (i_own I) ix y I' 4) (hM : AD y I' [.ref c, a1, a2, a3, a4] (hS M L dd) (.inl v) h') (hh : h'.1 = false) (ho : OB c ci vs) (hci : ∃ r, a_cls[ci]? = some r ∧ r.1 = y.cls)
    (hz : i_mc I' = 0 ∧ i_ms I' = 0) (hd1 : i_d I' + 1 ≤ i_d I) (hnl : i_nL I' ≤ 40) (hst : (st.map fun v => v.category).sum ≤ 8) (kk : AW I (pc + 3) ls (v.toList ++ st) h' uc us Q) : AW I pc ls (a4 :: a3 :: a2 :: a1 :: .ref c :: st) (hS M L dd) uc us Q := m_cv (As := [a1, a2, a3, a4]) hd hc hM hh rfl ho hci hz hd1 hnl hst kk
theorem m_cs4 {a1 a2 a3 a4 : Value} (hd : decode (i_cc I) pc = .ok (.invokestatic ix, 3)) (hc : a_CS (i_own I) ix y I' 4) (hM : AD y I' [a1, a2, a3, a4] (hS M L dd) (.inl v) h') (hh : h'.1 = false)
    (hz : i_mc I' = 0 ∧ i_ms I' = 0) (hd1 : i_d I' + 1 ≤ i_d I) (hnl : i_nL I' ≤ 40) (hst : (st.map fun v => v.category).sum ≤ 8) (kk : AW I (pc + 3) ls (v.toList ++ st) h' uc us Q) : AW I pc ls (a4 :: a3 :: a2 :: a1 :: st) (hS M L dd) uc us Q := m_cs (As := [a1, a2, a3, a4]) hd hc hM hh rfl hz hd1 hnl hst kk
theorem m_cv5 {a1 a2 a3 a4 a5 : Value} (hd : decode (i_cc I) pc = .ok (.invokevirtual ix, 3)) (hc : a_CV (i_own I) ix y I' 5) (hM : AD y I' [.ref c, a1, a2, a3, a4, a5] (hS M L dd) (.inl v) h') (hh : h'.1 = false) (ho : OB c ci vs) (hci : ∃ r, a_cls[ci]? = some r ∧ r.1 = y.cls)
    (hz : i_mc I' = 0 ∧ i_ms I' = 0) (hd1 : i_d I' + 1 ≤ i_d I) (hnl : i_nL I' ≤ 40) (hst : (st.map fun v => v.category).sum ≤ 8) (kk : AW I (pc + 3) ls (v.toList ++ st) h' uc us Q) : AW I pc ls (a5 :: a4 :: a3 :: a2 :: a1 :: .ref c :: st) (hS M L dd) uc us Q := m_cv (As := [a1, a2, a3, a4, a5]) hd hc hM hh rfl ho hci hz hd1 hnl hst kk
theorem m_cs5 {a1 a2 a3 a4 a5 : Value} (hd : decode (i_cc I) pc = .ok (.invokestatic ix, 3)) (hc : a_CS (i_own I) ix y I' 5) (hM : AD y I' [a1, a2, a3, a4, a5] (hS M L dd) (.inl v) h') (hh : h'.1 = false)
    (hz : i_mc I' = 0 ∧ i_ms I' = 0) (hd1 : i_d I' + 1 ≤ i_d I) (hnl : i_nL I' ≤ 40) (hst : (st.map fun v => v.category).sum ≤ 8) (kk : AW I (pc + 3) ls (v.toList ++ st) h' uc us Q) : AW I pc ls (a5 :: a4 :: a3 :: a2 :: a1 :: st) (hS M L dd) uc us Q := m_cs (As := [a1, a2, a3, a4, a5]) hd hc hM hh rfl hz hd1 hnl hst kk
theorem m_cv6 {a1 a2 a3 a4 a5 a6 : Value} (hd : decode (i_cc I) pc = .ok (.invokevirtual ix, 3)) (hc : a_CV (i_own I) ix y I' 6) (hM : AD y I' [.ref c, a1, a2, a3, a4, a5, a6] (hS M L dd) (.inl v) h') (hh : h'.1 = false) (ho : OB c ci vs) (hci : ∃ r, a_cls[ci]? = some r ∧ r.1 = y.cls)
    (hz : i_mc I' = 0 ∧ i_ms I' = 0) (hd1 : i_d I' + 1 ≤ i_d I) (hnl : i_nL I' ≤ 40) (hst : (st.map fun v => v.category).sum ≤ 8) (kk : AW I (pc + 3) ls (v.toList ++ st) h' uc us Q) : AW I pc ls (a6 :: a5 :: a4 :: a3 :: a2 :: a1 :: .ref c :: st) (hS M L dd) uc us Q := m_cv (As := [a1, a2, a3, a4, a5, a6]) hd hc hM hh rfl ho hci hz hd1 hnl hst kk
theorem m_cs6 {a1 a2 a3 a4 a5 a6 : Value} (hd : decode (i_cc I) pc = .ok (.invokestatic ix, 3)) (hc : a_CS (i_own I) ix y I' 6) (hM : AD y I' [a1, a2, a3, a4, a5, a6] (hS M L dd) (.inl v) h') (hh : h'.1 = false)
    (hz : i_mc I' = 0 ∧ i_ms I' = 0) (hd1 : i_d I' + 1 ≤ i_d I) (hnl : i_nL I' ≤ 40) (hst : (st.map fun v => v.category).sum ≤ 8) (kk : AW I (pc + 3) ls (v.toList ++ st) h' uc us Q) : AW I pc ls (a6 :: a5 :: a4 :: a3 :: a2 :: a1 :: st) (hS M L dd) uc us Q := m_cs (As := [a1, a2, a3, a4, a5, a6]) hd hc hM hh rfl hz hd1 hnl hst kk
end AS
/-- sums of ints, from place 0 on -/
def sumI (f : Nat → Int32) : Nat → Int32
  | 0 => 0
  | n + 1 => sumI f n + f n
theorem sumI_cong {f g : Nat → Int32} {n : Nat} (h : ∀ k, k < n → f k = g k) : sumI f n = sumI g n := by
  induction n with
  | zero => rfl
  | succ n ih => rw [sumI, sumI, ih (fun k hk => h k (by omega)), h n (by omega)]
def bI (P : Prop) [Decidable P] : Int32 := if P then 1 else 0
theorem bI_t {P : Prop} [Decidable P] (h : P) : bI P = 1 := if_pos h
theorem bI_f {P : Prop} [Decidable P] (h : ¬ P) : bI P = 0 := if_neg h
theorem bI_0 {P : Prop} [Decidable P] : bI P = 0 ↔ ¬ P := by
  unfold bI
  by_cases h : P
  · rw [if_pos h]; exact ⟨fun z => absurd z (by decide), fun z => absurd h z⟩
  · rw [if_neg h]; exact ⟨fun _ => h, fun _ => rfl⟩
theorem bI_b {P : Prop} [Decidable P] : bI P = if decide P = true then 1 else 0 := by
  unfold bI
  by_cases h : P
  · rw [if_pos h, if_pos (decide_eq_true h)]
  · rw [if_neg h, if_neg (fun z => h (of_decide_eq_true z))]
section AE
variable {I : a_I} {pc uc us : Nat} {ls : List Value} {h : a_H} {Q : a_Q}
theorem e_iret {x y : Int32} (hd : decode (i_cc I) pc = .ok (.ireturn, 1)) (hok : i_ret I = some .int) (hq : Q (.inl (some (.int y))) h) (e : x = y) : AW I pc ls [.int x] h uc us Q := by
  subst e; exact r_iret hd hok hq
theorem e_lret {x y : Int64} (hd : decode (i_cc I) pc = .ok (.lreturn, 1)) (hok : i_ret I = some .long) (hq : Q (.inl (some (.long y))) h) (e : x = y) : AW I pc ls [.long x] h uc us Q := by
  subst e; exact r_lret hd hok hq
theorem e_fret {x y : UInt32} (hd : decode (i_cc I) pc = .ok (.freturn, 1)) (hok : i_ret I = some .float) (hq : Q (.inl (some (.float y))) h) (e : x = y) : AW I pc ls [.float x] h uc us Q := by
  subst e; exact r_fret hd hok hq
theorem e_zret {x : Int32} {P : Prop} [dc : Decidable P] (hd : decode (i_cc I) pc = .ok (.ireturn, 1)) (hok : i_ret I = some .boolean) (hq : Q (.inl (some (.int (bI P)))) h) (e : x = bI P) : AW I pc ls [.int x] h uc us Q := by
  subst e
  exact r_zret (decide P) hd hok bI_b (by rw [← bI_b]; exact hq)
end AE
section AE2
variable {I : a_I} {pc uc us : Nat} {ls st : List Value} {Q : a_Q} {M : Nat → Nat → Int32} {L : Nat → Nat → Int64} {dd : UInt64}
theorem m_alen {c n : Nat} (hd : decode (i_cc I) pc = .ok (.arraylength, 1)) (ha : AI c n) (kk : AW I (pc + 1) ls (.int (nI n) :: st) (hS M L dd) uc us Q) : AW I pc ls (.ref c :: st) (hS M L dd) uc us Q :=
  r_alen (a := (n, .inl (M c))) hd ((hp_at ha.1).trans (by rw [ha.2])) kk
/-- a call that may change the heap -/
def PO (y : MethodName) (I : a_I) (As : List Value) (M : Nat → Nat → Int32) (L : Nat → Nat → Int64) (dd : UInt64) (v : Option Value) (P : (Nat → Nat → Int32) → (Nat → Nat → Int64) → Prop) : Prop :=
  AM y I As (hS M L dd) (fun o h' => o = .inl v ∧ ∃ M' L', h' = hS M' L' dd ∧ P M' L')
theorem PO.of {y : MethodName} {As : List Value} {v : Option Value} {M' : Nat → Nat → Int32} {L' : Nat → Nat → Int64} {P : (Nat → Nat → Int32) → (Nat → Nat → Int64) → Prop} (h : AD y I As (hS M L dd) (.inl v) (hS M' L' dd)) (hP : P M' L') : PO y I As M L dd v P := h _ ⟨rfl, M', L', rfl, hP⟩
variable {ix c ci n : Nat} {y : MethodName} {I' : a_I} {As : List Value} {vs : (Nat → Int32) → List Value} {v : Option Value} {P : (Nat → Nat → Int32) → (Nat → Nat → Int64) → Prop}
theorem m_pv (hd : decode (i_cc I) pc = .ok (.invokevirtual ix, 3)) (hc : a_CV (i_own I) ix y I' n) (hM : PO y I' (.ref c :: As) M L dd v P) (hn : As.length = n) (ho : OB c ci vs) (hci : ∃ r, a_cls[ci]? = some r ∧ r.1 = y.cls)
    (hz : i_mc I' = 0 ∧ i_ms I' = 0) (hd1 : i_d I' + 1 ≤ i_d I) (hnl : i_nL I' ≤ 40) (hst : (st.map fun v => v.category).sum ≤ 8) (kk : ∀ M' L', P M' L' → AW I (pc + 3) ls (v.toList ++ st) (hS M' L' dd) uc us Q) : AW I pc ls (As.reverse ++ .ref c :: st) (hS M L dd) uc us Q := by
  intro V p l e R s m args below meth c9 H locs Gl ws tys lsC hC hR hN hH hS hu hv2 hL
  refine r_callV hd hc hM hn ((hp_at ho.1).trans (by rw [ho.2])) hci ⟨hd1, hnl, hst, by rw [hz.1]; exact hu, by rw [hz.2]; exact hv2⟩ ⟨?_, ?_⟩ V p l e R s m args below meth c9 H locs Gl ws tys lsC hC hR hN hH hS hu hv2 hL
  · rintro v2 h2 ⟨h3, M', L', rfl, h4⟩
    cases h3
    refine ⟨fun z => (Bool.false_ne_true z).elim, ?_⟩
    rw [hz.1, hz.2]
    exact kk M' L' h4
  · rintro E h2 ⟨h3, -⟩
    cases h3
theorem m_ps (hd : decode (i_cc I) pc = .ok (.invokestatic ix, 3)) (hc : a_CS (i_own I) ix y I' n) (hM : PO y I' As M L dd v P) (hn : As.length = n)
    (hz : i_mc I' = 0 ∧ i_ms I' = 0) (hd1 : i_d I' + 1 ≤ i_d I) (hnl : i_nL I' ≤ 40) (hst : (st.map fun v => v.category).sum ≤ 8) (kk : ∀ M' L', P M' L' → AW I (pc + 3) ls (v.toList ++ st) (hS M' L' dd) uc us Q) : AW I pc ls (As.reverse ++ st) (hS M L dd) uc us Q := by
  intro V p l e R s m args below meth c9 H locs Gl ws tys lsC hC hR hN hH hS hu hv2 hL
  refine r_callS hd hc hM hn ⟨hd1, hnl, hst, by rw [hz.1]; exact hu, by rw [hz.2]; exact hv2⟩ ⟨?_, ?_⟩ V p l e R s m args below meth c9 H locs Gl ws tys lsC hC hR hN hH hS hu hv2 hL
  · rintro v2 h2 ⟨h3, M', L', rfl, h4⟩
    cases h3
    refine ⟨fun z => (Bool.false_ne_true z).elim, ?_⟩
    rw [hz.1, hz.2]
    exact kk M' L' h4
  · rintro E h2 ⟨h3, -⟩
    cases h3
theorem m_pv0 (hd : decode (i_cc I) pc = .ok (.invokevirtual ix, 3)) (hc : a_CV (i_own I) ix y I' 0) (hM : PO y I' (.ref c :: []) M L dd v P) (ho : OB c ci vs) (hci : ∃ r, a_cls[ci]? = some r ∧ r.1 = y.cls)
    (hz : i_mc I' = 0 ∧ i_ms I' = 0) (hd1 : i_d I' + 1 ≤ i_d I) (hnl : i_nL I' ≤ 40) (hst : (st.map fun v => v.category).sum ≤ 8) (kk : ∀ M' L', P M' L' → AW I (pc + 3) ls (v.toList ++ st) (hS M' L' dd) uc us Q) : AW I pc ls (.ref c :: st) (hS M L dd) uc us Q := m_pv (As := []) hd hc hM rfl ho hci hz hd1 hnl hst kk
theorem m_ps0 (hd : decode (i_cc I) pc = .ok (.invokestatic ix, 3)) (hc : a_CS (i_own I) ix y I' 0) (hM : PO y I' [] M L dd v P)
    (hz : i_mc I' = 0 ∧ i_ms I' = 0) (hd1 : i_d I' + 1 ≤ i_d I) (hnl : i_nL I' ≤ 40) (hst : (st.map fun v => v.category).sum ≤ 8) (kk : ∀ M' L', P M' L' → AW I (pc + 3) ls (v.toList ++ st) (hS M' L' dd) uc us Q) : AW I pc ls (st) (hS M L dd) uc us Q := m_ps (As := []) hd hc hM rfl hz hd1 hnl hst kk
theorem m_pv1 {a1 : Value} (hd : decode (i_cc I) pc = .ok (.invokevirtual ix, 3)) (hc : a_CV (i_own I) ix y I' 1) (hM : PO y I' (.ref c :: [a1]) M L dd v P) (ho : OB c ci vs) (hci : ∃ r, a_cls[ci]? = some r ∧ r.1 = y.cls)
    (hz : i_mc I' = 0 ∧ i_ms I' = 0) (hd1 : i_d I' + 1 ≤ i_d I) (hnl : i_nL I' ≤ 40) (hst : (st.map fun v => v.category).sum ≤ 8) (kk : ∀ M' L', P M' L' → AW I (pc + 3) ls (v.toList ++ st) (hS M' L' dd) uc us Q) : AW I pc ls (a1 :: .ref c :: st) (hS M L dd) uc us Q := m_pv (As := [a1]) hd hc hM rfl ho hci hz hd1 hnl hst kk
theorem m_ps1 {a1 : Value} (hd : decode (i_cc I) pc = .ok (.invokestatic ix, 3)) (hc : a_CS (i_own I) ix y I' 1) (hM : PO y I' [a1] M L dd v P)
    (hz : i_mc I' = 0 ∧ i_ms I' = 0) (hd1 : i_d I' + 1 ≤ i_d I) (hnl : i_nL I' ≤ 40) (hst : (st.map fun v => v.category).sum ≤ 8) (kk : ∀ M' L', P M' L' → AW I (pc + 3) ls (v.toList ++ st) (hS M' L' dd) uc us Q) : AW I pc ls (a1 :: st) (hS M L dd) uc us Q := m_ps (As := [a1]) hd hc hM rfl hz hd1 hnl hst kk
theorem m_pv2 {a1 a2 : Value} (hd : decode (i_cc I) pc = .ok (.invokevirtual ix, 3)) (hc : a_CV (i_own I) ix y I' 2) (hM : PO y I' (.ref c :: [a1, a2]) M L dd v P) (ho : OB c ci vs) (hci : ∃ r, a_cls[ci]? = some r ∧ r.1 = y.cls)
    (hz : i_mc I' = 0 ∧ i_ms I' = 0) (hd1 : i_d I' + 1 ≤ i_d I) (hnl : i_nL I' ≤ 40) (hst : (st.map fun v => v.category).sum ≤ 8) (kk : ∀ M' L', P M' L' → AW I (pc + 3) ls (v.toList ++ st) (hS M' L' dd) uc us Q) : AW I pc ls (a2 :: a1 :: .ref c :: st) (hS M L dd) uc us Q := m_pv (As := [a1, a2]) hd hc hM rfl ho hci hz hd1 hnl hst kk
theorem m_ps2 {a1 a2 : Value} (hd : decode (i_cc I) pc = .ok (.invokestatic ix, 3)) (hc : a_CS (i_own I) ix y I' 2) (hM : PO y I' [a1, a2] M L dd v P)
    (hz : i_mc I' = 0 ∧ i_ms I' = 0) (hd1 : i_d I' + 1 ≤ i_d I) (hnl : i_nL I' ≤ 40) (hst : (st.map fun v => v.category).sum ≤ 8) (kk : ∀ M' L', P M' L' → AW I (pc + 3) ls (v.toList ++ st) (hS M' L' dd) uc us Q) : AW I pc ls (a2 :: a1 :: st) (hS M L dd) uc us Q := m_ps (As := [a1, a2]) hd hc hM rfl hz hd1 hnl hst kk
theorem m_pv3 {a1 a2 a3 : Value} (hd : decode (i_cc I) pc = .ok (.invokevirtual ix, 3)) (hc : a_CV (i_own I) ix y I' 3) (hM : PO y I' (.ref c :: [a1, a2, a3]) M L dd v P) (ho : OB c ci vs) (hci : ∃ r, a_cls[ci]? = some r ∧ r.1 = y.cls)
    (hz : i_mc I' = 0 ∧ i_ms I' = 0) (hd1 : i_d I' + 1 ≤ i_d I) (hnl : i_nL I' ≤ 40) (hst : (st.map fun v => v.category).sum ≤ 8) (kk : ∀ M' L', P M' L' → AW I (pc + 3) ls (v.toList ++ st) (hS M' L' dd) uc us Q) : AW I pc ls (a3 :: a2 :: a1 :: .ref c :: st) (hS M L dd) uc us Q := m_pv (As := [a1, a2, a3]) hd hc hM rfl ho hci hz hd1 hnl hst kk
theorem m_ps3 {a1 a2 a3 : Value} (hd : decode (i_cc I) pc = .ok (.invokestatic ix, 3)) (hc : a_CS (i_own I) ix y I' 3) (hM : PO y I' [a1, a2, a3] M L dd v P)
    (hz : i_mc I' = 0 ∧ i_ms I' = 0) (hd1 : i_d I' + 1 ≤ i_d I) (hnl : i_nL I' ≤ 40) (hst : (st.map fun v => v.category).sum ≤ 8) (kk : ∀ M' L', P M' L' → AW I (pc + 3) ls (v.toList ++ st) (hS M' L' dd) uc us Q) : AW I pc ls (a3 :: a2 :: a1 :: st) (hS M L dd) uc us Q := m_ps (As := [a1, a2, a3]) hd hc hM rfl hz hd1 hnl hst kk
theorem m_pv4 {a1 a2 a3 a4 : Value} (hd : decode (i_cc I) pc = .ok (.invokevirtual ix, 3)) (hc : a_CV (i_own I) ix y I' 4) (hM : PO y I' (.ref c :: [a1, a2, a3, a4]) M L dd v P) (ho : OB c ci vs) (hci : ∃ r, a_cls[ci]? = some r ∧ r.1 = y.cls)
    (hz : i_mc I' = 0 ∧ i_ms I' = 0) (hd1 : i_d I' + 1 ≤ i_d I) (hnl : i_nL I' ≤ 40) (hst : (st.map fun v => v.category).sum ≤ 8) (kk : ∀ M' L', P M' L' → AW I (pc + 3) ls (v.toList ++ st) (hS M' L' dd) uc us Q) : AW I pc ls (a4 :: a3 :: a2 :: a1 :: .ref c :: st) (hS M L dd) uc us Q := m_pv (As := [a1, a2, a3, a4]) hd hc hM rfl ho hci hz hd1 hnl hst kk
theorem m_ps4 {a1 a2 a3 a4 : Value} (hd : decode (i_cc I) pc = .ok (.invokestatic ix, 3)) (hc : a_CS (i_own I) ix y I' 4) (hM : PO y I' [a1, a2, a3, a4] M L dd v P)
    (hz : i_mc I' = 0 ∧ i_ms I' = 0) (hd1 : i_d I' + 1 ≤ i_d I) (hnl : i_nL I' ≤ 40) (hst : (st.map fun v => v.category).sum ≤ 8) (kk : ∀ M' L', P M' L' → AW I (pc + 3) ls (v.toList ++ st) (hS M' L' dd) uc us Q) : AW I pc ls (a4 :: a3 :: a2 :: a1 :: st) (hS M L dd) uc us Q := m_ps (As := [a1, a2, a3, a4]) hd hc hM rfl hz hd1 hnl hst kk
theorem m_pv5 {a1 a2 a3 a4 a5 : Value} (hd : decode (i_cc I) pc = .ok (.invokevirtual ix, 3)) (hc : a_CV (i_own I) ix y I' 5) (hM : PO y I' (.ref c :: [a1, a2, a3, a4, a5]) M L dd v P) (ho : OB c ci vs) (hci : ∃ r, a_cls[ci]? = some r ∧ r.1 = y.cls)
    (hz : i_mc I' = 0 ∧ i_ms I' = 0) (hd1 : i_d I' + 1 ≤ i_d I) (hnl : i_nL I' ≤ 40) (hst : (st.map fun v => v.category).sum ≤ 8) (kk : ∀ M' L', P M' L' → AW I (pc + 3) ls (v.toList ++ st) (hS M' L' dd) uc us Q) : AW I pc ls (a5 :: a4 :: a3 :: a2 :: a1 :: .ref c :: st) (hS M L dd) uc us Q := m_pv (As := [a1, a2, a3, a4, a5]) hd hc hM rfl ho hci hz hd1 hnl hst kk
theorem m_ps5 {a1 a2 a3 a4 a5 : Value} (hd : decode (i_cc I) pc = .ok (.invokestatic ix, 3)) (hc : a_CS (i_own I) ix y I' 5) (hM : PO y I' [a1, a2, a3, a4, a5] M L dd v P)
    (hz : i_mc I' = 0 ∧ i_ms I' = 0) (hd1 : i_d I' + 1 ≤ i_d I) (hnl : i_nL I' ≤ 40) (hst : (st.map fun v => v.category).sum ≤ 8) (kk : ∀ M' L', P M' L' → AW I (pc + 3) ls (v.toList ++ st) (hS M' L' dd) uc us Q) : AW I pc ls (a5 :: a4 :: a3 :: a2 :: a1 :: st) (hS M L dd) uc us Q := m_ps (As := [a1, a2, a3, a4, a5]) hd hc hM rfl hz hd1 hnl hst kk
theorem m_pv6 {a1 a2 a3 a4 a5 a6 : Value} (hd : decode (i_cc I) pc = .ok (.invokevirtual ix, 3)) (hc : a_CV (i_own I) ix y I' 6) (hM : PO y I' (.ref c :: [a1, a2, a3, a4, a5, a6]) M L dd v P) (ho : OB c ci vs) (hci : ∃ r, a_cls[ci]? = some r ∧ r.1 = y.cls)
    (hz : i_mc I' = 0 ∧ i_ms I' = 0) (hd1 : i_d I' + 1 ≤ i_d I) (hnl : i_nL I' ≤ 40) (hst : (st.map fun v => v.category).sum ≤ 8) (kk : ∀ M' L', P M' L' → AW I (pc + 3) ls (v.toList ++ st) (hS M' L' dd) uc us Q) : AW I pc ls (a6 :: a5 :: a4 :: a3 :: a2 :: a1 :: .ref c :: st) (hS M L dd) uc us Q := m_pv (As := [a1, a2, a3, a4, a5, a6]) hd hc hM rfl ho hci hz hd1 hnl hst kk
theorem m_ps6 {a1 a2 a3 a4 a5 a6 : Value} (hd : decode (i_cc I) pc = .ok (.invokestatic ix, 3)) (hc : a_CS (i_own I) ix y I' 6) (hM : PO y I' [a1, a2, a3, a4, a5, a6] M L dd v P)
    (hz : i_mc I' = 0 ∧ i_ms I' = 0) (hd1 : i_d I' + 1 ≤ i_d I) (hnl : i_nL I' ≤ 40) (hst : (st.map fun v => v.category).sum ≤ 8) (kk : ∀ M' L', P M' L' → AW I (pc + 3) ls (v.toList ++ st) (hS M' L' dd) uc us Q) : AW I pc ls (a6 :: a5 :: a4 :: a3 :: a2 :: a1 :: st) (hS M L dd) uc us Q := m_ps (As := [a1, a2, a3, a4, a5, a6]) hd hc hM rfl hz hd1 hnl hst kk
end AE2
/-- fewer locals known -/
def a_sub : List Value → List Value → Prop
  | [], _ => True
  | _ :: _, [] => False
  | x :: xs, y :: ys => (x = .null ∨ y = x) ∧ a_sub xs ys
theorem a_sub_at : ∀ (ls ls' : List Value), a_sub ls ls' → ∀ (i : Nat) (v : Value), ls[i]? = some v → v ≠ .null → ls'[i]? = some v := by
  intro ls
  induction ls with
  | nil => intro ls' _ i v h; simp at h
  | cons x xs ih =>
    intro ls' h i v hv hn
    cases ls' with
    | nil => exact h.elim
    | cons y ys =>
      cases i with
      | zero =>
        simp only [List.getElem?_cons_zero, Option.some.injEq] at hv ⊢
        subst hv
        rcases h.1 with h1 | h1
        · exact absurd h1 hn
        · exact h1
      | succ i =>
        simp only [List.getElem?_cons_succ] at hv ⊢
        exact ih ys h.2 i v hv hn
theorem m_sub {I : a_I} {pc uc us : Nat} {ls ls' st : List Value} {h : a_H} {Q : a_Q} (k : AW I pc ls st h uc us Q) (h1 : a_sub ls ls') : AW I pc ls' st h uc us Q := by
  intro V p l e R s m args below meth c9 H locs Gl ws tys lsC hC hR hN hH hS hu hv2 hL
  exact k V p l e R s m args below meth c9 H locs Gl ws tys lsC hC hR hN hH hS hu hv2 ⟨hL.1, hL.2.1, fun i v hi hn => hL.2.2 i v (a_sub_at _ _ h1 i v hi hn) hn⟩
