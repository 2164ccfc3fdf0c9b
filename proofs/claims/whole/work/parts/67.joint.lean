/-! BOTH SIDES TOGETHER -/
section JOINT
variable {M M1 M2 : Nat → Nat → Int32} {L : Nat → Nat → Int64} {dd : UInt64} {a a' : Row} {R R' : List Row} {thr : Int32}
def TB (M : Nat → Nat → Int32) : Prop := ∃ n, n ≤ 600 ∧ M 313 0 = nI n ∧ M 317 7 = nI n ∧ BR M (M 314) n ∧ M 313 2 = M 317 15
def WB (M : Nat → Nat → Int32) : Prop := ∃ xs : List Int32, xs.length ≤ 120 ∧ WR M xs ∧ NW M xs
def J (M : Nat → Nat → Int32) (R : List Row) : Prop := OK9 (M 318) ∧ (∀ b, b ∈ R → OK9 b) ∧ CS M (M 318) R ∧ MH M R ∧ TB M ∧ WB M
theorem hr_hi {lo hi : Nat} (h : Fr lo hi M M1) (hlo : 313 ≤ lo) (hR : HR M R) : HR M1 R := by
  obtain ⟨r1, r2, w, r3, r4, r5⟩ := hR
  exact ⟨r1, by rw [h 63 (by omega)]; exact r2, w, r3, by rw [h 63 (by omega)]; exact r4, fun r b hb => qp_f h (Or.inl (by omega)) (r5 r b hb)⟩
theorem cs_hi {lo hi : Nat} (h : Fr lo hi M M1) (hlo : 313 ≤ lo) (hC : CS M a R) : CS M1 a R := ⟨qp_f h (Or.inl (by omega)) hC.1, hr_hi h hlo hC.2⟩
theorem fr_fx (hF : Fx M1 M2) : Fr 317 324 M1 M2 := fun c hc => hF.1 c (by omega) (by omega) (by omega) (by omega) (by omega) (by omega)
theorem ok_push {b : Row} (h : ∀ b, b ∈ R → OK9 b) (ha : OK9 a) (hb : b ∈ pushR R a) : OK9 b := by
  unfold pushR at hb
  rcases List.mem_append.mp hb with z | z
  · split at z
    · exact h b (List.mem_of_mem_drop z)
    · exact h b z
  · rw [List.mem_singleton.mp z]; exact ha
theorem ok_re {b : Row} (h : RE a b) (ha : OK9 a) : OK9 b := ⟨wf_re h ha.1, wv_re h ha.1.2.2.1.2.1 ha.1.2.2.2.1.2.1 ha.2⟩
theorem brd_c {g g' : Nat → Int32} {n : Nat} (hB : BR M g n) (h1 : M1 322 = M 322) (h2 : g' = g) : BR M1 g' n := by
  subst h2; exact fun k hk => by rw [h1]; exact hB k hk
theorem j_step (hJ : J M R) (ha : M 318 = a) (hG : Gx M M1) (hF : Fx M1 M2) (hc : (thr = 0 ∧ CS M1 a' R') ∨ (thr ≠ 0 ∧ CS M1 a R)) (h0 : thr = 0 → MS M2 a' R') (h1 : thr ≠ 0 → MS M2 a R) (hw : thr = 0 → OK9 a' ∧ ∀ b, b ∈ R' → OK9 b) : ∃ R2, J M2 R2 := by
  obtain ⟨j1, j2, j3, j4, ⟨n, t1, t2, t3, t4, t5⟩, ⟨xs, x1, x2, x3⟩⟩ := hJ
  have e : ∀ c, 313 ≤ c → c ≠ 317 → c ≠ 318 → c ≠ 319 → c ≠ 320 → c ≠ 321 → c ≠ 323 → M2 c = M c := fun c h k1 k2 k3 k4 k5 k6 => (hF.1 c k1 k2 k3 k4 k5 k6).trans (hG c h)
  have e13 := e 313 (by decide) (by decide) (by decide) (by decide) (by decide) (by decide) (by decide)
  have e14 := e 314 (by decide) (by decide) (by decide) (by decide) (by decide) (by decide) (by decide)
  have e15 := e 315 (by decide) (by decide) (by decide) (by decide) (by decide) (by decide) (by decide)
  have e16 := e 316 (by decide) (by decide) (by decide) (by decide) (by decide) (by decide) (by decide)
  have e22 := e 322 (by decide) (by decide) (by decide) (by decide) (by decide) (by decide) (by decide)
  have e24 := e 324 (by decide) (by decide) (by decide) (by decide) (by decide) (by decide) (by decide)
  have g17 : M1 317 = M 317 := hG 317 (by decide)
  have tb : TB M2 := ⟨n, t1, by rw [e13]; exact t2, by rw [hF.2.1, g17]; exact t3, brd_c t4 e22 e14, by rw [e13, hF.2.2.1, g17]; exact t5⟩
  have wb : WB M2 := ⟨xs, x1, ⟨by rw [hF.2.2.2, g17]; exact x2.1, fun k c hk => by rw [e24]; exact x2.2 k c hk⟩, ⟨by rw [e15]; exact x3.1, fun k c hk => by rw [e16]; exact x3.2 k c hk⟩⟩
  rcases hc with ⟨z, c1⟩ | ⟨z, c1⟩
  · obtain ⟨m1, m2⟩ := h0 z
    obtain ⟨w1, w2⟩ := hw z
    have c2 := cs_hi (fr_fx hF) (by omega) c1
    exact ⟨R', ok_re m1 w1, w2, ⟨qp_re m1 w1.1 c2.1, c2.2⟩, m2, tb, wb⟩
  · obtain ⟨m1, m2⟩ := h1 z
    have c2 := cs_hi (fr_fx hF) (by omega) c1
    have w1 : OK9 a := by rw [← ha]; exact j1
    exact ⟨R, ok_re m1 w1, j2, ⟨qp_re m1 w1.1 c2.1, c2.2⟩, m2, tb, wb⟩
end JOINT
section LROWS
variable {I : a_I} {pc uc us : Nat} {ls st : List Value} {M : Nat → Nat → Int32} {L : Nat → Nat → Int64} {dd : UInt64} {a a' : Row} {R R' : List Row} {thr : Int32} {V : Int64 → Prop} {V2 : Value → Prop} {Q : a_Q}
theorem m_lw {ix n : Nat} {y : MethodName} {I' : a_I} {As : List Value} (hd : decode (i_cc I) pc = .ok (.invokestatic ix, 3)) (hc : a_CS (i_own I) ix y I' n) (hM : XWg y I' As M L dd thr V a a' R R') (hn : As.length = n)
    (hd1 : i_d I' + 1 ≤ i_d I) (hnl : i_nL I' ≤ 40) (hst : (st.map fun v => v.category).sum ≤ 8) (hmc : i_mc I' ≤ 7) (hms : i_ms I' ≤ 42) (hu : uc + 7 ≤ i_mc I) (hv : us + 42 ≤ i_ms I) (hh : i_hh I = [])
    (kk : ∀ M' L', Gx M M' → ((thr = 0 ∧ V (L' 325 0) ∧ CS M' a' R') ∨ (thr ≠ 0 ∧ CS M' a R)) → AW I (pc + 3) ls (.int thr :: st) (hS M' L' dd) (uc + 7) (us + 42) Q) : AW I pc ls (As.reverse ++ st) (hS M L dd) uc us Q := by
  refine r_callS hd hc hM hn ⟨hd1, hnl, hst, by omega, by omega⟩ ⟨?_, ?_⟩
  · rintro v h2 ⟨M', L', e, rfl, x1, x2, x⟩
    cases e
    refine ⟨fun z => (Bool.false_ne_true z).elim, ?_⟩
    exact r_wide (by omega) (by omega) hu hv (kk M' L' x1 x)
  · rintro E h2 ⟨M', L', e, rfl, x1, x2, x⟩
    cases e
theorem m_lm {ix n c ci : Nat} {y : MethodName} {I' : a_I} {As : List Value} {vs : (Nat → Int32) → List Value} (hd : decode (i_cc I) pc = .ok (.invokevirtual ix, 3)) (hc : a_CV (i_own I) ix y I' n) (hM : MQa y I' (.ref c :: As) M L dd thr V2 a a' R R') (hn : As.length = n) (ho : OB c ci vs) (hci : ∃ r, a_cls[ci]? = some r ∧ r.1 = y.cls)
    (hz : i_mc I' = 0 ∧ i_ms I' = 0) (hd1 : i_d I' + 1 ≤ i_d I) (hnl : i_nL I' ≤ 40) (hst : (st.map fun v => v.category).sum ≤ 8) (hu : uc ≤ i_mc I) (hv : us ≤ i_ms I)
    (kk : ∀ x M', TR (i_ret I') x → M' 317 5 = thr → (thr = 0 → V2 x) → Fx M M' → (thr = 0 → MS M' a' R') → (thr ≠ 0 → MS M' a R) → AW I (pc + 3) ls (x :: st) (hS M' L dd) uc us Q) : AW I pc ls (As.reverse ++ .ref c :: st) (hS M L dd) uc us Q := by
  refine r_callV hd hc hM hn ((hp_at ho.1).trans (by rw [ho.2])) hci ⟨hd1, hnl, hst, by omega, by omega⟩ ⟨?_, ?_⟩
  · rintro v h2 ⟨x, M', e, x0, rfl, x1, x2, x3, x4, x5⟩
    cases e
    refine ⟨fun z => (Bool.false_ne_true z).elim, ?_⟩
    rw [hz.1, hz.2]
    exact kk x M' x0 x1 x2 x3 x4 x5
  · rintro E h2 ⟨x, M', e, x0, rfl, x1, x2, x3, x4, x5⟩
    cases e
theorem tr_int {x : Value} (h : TR (some .int) x) : ∃ v, x = .int v := by
  cases x <;> first | exact ⟨_, rfl⟩ | exact absurd h (fun z => z)
theorem tr_long {x : Value} (h : TR (some .long) x) : ∃ v, x = .long v := by
  cases x <;> first | exact ⟨_, rfl⟩ | exact absurd h (fun z => z)
theorem tr_float {x : Value} (h : TR (some .float) x) : ∃ v, x = .float v := by
  cases x <;> first | exact ⟨_, rfl⟩ | exact absurd h (fun z => z)
end LROWS
