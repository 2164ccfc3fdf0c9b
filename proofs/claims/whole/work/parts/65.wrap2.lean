/-! THE LAW'S WRAPPERS: append, load, part -/
section DBL
variable {I : a_I} {pc uc us : Nat} {ls st : List Value} {h : a_H} {Q : a_Q} {M : Nat → Nat → Int32} {L : Nat → Nat → Int64} {dd x : UInt64}
/-- an array's cell is what it holds below its length -/
theorem r_sameD {c : Nat} {f f' : Nat → UInt64} (hh : h.2[c]? = some (.inl (3, 1, .inr (.inr (.inr (.inl f)))))) (e : f 0 = f' 0) (kk : AW I pc ls st (h.1, h.2.set c (.inl (3, 1, .inr (.inr (.inr (.inl f')))))) uc us Q) : AW I pc ls st h uc us Q := by
  intro V p l e9 R s m args below meth c9 H locs Gl ws tys lsC hC hR hN hH hS hu hv2 hL
  obtain ⟨cA, t0, e1, e2⟩ := hH.1.arrAt hh
  have hl : c < ws.length := (List.getElem?_eq_some_iff.mp e1).1
  have key : ∀ (k : Nat) (q : Nat × va_E), (ws.set c (a_ad V c, .inl (cA, a_ca V (1, .inr (.inr (.inr (.inl f')))))))[k]? = some q → (k = c ∧ q = (a_ad V c, .inl (cA, a_ca V (1, .inr (.inr (.inr (.inl f'))))))) ∨ ws[k]? = some q := by
    intro k q hk
    by_cases z : k = c
    · subst z
      rw [List.getElem?_set_self hl] at hk
      cases hk
      exact Or.inl ⟨rfl, rfl⟩
    · rw [List.getElem?_set_ne (Ne.symm z)] at hk
      exact Or.inr hk
  have cell : vp_cell cA (a_ca V (1, .inr (.inr (.inr (.inl f'))))) = vp_cell cA (a_ca V (1, .inr (.inr (.inr (.inl f))))) := by
    show arrV cA 1 (fun j => .double (f' j)) = arrV cA 1 (fun j => .double (f j))
    have : ∀ g : Nat → UInt64, arrV cA 1 (fun j => .double (g j)) = arrV cA 1 (fun _ => .double (g 0)) := by
      intro g
      unfold arrV
      congr 1
    rw [this f', this f, e]
  refine kk V p l e9 R s m args below meth c9 H locs Gl (ws.set c (a_ad V c, .inl (cA, a_ca V (1, .inr (.inr (.inr (.inl f'))))))) tys lsC hC hR (fun z => by rw [List.length_set]; exact hN z) ⟨hH.1.setA hh e2 _, fun k q hk => ?_, ⟨fun i j p q hi hj hpq => ?_, fun k q hk => ?_⟩, hH.2.2.2⟩ hS hu hv2 hL
  · rcases key k q hk with ⟨-, rfl⟩ | y
    · have := hH.2.1 c _ e1
      show H[a_ad V c]? = some (vp_cell cA (a_ca V (1, .inr (.inr (.inr (.inl f'))))))
      rw [cell]; exact this
    · exact hH.2.1 k q y
  · have ai : ∃ p', ws[i]? = some p' ∧ p'.1 = p.1 := by
      rcases key i p hi with ⟨rfl, rfl⟩ | y
      · exact ⟨_, e1, rfl⟩
      · exact ⟨p, y, rfl⟩
    have aj : ∃ p', ws[j]? = some p' ∧ p'.1 = q.1 := by
      rcases key j q hj with ⟨rfl, rfl⟩ | y
      · exact ⟨_, e1, rfl⟩
      · exact ⟨q, y, rfl⟩
    obtain ⟨p', y1, y2⟩ := ai
    obtain ⟨q', y3, y4⟩ := aj
    exact hH.2.2.1.1 i j p' q' y1 y3 (by rw [y2, y4, hpq])
  · rcases key k q hk with ⟨rfl, rfl⟩ | y
    · have y := hH.2.2.1.2 k _ e1
      exact y
    · exact hH.2.2.1.2 k q y
theorem m_cellD {r : Nat → Int32} {w : Nat → Int64} {c : Nat} (h : ¬ c = 326) : m_cell r w dd c = m_cell r w x c := by
  unfold m_cell
  simp only [if_neg h]
theorem hp_setD : (hp M L dd).set 326 (.inl (3, 1, .inr (.inr (.inr (.inl (fun _ => x)))))) = hp M L x := by
  refine List.ext_getElem? fun i => ?_
  have hl : (hp M L dd).length = 327 := by unfold hp; simp
  by_cases hi : i < 327
  · rw [hp_at hi]
    by_cases z : i = 326
    · subst z
      rw [List.getElem?_set_self (by rw [hl]; decide)]
      rfl
    · rw [List.getElem?_set_ne (Ne.symm z), hp_at hi, m_cellD z]
  · rw [List.getElem?_eq_none (by rw [List.length_set, hl]; omega), List.getElem?_eq_none (by unfold hp; simp; omega)]
theorem m_dast (hd : decode (i_cc I) pc = .ok (.dastore, 1)) (kk : AW I (pc + 1) ls st (hS M L x) uc us Q) : AW I pc ls (.double x :: .int 0 :: .ref 326 :: st) (hS M L dd) uc us Q := by
  refine r_dast hd (c := 326) (n := 1) (f := fun _ => dd) (hp_at (by decide)) (vp_in_nI (n := 0) (N := 1) (by decide) (by decide)) ?_
  refine r_sameD (c := 326) (f := vf_upd (fun _ => dd) (Int32.toNatClampNeg 0) x) (f' := fun _ => x) (List.getElem?_set_self (by show 326 < (hp M L dd).length; unfold hp; simp)) rfl ?_
  show AW I (pc + 1) ls st (false, ((hp M L dd).set 326 _).set 326 _) uc us Q
  rw [List.set_set, hp_setD]
  exact kk
theorem m_dald (hd : decode (i_cc I) pc = .ok (.daload, 1)) (kk : AW I (pc + 1) ls (.double dd :: st) (hS M L dd) uc us Q) : AW I pc ls (.int 0 :: .ref 326 :: st) (hS M L dd) uc us Q :=
  r_dald hd (c := 326) (n := 1) (f := fun _ => dd) (hp_at (by decide)) (vp_in_nI (n := 0) (N := 1) (by decide) (by decide)) kk
end DBL
section WRAP2
variable {M : Nat → Nat → Int32} {L : Nat → Nat → Int64} {dd : UInt64} {a a' : Row} {R R' : List Row} {T : Nat} {thr : Int32} {V : Value → Prop} {Q : a_Q} {q0 q1 q2 q3 q4 : Int32} {g : Nat → Int32} {r0 : Row}
def ApW (M M' : Nat → Nat → Int32) (n : Nat) (q0 q1 q2 q3 q4 : Int32) : Prop := (∀ c, c ≠ 313 → c ≠ 314 → M' c = M c) ∧ (∀ i, i ≠ 0 → M' 313 i = M 313 i) ∧ M' 313 0 = nI (n + 20) ∧ ∀ i, M' 314 i = if n ≤ i ∧ i < n + 20 then (apX q0 q1 q2 q3 q4 (i - n)).toInt8.toInt32 else M 314 i
theorem w_append {n : Nat} (h : M 313 0 = nI n) (hn : n ≤ 600) : AM yL_append I_L_append [.ref 0, .int q0, .int q1, .int q2, .int q3, .int q4, .ref 325] (hS M L dd) (fun o h' => ∃ M' L', o = .inl (some (.int (thAp n))) ∧ h' = hS M' L' dd ∧ ((thAp n = 0 ∧ L' 325 0 = (nI (n + 20)).toInt64 ∧ ApW M M' n q0 q1 q2 q3 q4) ∨ (thAp n ≠ 0 ∧ M' = M))) := by
  refine am_mk (fun Q hq => ?_)
  refine a_metH (by decide +kernel) rfl (by decide) (Nat.le_of_ble_eq_true rfl) (by simp [Value.category]) (by decide) rfl ?_
  show AW I_L_append 0 [.ref 0, .int q0, .int q1, .int q2, .int q3, .int q4, .ref 325, .null] [] (hS M L dd) 0 0 Q
  refine r_aload dL_append_0 rfl ?_
  refine r_iconst_0 dL_append_2 ?_
  refine r_aload_n dL_append_3 rfl ?_
  refine r_iload_n dL_append_4 rfl ?_
  refine r_iload_n dL_append_5 rfl ?_
  refine r_iload_n dL_append_6 rfl ?_
  refine r_iload dL_append_7 rfl ?_
  refine r_iload dL_append_9 rfl ?_
  refine r_callV (As := [.int q0, .int q1, .int q2, .int q3, .int q4]) (vs := [.ref 1, .ref 32, .ref 63, .ref 313, .ref 315]) (ci := 9) dL_append_11 cv_L_7 (c_X9_append h hn) rfl rfl ⟨_, rfl, rfl⟩ ⟨by decide, by decide, Nat.le_of_ble_eq_true rfl, by decide, by decide⟩ ⟨?_, ?_⟩
  · rintro v h2 ⟨M1, rfl, x1, x2, x⟩
    refine ⟨fun z => (Bool.false_ne_true z).elim, ?_⟩
    rcases x with ⟨h0, e, x3, x4⟩ | ⟨h0, e, x3⟩
    · cases e
      refine r_i2l dL_append_14 ?_
      refine m_last 0 dL_append_15 al_out rfl (by omega) (by first | decide | assumption) ?_
      refine r_goto 23 dL_append_16 (by decide) ?_
      refine r_iconst_0 dL_append_23 ?_
      exact r_iret dL_append_24 rfl (hq _ _ ⟨M1, _, by rw [h0], rfl, Or.inl ⟨h0, (congrFun mL_s 0).trans (if_pos rfl), x1, x2, x3, x4⟩⟩)
    · cases e
  · rintro E h2 ⟨M1, rfl, x1, x2, x⟩
    rcases x with ⟨h0, e, x3, x4⟩ | ⟨h0, e, x3⟩
    · cases e
    · cases e
      have h1 : thAp n = 1 := by
        unfold thAp at h0 ⊢
        by_cases z : 600 < n + 20
        · exact if_pos z
        · exact absurd (if_neg z) h0
      refine Or.inr ⟨19, 7, 21, hd_append_0, rfl, fun j w hj hk => ?_, ?_⟩
      · exact cat_r (show [.ref 0, .int q0, .int q1, .int q2, .int q3, .int q4, .ref 325, .null][j]? = some w from hj) rfl
      · exact r_iconst_1 dL_append_21 (r_iret dL_append_22 rfl (hq _ _ ⟨M1, L, by rw [h1], rfl, Or.inr ⟨h0, x3⟩⟩))
def thLd (m : Int32) (N : Nat) : Int32 := if 0 ≤ m ∧ m ≤ nI N then 0 else 1
def LdW (M M' : Nat → Nat → Int32) (L' : Nat → Nat → Int64) (a : Row) (R : List Row) (P : PS) : Prop :=
  (∀ c, 314 ≤ c → M' c = M c) ∧ M' 313 0 = 0 ∧ M' 313 2 = P.ea ∧ ((P.er ≠ 0 ∧ L' 325 0 = P.er.toInt64 ∧ CS M' a R) ∨ (P.er = 0 ∧ L' 325 0 = (fiS P.ra 4).toInt64 ∧ CS M' (fiS P.ra) (pushR R a)))
theorem w_load (hr : RE iniS r0) {m : Int32} {N : Nat} (hC : CS M a R) (hW : WF T a) (hF : M 313 0 = nI N) (hN : N ≤ 600) : AM yL_load I_L_load [.ref 0, .int m, .ref 325] (hS M L dd) (fun o h' => ∃ M' L', o = .inl (some (.int (thLd m N))) ∧ h' = hS M' L' dd ∧ ((thLd m N = 0 ∧ ∃ n, n ≤ N ∧ m = nI n ∧ LdW M M' L' a R (ldP (M 314) n r0)) ∨ (thLd m N = 1 ∧ M' = M))) := by
  refine am_mk (fun Q hq => ?_)
  refine a_metH (by decide +kernel) rfl (by decide) (Nat.le_of_ble_eq_true rfl) (by simp [Value.category]) (by decide) rfl ?_
  show AW I_L_load 0 [.ref 0, .int m, .ref 325, .null] [] (hS M L dd) 0 0 Q
  refine r_aload_n dL_load_0 rfl ?_
  refine r_iconst_0 dL_load_1 ?_
  refine r_aload_n dL_load_2 rfl ?_
  refine r_iload_n dL_load_3 rfl ?_
  refine r_callV (As := [.int m]) (vs := [.ref 1, .ref 32, .ref 63, .ref 313, .ref 315]) (ci := 9) dL_load_4 cv_L_15 (c_X9_load hr hC hW hF hN) rfl rfl ⟨_, rfl, rfl⟩ ⟨by decide, by decide, Nat.le_of_ble_eq_true rfl, by decide, by decide⟩ ⟨?_, ?_⟩
  · rintro v h2 ⟨M1, L1, rfl, x1, x2, x⟩
    refine ⟨fun z => (Bool.false_ne_true z).elim, ?_⟩
    rcases x with ⟨h0, e, x3, x4⟩ | ⟨n, hn, em, y1, y2, y3⟩
    · cases e
    · have h0 : thLd m N = 0 := if_pos ⟨by rw [em]; exact nI_pos' (by omega), by rw [em]; exact nI_le hn (by omega)⟩
      have fin : ∀ x : Int32, v = some (.int x) → (((ldP (M 314) n r0).er ≠ 0 ∧ x = (ldP (M 314) n r0).er ∧ CS M1 a R) ∨ ((ldP (M 314) n r0).er = 0 ∧ x = fiS (ldP (M 314) n r0).ra 4 ∧ CS M1 (fiS (ldP (M 314) n r0).ra) (pushR R a))) → AW I_L_load (4 + 3) [.ref 0, .int m, .ref 325, .null] (v.toList ++ [.int 0, .ref 325]) (hS M1 L1 dd) 1 6 Q := by
        intro x ev hx
        subst ev
        refine r_i2l dL_load_7 ?_
        refine m_last 0 dL_load_8 al_out rfl (by omega) (by first | decide | assumption) ?_
        refine r_goto 15 dL_load_9 (by decide) ?_
        refine r_iconst_0 dL_load_15 ?_
        refine r_iret dL_load_16 rfl (hq _ _ ⟨M1, _, by rw [h0], rfl, Or.inl ⟨h0, n, hn, em, x1, y1, y2, ?_⟩⟩)
        rcases hx with ⟨z1, z2, z3⟩ | ⟨z1, z2, z3⟩
        · exact Or.inl ⟨z1, by rw [← z2]; exact (congrFun mL_s 0).trans (if_pos rfl), z3⟩
        · exact Or.inr ⟨z1, by rw [← z2]; exact (congrFun mL_s 0).trans (if_pos rfl), z3⟩
      rcases y3 with ⟨z1, z2, z3⟩ | ⟨z1, z2, z3⟩
      · exact fin _ (Sum.inl.inj z2) (Or.inl ⟨z1, rfl, z3⟩)
      · exact fin _ (Sum.inl.inj z2) (Or.inr ⟨z1, rfl, z3⟩)
  · rintro E h2 ⟨M1, L1, rfl, x1, x2, x⟩
    rcases x with ⟨h0, e, x3, x4⟩ | ⟨n, hn, em, y1, y2, ⟨z1, z2, z3⟩ | ⟨z1, z2, z3⟩⟩
    · cases e
      have h1 : thLd m N = 1 := if_neg h0
      refine Or.inr ⟨12, 3, 13, hd_load_0, rfl, fun j w hj hk => ?_, ?_⟩
      · exact cat_r (show [.ref 0, .int m, .ref 325, .null][j]? = some w from hj) rfl
      · exact r_iconst_1 dL_load_13 (r_iret dL_load_14 rfl (hq _ _ ⟨M1, L1, by rw [h1], rfl, Or.inr ⟨h1, x3⟩⟩))
    · cases z2
    · cases z2
theorem w_part {u : Int32} (ht : thr = 0 ∨ thr = 1 ∨ thr = 2) {xf : UInt32} (hn : vf_n32 xf) (hM : XQa yX9_part I_X9_part [.ref 0, .int u] M L dd thr [ex_I, a_NSE] (fun x => x = .float xf) a a' R R') : AM yL_part I_L_part [.ref 0, .int u, .ref 326] (hS M L dd) (fun o h' => ∃ M' L' dd', o = .inl (some (.int thr)) ∧ h' = hS M' L' dd' ∧ Gx M M' ∧ (∀ c, 313 ≤ c → L' c = L c) ∧ ((thr = 0 ∧ dd' = FP.f2d xf ∧ CS M' a' R') ∨ (thr ≠ 0 ∧ CS M' a R))) := by
  refine am_mk (fun Q hq => ?_)
  refine a_metH (by decide +kernel) rfl (by decide) (Nat.le_of_ble_eq_true rfl) (by simp [Value.category]) (by decide) rfl ?_
  show AW I_L_part 0 [.ref 0, .int u, .ref 326, .null] [] (hS M L dd) 0 0 Q
  refine r_aload_n dL_part_0 rfl ?_
  refine r_iconst_0 dL_part_1 ?_
  refine r_aload_n dL_part_2 rfl ?_
  refine r_iload_n dL_part_3 rfl ?_
  refine m_xw (As := [.int u]) dL_part_4 cv_L_87 hM rfl ob_x ⟨_, rfl, rfl⟩ (by decide) (by decide) (Nat.le_of_ble_eq_true rfl) (by decide) (by decide) (fun x M1 L1 h0 hv x1 x2 x3 => ?_) (fun M1 L1 h0 x1 x2 x3 => ?_)
  · subst hv
    refine r_f2d dL_part_7 (f2d_ok hn) ?_
    refine m_dast dL_part_8 ?_
    refine r_goto 18 dL_part_9 (by decide) ?_
    refine r_iconst_0 dL_part_18 ?_
    exact r_iret dL_part_19 rfl (hq _ _ ⟨M1, L1, _, by rw [h0], rfl, x1, x2, Or.inl ⟨h0, rfl, x3⟩⟩)
  · rcases ht with ht | ht | ht
    · exact absurd ht h0
    · refine ⟨12, 3, 13, by rw [ht]; exact hd_part_0, fun j w hj hk => ?_, ?_⟩
      · exact cat_r (show [.ref 0, .int u, .ref 326, .null][j]? = some w from hj) rfl
      · exact r_iconst_1 dL_part_13 (r_iret dL_part_14 rfl (hq _ _ ⟨M1, L1, dd, by rw [ht], rfl, x1, x2, Or.inr ⟨h0, x3⟩⟩))
    · refine ⟨15, 3, 16, by rw [ht]; exact hd_part_1, fun j w hj hk => ?_, ?_⟩
      · exact cat_r (show [.ref 0, .int u, .ref 326, .null][j]? = some w from hj) rfl
      · exact r_iconst_2 dL_part_16 (r_iret dL_part_17 rfl (hq _ _ ⟨M1, L1, dd, by rw [ht], rfl, x1, x2, Or.inr ⟨h0, x3⟩⟩))
end WRAP2
