theorem a_defi (ty : FieldType) (t : Nat) (cA : ClassId) : True := trivial
section AH2
variable {I : a_I} {pc uc us : Nat} {ls st : List Value} {h : a_H} {Q : a_Q}
theorem r_iald {c n : Nat} {f : Nat → Int32} {i : Int32} (hd : decode (i_cc I) pc = .ok (.iaload, 1)) (hh : h.2[c]? = some (.inl (0, n, .inl f))) (hin : vp_in i n) (kk : AW I (pc + 1) ls (.int (f i.toNatClampNeg) :: st) h uc us Q) : AW I pc ls (.int i :: .ref c :: st) h uc us Q := by
  intro V p l e R s m args below meth c9 H locs Gl ws tys lsC hC hR hN hH hS hu hv2 hL
  obtain ⟨cA, t0, e1, e2⟩ := hH.1.arrAt hh
  exact va_iald hC.1 hC.2.1 hH.2.2.2 hH.2.1 c t0 e1 e2 hin hd (kk V p l e R s m args below meth c9 H locs Gl ws tys lsC hC hR hN hH hS hu hv2 hL)
theorem r_iast {c n : Nat} {f : Nat → Int32} {i : Int32} {x : Int32} (hd : decode (i_cc I) pc = .ok (.iastore, 1)) (hh : h.2[c]? = some (.inl (0, n, .inl f))) (hin : vp_in i n) (kk : AW I (pc + 1) ls st (h.1, h.2.set c (.inl (0, n, .inl (upd f i.toNatClampNeg x)))) uc us Q) : AW I pc ls (.int x :: .int i :: .ref c :: st) h uc us Q := by
  intro V p l e R s m args below meth c9 H locs Gl ws tys lsC hC hR hN hH hS hu hv2 hL
  obtain ⟨cA, t0, e1, e2⟩ := hH.1.arrAt hh
  refine va_iast hC.1 hC.2.1 hH.2.2.2 hH.2.1 hH.2.2.1 hS c t0 e1 e2 hin hd (fun H1 locs1 hP hD hS1 => ?_)
  exact kk V p l e R s m args below meth c9 H1 locs1 Gl _ tys lsC hC hR (fun z => by rw [List.length_set]; exact hN z) ⟨hH.1.setA hh e2 _, hP, hD, hH.2.2.2⟩ hS1 hu hv2 hL
theorem r_bald {c n : Nat} {f : Nat → Int32} {i : Int32} (hd : decode (i_cc I) pc = .ok (.baload, 1)) (hh : h.2[c]? = some (.inl (1, n, .inl f))) (hin : vp_in i n) (kk : AW I (pc + 1) ls (.int (f i.toNatClampNeg) :: st) h uc us Q) : AW I pc ls (.int i :: .ref c :: st) h uc us Q := by
  intro V p l e R s m args below meth c9 H locs Gl ws tys lsC hC hR hN hH hS hu hv2 hL
  obtain ⟨cA, t0, e1, e2⟩ := hH.1.arrAt hh
  exact va_bald hC.1 hC.2.1 hH.2.2.2 hH.2.1 c t0 e1 e2 hin hd (kk V p l e R s m args below meth c9 H locs Gl ws tys lsC hC hR hN hH hS hu hv2 hL)
theorem r_bast {c n : Nat} {f : Nat → Int32} {i : Int32} {x : Int32} (hd : decode (i_cc I) pc = .ok (.bastore, 1)) (hh : h.2[c]? = some (.inl (1, n, .inl f))) (hin : vp_in i n) (kk : AW I (pc + 1) ls st (h.1, h.2.set c (.inl (1, n, .inl (upd f i.toNatClampNeg (vp_nar .byte x))))) uc us Q) : AW I pc ls (.int x :: .int i :: .ref c :: st) h uc us Q := by
  intro V p l e R s m args below meth c9 H locs Gl ws tys lsC hC hR hN hH hS hu hv2 hL
  obtain ⟨cA, t0, e1, e2⟩ := hH.1.arrAt hh
  refine va_bast hC.1 hC.2.1 hH.2.2.2 hH.2.1 hH.2.2.1 hS c t0 e1 e2 hin hd (fun H1 locs1 hP hD hS1 => ?_)
  exact kk V p l e R s m args below meth c9 H1 locs1 Gl _ tys lsC hC hR (fun z => by rw [List.length_set]; exact hN z) ⟨hH.1.setA hh e2 _, hP, hD, hH.2.2.2⟩ hS1 hu hv2 hL
theorem r_lald {c n : Nat} {f : Nat → Int64} {i : Int32} (hd : decode (i_cc I) pc = .ok (.laload, 1)) (hh : h.2[c]? = some (.inl (2, n, .inr (.inl f)))) (hin : vp_in i n) (kk : AW I (pc + 1) ls (.long (f i.toNatClampNeg) :: st) h uc us Q) : AW I pc ls (.int i :: .ref c :: st) h uc us Q := by
  intro V p l e R s m args below meth c9 H locs Gl ws tys lsC hC hR hN hH hS hu hv2 hL
  obtain ⟨cA, t0, e1, e2⟩ := hH.1.arrAt hh
  exact va_lald hC.1 hC.2.1 hH.2.2.2 hH.2.1 c t0 e1 e2 hin hd (kk V p l e R s m args below meth c9 H locs Gl ws tys lsC hC hR hN hH hS hu hv2 hL)
theorem r_last {c n : Nat} {f : Nat → Int64} {i : Int32} {x : Int64} (hd : decode (i_cc I) pc = .ok (.lastore, 1)) (hh : h.2[c]? = some (.inl (2, n, .inr (.inl f)))) (hin : vp_in i n) (kk : AW I (pc + 1) ls st (h.1, h.2.set c (.inl (2, n, .inr (.inl (vp_updL f i.toNatClampNeg (x)))))) uc us Q) : AW I pc ls (.long x :: .int i :: .ref c :: st) h uc us Q := by
  intro V p l e R s m args below meth c9 H locs Gl ws tys lsC hC hR hN hH hS hu hv2 hL
  obtain ⟨cA, t0, e1, e2⟩ := hH.1.arrAt hh
  refine va_last hC.1 hC.2.1 hH.2.2.2 hH.2.1 hH.2.2.1 hS c t0 e1 e2 hin hd (fun H1 locs1 hP hD hS1 => ?_)
  exact kk V p l e R s m args below meth c9 H1 locs1 Gl _ tys lsC hC hR (fun z => by rw [List.length_set]; exact hN z) ⟨hH.1.setA hh e2 _, hP, hD, hH.2.2.2⟩ hS1 hu hv2 hL
theorem r_dald {c n : Nat} {f : Nat → UInt64} {i : Int32} (hd : decode (i_cc I) pc = .ok (.daload, 1)) (hh : h.2[c]? = some (.inl (3, n, .inr (.inr (.inr (.inl f)))))) (hin : vp_in i n) (kk : AW I (pc + 1) ls (.double (f i.toNatClampNeg) :: st) h uc us Q) : AW I pc ls (.int i :: .ref c :: st) h uc us Q := by
  intro V p l e R s m args below meth c9 H locs Gl ws tys lsC hC hR hN hH hS hu hv2 hL
  obtain ⟨cA, t0, e1, e2⟩ := hH.1.arrAt hh
  exact va_dald hC.1 hC.2.1 hH.2.2.2 hH.2.1 c t0 e1 e2 hin hd (kk V p l e R s m args below meth c9 H locs Gl ws tys lsC hC hR hN hH hS hu hv2 hL)
theorem r_dast {c n : Nat} {f : Nat → UInt64} {i : Int32} {x : UInt64} (hd : decode (i_cc I) pc = .ok (.dastore, 1)) (hh : h.2[c]? = some (.inl (3, n, .inr (.inr (.inr (.inl f)))))) (hin : vp_in i n) (kk : AW I (pc + 1) ls st (h.1, h.2.set c (.inl (3, n, .inr (.inr (.inr (.inl (vf_upd f i.toNatClampNeg (x)))))))) uc us Q) : AW I pc ls (.double x :: .int i :: .ref c :: st) h uc us Q := by
  intro V p l e R s m args below meth c9 H locs Gl ws tys lsC hC hR hN hH hS hu hv2 hL
  obtain ⟨cA, t0, e1, e2⟩ := hH.1.arrAt hh
  refine va_dast hC.1 hC.2.1 hH.2.2.2 hH.2.1 hH.2.2.1 hS c t0 e1 e2 hin hd (fun H1 locs1 hP hD hS1 => ?_)
  exact kk V p l e R s m args below meth c9 H1 locs1 Gl _ tys lsC hC hR (fun z => by rw [List.length_set]; exact hN z) ⟨hH.1.setA hh e2 _, hP, hD, hH.2.2.2⟩ hS1 hu hv2 hL
theorem r_aald {c n b : Nat} {f : Nat → Option Nat} {i : Int32} (hd : decode (i_cc I) pc = .ok (.aaload, 1)) (hh : h.2[c]? = some (.inl (4, n, .inr (.inr (.inr (.inr f)))))) (hin : vp_in i n) (hb : f i.toNatClampNeg = some b) (kk : AW I (pc + 1) ls (.ref b :: st) h uc us Q) : AW I pc ls (.int i :: .ref c :: st) h uc us Q := by
  intro V p l e R s m args below meth c9 H locs Gl ws tys lsC hC hR hN hH hS hu hv2 hL
  obtain ⟨cA, t0, e1, e2⟩ := hH.1.arrAt hh
  refine va_aldq hC.1 hC.2.1 hH.2.2.2 hH.2.1 c t0 e1 e2 hin hd ?_
  rw [hb]
  exact kk V p l e R s m args below meth c9 H locs Gl ws tys lsC hC hR hN hH hS hu hv2 hL
theorem r_aast {c n b ci : Nat} {vs : List Value} {r : vw_C} {f : Nat → Option Nat} {i : Int32} (hd : decode (i_cc I) pc = .ok (.aastore, 1)) (hh : h.2[c]? = some (.inl (4, n, .inr (.inr (.inr (.inr f)))))) (hin : vp_in i n) (hb : h.2[b]? = some (.inr (ci, vs))) (hr : a_cls[ci]? = some r) (hr5 : r.1 = RX5) (kk : AW I (pc + 1) ls st (h.1, h.2.set c (.inl (4, n, .inr (.inr (.inr (.inr (va_up f i.toNatClampNeg (some b)))))))) uc us Q) : AW I pc ls (.ref b :: .int i :: .ref c :: st) h uc us Q := by
  intro V p l e R s m args below meth c9 H locs Gl ws tys lsC hC hR hN hH hS hu hv2 hL
  obtain ⟨cA, t0, e1, e2⟩ := hH.1.arrAt hh
  refine va_astq (r := r) hC.1 hC.2.1 hH.2.2.2 hH.2.1 hH.2.2.1 hS c t0 b ci e1 (by rw [hr5]; exact e2) (hH.1.objAt hb) hr hin hd (fun H1 locs1 hP hD hS1 => ?_)
  have e3 : va_up (fun j => (f j).map (a_ad V)) i.toNatClampNeg (some (a_ad V b)) = fun j => (va_up f i.toNatClampNeg (some b) j).map (a_ad V) := by
    funext j
    unfold va_up
    by_cases hj : j = i.toNatClampNeg <;> simp [hj]
  rw [e3] at hP hD
  exact kk V p l e R s m args below meth c9 H1 locs1 Gl _ tys lsC hC hR (fun z => by rw [List.length_set]; exact hN z) ⟨hH.1.setA hh e2 _, hP, hD, hH.2.2.2⟩ hS1 hu hv2 hL
theorem r_alen {c t : Nat} {a : vp_A} (hd : decode (i_cc I) pc = .ok (.arraylength, 1)) (hh : h.2[c]? = some (.inl (t, a))) (kk : AW I (pc + 1) ls (.int (Int32.ofNat a.1) :: st) h uc us Q) : AW I pc ls (.ref c :: st) h uc us Q := by
  intro V p l e R s m args below meth c9 H locs Gl ws tys lsC hC hR hN hH hS hu hv2 hL
  obtain ⟨cA, t0, e1, e2⟩ := hH.1.arrAt hh
  exact va_alen hC.1 hC.2.1 hH.2.2.2 hH.2.1 c t0 e1 e2 rfl hd (kk V p l e R s m args below meth c9 H locs Gl ws tys lsC hC hR hN hH hS hu hv2 hL)
theorem r_slen {L : Nat} {xs : Nat → Int32} (hd : decode (i_cc I) pc = .ok (.arraylength, 1)) (hx : i_xs I = some (L, xs)) (kk : AW I (pc + 1) ls (.int (Int32.ofNat L) :: st) h uc us Q) : AW I pc ls (.ref 5000 :: st) h uc us Q := by
  intro V p l e R s m args below meth c9 H locs Gl ws tys lsC hC hR hN hH hS hu hv2 hL
  have hX := hC.2.2.2.2.2.2.2.2.2.2.1
  have hB := hC.2.2.2.2.2.2.2.2.2.2.2.1
  have hq := hC.2.2.2.2.2.2.2.2.2.2.2.2 _ hx
  have hX1 := hX.1.1
  rw [hq.1, hq.2] at hX1
  exact va_slen hC.1 hC.2.1 hX1 (Nat.lt_of_lt_of_le hX.1.2 hB) (Nat.not_le.mpr hX.1.2) hS hd (kk V p l e R s m args below meth c9 H locs Gl ws tys lsC hC hR hN hH hS hu hv2 hL)
theorem r_sald {L : Nat} {xs : Nat → Int32} {i : Int32} (hd : decode (i_cc I) pc = .ok (.iaload, 1)) (hx : i_xs I = some (L, xs)) (hin : vp_in i L) (kk : AW I (pc + 1) ls (.int (xs i.toNatClampNeg) :: st) h uc us Q) : AW I pc ls (.int i :: .ref 5000 :: st) h uc us Q := by
  intro V p l e R s m args below meth c9 H locs Gl ws tys lsC hC hR hN hH hS hu hv2 hL
  have hX := hC.2.2.2.2.2.2.2.2.2.2.1
  have hB := hC.2.2.2.2.2.2.2.2.2.2.2.1
  have hq := hC.2.2.2.2.2.2.2.2.2.2.2.2 _ hx
  have hX1 := hX.1.1
  rw [hq.1, hq.2] at hX1
  exact va_sld hC.1 hC.2.1 hX1 (Nat.lt_of_lt_of_le hX.1.2 hB) (Nat.not_le.mpr hX.1.2) hS hin hd (kk V p l e R s m args below meth c9 H locs Gl ws tys lsC hC hR hN hH hS hu hv2 hL)
/-- a static array's reference: from the class itself, or from a nest mate -/
theorem r_gets {ix : Nat} (k : Nat) (hd : decode (i_cc I) pc = .ok (.getstatic ix, 3)) (hk : k < 3) (hw : Cond.fieldLink (i_own I) ix RX9 (a_sn k) "[I" ∈ a_GT ∨ Cond.fieldLinkNest (i_own I) ix RX9 (a_sn k) "[I" RX9 ∈ a_GN) (kk : AW I (pc + 3) ls (.ref (5001 + k) :: st) h uc us Q) : AW I pc ls st h uc us Q := by
  intro V p l e R s m args below meth c9 H locs Gl ws tys lsC hC hR hN hH hS hu hv2 hL
  have hX := hC.2.2.2.2.2.2.2.2.2.2.1
  rcases hw with hw | hw
  · exact va_gets hC.1 hC.2.1 (hX.2.1 k hk).1 hS hC.2.2.2.1 (hC.2.2.2.2.1 _ hw) (fun x hx => hx) hd (kk V p l e R s m args below meth c9 H locs Gl ws tys lsC hC hR hN hH hS hu hv2 hL)
  · exact va_getsN hC.1 hC.2.1 (hX.2.1 k hk).1 hS hC.2.2.2.1 (va_Nw.use rfl (hX.2.2.2.2.2.2.2.2.2 _ hw)) (fun x hx => hx) hd (kk V p l e R s m args below meth c9 H locs Gl ws tys lsC hC hR hN hH hS hu hv2 hL)
theorem r_tald {i : Int32} (k : Nat) (hd : decode (i_cc I) pc = .ok (.iaload, 1)) (hk : k < 3) (hin : vp_in i 3) (kk : AW I (pc + 1) ls (.int ((a_sv k).getD i.toNatClampNeg 0) :: st) h uc us Q) : AW I pc ls (.int i :: .ref (5001 + k) :: st) h uc us Q := by
  intro V p l e R s m args below meth c9 H locs Gl ws tys lsC hC hR hN hH hS hu hv2 hL
  have hX := hC.2.2.2.2.2.2.2.2.2.2.1
  exact va_ti hC.1 hC.2.1 (hX.2.1 k hk).2 hS hin rfl hd (kk V p l e R s m args below meth c9 H locs Gl ws tys lsC hC hR hN hH hS hu hv2 hL)
theorem r_kw {ix : Nat} (k : Nat) (hd : decode (i_cc I) pc = .ok (.ldc ix, 2)) (hk : (i_own I, ix, k) ∈ a_kc) (kk : AW I (pc + 2) ls (.ref (5010 + k) :: st) h uc us Q) : AW I pc ls st h uc us Q := by
  intro V p l e R s m args below meth c9 H locs Gl ws tys lsC hC hR hN hH hS hu hv2 hL
  have hX := hC.2.2.2.2.2.2.2.2.2.2.1
  exact va_ldcS hC.1 hC.2.1 hC.2.2.2.1 (hX.2.2.2.1 _ hk) hd (kk V p l e R s m args below meth c9 H locs Gl ws tys lsC hC hR hN hH hS hu hv2 hL)
theorem r_new_int {hl : List a_E} {n : Int32} (N : Nat) (hd : decode (i_cc I) pc = .ok (.newarray .int, 2)) (hw : Cond.arrayClass .int ∈ a_GT) (hn : ¬ n < 0) (hN : n.toNatClampNeg = N) (hb : N ≤ 65536) (hln : hl.length < 4999) (hu1 : uc + 1 ≤ i_mc I) (hv1 : us + N ≤ i_ms I)
    (kk : AW I (pc + 2) ls (.ref hl.length :: st) (true, hl ++ [.inl (0, N, .inl (fun _ => 0))]) (uc + 1) (us + N) Q) : AW I pc ls (.int n :: st) (true, hl) uc us Q := by
  intro V p l e R s m args below meth c9 H locs Gl ws tys lsC hC hR hNN hH hS hu hv2 hL
  have hroom := hC.2.2.2.2.2.2.2.1
  have hB := hC.2.2.2.2.2.2.2.2.2.2.2.1
  have hN1 := (hNN rfl).1
  refine va_newa (atype := .int) (ty := .int) (a0 := (N, .inl (fun _ => 0))) hC.1 hC.2.1 (hC.2.2.2.2.1 _ hw) rfl hH.2.2.2 hH.2.1 hH.2.2.1 hS (fun q hq => by unfold a_A; omega) (fun cA => rfl) hn hN (by show N * 4 ≤ _; omega) (by rw [hroom.2.2.1]; exact hu1) (by rw [hroom.2.2.2]; exact hv1) hd (fun q cA H1 hK hP hD hS1 => ?_)
  intro T hT X
  have hz := X.heapSize
  have hq : q < H1.size := (hP ws.length (q, .inl (cA, (N, .inl (fun _ => 0)))) (by rw [List.getElem?_append_right (Nat.le_refl _), Nat.sub_self]; rfl)).lt
  have hqa : q = a_ad V hl.length := a_new (h := hl) hH.1 (by omega) hD (by rw [hT] at hz; dsimp only at hN1; omega)
  subst hqa
  exact kk V p l e R s m args below meth c9 H1 locs Gl _ _ lsC hC hR (fun z => by dsimp only at hN1 ⊢; rw [List.length_append]; show _ = _ + (_ + 1) ∧ _ + 1 ≤ 5000; omega) ⟨hH.1.pushA cA 0 (N, .inl (fun _ => 0)), hP, hD, hK⟩ hS1 hu1 hv1 hL T hT X
theorem r_new_byte {hl : List a_E} {n : Int32} (N : Nat) (hd : decode (i_cc I) pc = .ok (.newarray .byte, 2)) (hw : Cond.arrayClass .byte ∈ a_GT) (hn : ¬ n < 0) (hN : n.toNatClampNeg = N) (hb : N ≤ 65536) (hln : hl.length < 4999) (hu1 : uc + 1 ≤ i_mc I) (hv1 : us + N ≤ i_ms I)
    (kk : AW I (pc + 2) ls (.ref hl.length :: st) (true, hl ++ [.inl (1, N, .inl (fun _ => 0))]) (uc + 1) (us + N) Q) : AW I pc ls (.int n :: st) (true, hl) uc us Q := by
  intro V p l e R s m args below meth c9 H locs Gl ws tys lsC hC hR hNN hH hS hu hv2 hL
  have hroom := hC.2.2.2.2.2.2.2.1
  have hB := hC.2.2.2.2.2.2.2.2.2.2.2.1
  have hN1 := (hNN rfl).1
  refine va_newa (atype := .byte) (ty := .byte) (a0 := (N, .inl (fun _ => 0))) hC.1 hC.2.1 (hC.2.2.2.2.1 _ hw) rfl hH.2.2.2 hH.2.1 hH.2.2.1 hS (fun q hq => by unfold a_A; omega) (fun cA => rfl) hn hN (by show N * 1 ≤ _; omega) (by rw [hroom.2.2.1]; exact hu1) (by rw [hroom.2.2.2]; exact hv1) hd (fun q cA H1 hK hP hD hS1 => ?_)
  intro T hT X
  have hz := X.heapSize
  have hq : q < H1.size := (hP ws.length (q, .inl (cA, (N, .inl (fun _ => 0)))) (by rw [List.getElem?_append_right (Nat.le_refl _), Nat.sub_self]; rfl)).lt
  have hqa : q = a_ad V hl.length := a_new (h := hl) hH.1 (by omega) hD (by rw [hT] at hz; dsimp only at hN1; omega)
  subst hqa
  exact kk V p l e R s m args below meth c9 H1 locs Gl _ _ lsC hC hR (fun z => by dsimp only at hN1 ⊢; rw [List.length_append]; show _ = _ + (_ + 1) ∧ _ + 1 ≤ 5000; omega) ⟨hH.1.pushA cA 1 (N, .inl (fun _ => 0)), hP, hD, hK⟩ hS1 hu1 hv1 hL T hT X
theorem r_new_long {hl : List a_E} {n : Int32} (N : Nat) (hd : decode (i_cc I) pc = .ok (.newarray .long, 2)) (hw : Cond.arrayClass .long ∈ a_GT) (hn : ¬ n < 0) (hN : n.toNatClampNeg = N) (hb : N ≤ 65536) (hln : hl.length < 4999) (hu1 : uc + 1 ≤ i_mc I) (hv1 : us + N ≤ i_ms I)
    (kk : AW I (pc + 2) ls (.ref hl.length :: st) (true, hl ++ [.inl (2, N, .inr (.inl (fun _ => 0)))]) (uc + 1) (us + N) Q) : AW I pc ls (.int n :: st) (true, hl) uc us Q := by
  intro V p l e R s m args below meth c9 H locs Gl ws tys lsC hC hR hNN hH hS hu hv2 hL
  have hroom := hC.2.2.2.2.2.2.2.1
  have hB := hC.2.2.2.2.2.2.2.2.2.2.2.1
  have hN1 := (hNN rfl).1
  refine va_newa (atype := .long) (ty := .long) (a0 := (N, .inr (.inl (fun _ => 0)))) hC.1 hC.2.1 (hC.2.2.2.2.1 _ hw) rfl hH.2.2.2 hH.2.1 hH.2.2.1 hS (fun q hq => by unfold a_A; omega) (fun cA => rfl) hn hN (by show N * 8 ≤ _; omega) (by rw [hroom.2.2.1]; exact hu1) (by rw [hroom.2.2.2]; exact hv1) hd (fun q cA H1 hK hP hD hS1 => ?_)
  intro T hT X
  have hz := X.heapSize
  have hq : q < H1.size := (hP ws.length (q, .inl (cA, (N, .inr (.inl (fun _ => 0))))) (by rw [List.getElem?_append_right (Nat.le_refl _), Nat.sub_self]; rfl)).lt
  have hqa : q = a_ad V hl.length := a_new (h := hl) hH.1 (by omega) hD (by rw [hT] at hz; dsimp only at hN1; omega)
  subst hqa
  exact kk V p l e R s m args below meth c9 H1 locs Gl _ _ lsC hC hR (fun z => by dsimp only at hN1 ⊢; rw [List.length_append]; show _ = _ + (_ + 1) ∧ _ + 1 ≤ 5000; omega) ⟨hH.1.pushA cA 2 (N, .inr (.inl (fun _ => 0))), hP, hD, hK⟩ hS1 hu1 hv1 hL T hT X
theorem r_new_double {hl : List a_E} {n : Int32} (N : Nat) (hd : decode (i_cc I) pc = .ok (.newarray .double, 2)) (hw : Cond.arrayClass .double ∈ a_GT) (hn : ¬ n < 0) (hN : n.toNatClampNeg = N) (hb : N ≤ 65536) (hln : hl.length < 4999) (hu1 : uc + 1 ≤ i_mc I) (hv1 : us + N ≤ i_ms I)
    (kk : AW I (pc + 2) ls (.ref hl.length :: st) (true, hl ++ [.inl (3, N, .inr (.inr (.inr (.inl (fun _ => 0)))))]) (uc + 1) (us + N) Q) : AW I pc ls (.int n :: st) (true, hl) uc us Q := by
  intro V p l e R s m args below meth c9 H locs Gl ws tys lsC hC hR hNN hH hS hu hv2 hL
  have hroom := hC.2.2.2.2.2.2.2.1
  have hB := hC.2.2.2.2.2.2.2.2.2.2.2.1
  have hN1 := (hNN rfl).1
  refine va_newa (atype := .double) (ty := .double) (a0 := (N, .inr (.inr (.inr (.inl (fun _ => 0)))))) hC.1 hC.2.1 (hC.2.2.2.2.1 _ hw) rfl hH.2.2.2 hH.2.1 hH.2.2.1 hS (fun q hq => by unfold a_A; omega) (fun cA => rfl) hn hN (by show N * 8 ≤ _; omega) (by rw [hroom.2.2.1]; exact hu1) (by rw [hroom.2.2.2]; exact hv1) hd (fun q cA H1 hK hP hD hS1 => ?_)
  intro T hT X
  have hz := X.heapSize
  have hq : q < H1.size := (hP ws.length (q, .inl (cA, (N, .inr (.inr (.inr (.inl (fun _ => 0))))))) (by rw [List.getElem?_append_right (Nat.le_refl _), Nat.sub_self]; rfl)).lt
  have hqa : q = a_ad V hl.length := a_new (h := hl) hH.1 (by omega) hD (by rw [hT] at hz; dsimp only at hN1; omega)
  subst hqa
  exact kk V p l e R s m args below meth c9 H1 locs Gl _ _ lsC hC hR (fun z => by dsimp only at hN1 ⊢; rw [List.length_append]; show _ = _ + (_ + 1) ∧ _ + 1 ≤ 5000; omega) ⟨hH.1.pushA cA 3 (N, .inr (.inr (.inr (.inl (fun _ => 0))))), hP, hD, hK⟩ hS1 hu1 hv1 hL T hT X
theorem r_anew {hl : List a_E} {n : Int32} {ix : Nat} (N : Nat) (hd : decode (i_cc I) pc = .ok (.anewarray ix, 3)) (hw1 : Cond.classLink (i_own I) ix RX5 ∈ a_GT) (hw : Cond.arrayOver (.object RX5) ∈ a_GN) (hn : ¬ n < 0) (hN : n.toNatClampNeg = N) (hb : N ≤ 65536) (hln : hl.length < 4999) (hu1 : uc + 1 ≤ i_mc I) (hv1 : us + N ≤ i_ms I)
    (kk : AW I (pc + 3) ls (.ref hl.length :: st) (true, hl ++ [.inl (4, N, .inr (.inr (.inr (.inr (fun _ => none)))))]) (uc + 1) (us + N) Q) : AW I pc ls (.int n :: st) (true, hl) uc us Q := by
  intro V p l e R s m args below meth c9 H locs Gl ws tys lsC hC hR hNN hH hS hu hv2 hL
  have hroom := hC.2.2.2.2.2.2.2.1
  have hB := hC.2.2.2.2.2.2.2.2.2.2.2.1
  have hN1 := (hNN rfl).1
  have hAO : va_AO RX5 s := hC.2.2.2.2.2.2.2.2.2.2.1.2.2.2.2.2.2.2.2.2 _ hw
  refine va_newq (C := RX5) hC.1 hC.2.1 hC.2.2.2.1 (hC.2.2.2.2.1 _ hw1) hAO hH.2.2.2 hH.2.1 hH.2.2.1 hS (fun q hq => by unfold a_A; omega) hn hN (by omega) (by rw [hroom.2.2.1]; exact hu1) (by rw [hroom.2.2.2]; exact hv1) hd (fun q cA H1 hK hP hD hS1 => ?_)
  intro T hT X
  have hz := X.heapSize
  have hq : q < H1.size := (hP ws.length (q, .inl (cA, (N, .inr (.inr (.inr (.inr (fun _ => none))))))) (by rw [List.getElem?_append_right (Nat.le_refl _), Nat.sub_self]; rfl)).lt
  have hqa : q = a_ad V hl.length := a_new (h := hl) hH.1 (by omega) hD (by rw [hT] at hz; dsimp only at hN1; omega)
  subst hqa
  exact kk V p l e R s m args below meth c9 H1 locs Gl _ _ lsC hC hR (fun z => by dsimp only at hN1 ⊢; rw [List.length_append]; show _ = _ + (_ + 1) ∧ _ + 1 ≤ 5000; omega) ⟨hH.1.pushA cA 4 (N, .inr (.inr (.inr (.inr (fun _ => none))))), hP, hD, hK⟩ hS1 hu1 hv1 hL T hT X
def a_AC (own : String) (ix : Nat) : Prop := Cond.methodLink own ix arraycopyName ∈ a_GT ∧ Cond.native arraycopyName ∈ a_GT ∧ Cond.static arraycopyName ∈ a_GT ∧ Cond.initialized "java/lang/System" ∈ a_GT
theorem r_copyi {ix a0 a n0 n1 : Nat} {f g : Nat → Int32} {sp dp n : Int32} (hd : decode (i_cc I) pc = .ok (.invokestatic ix, 3)) (hw : a_AC (i_own I) ix) (h0 : h.2[a0]? = some (.inl (0, n0, .inl f))) (h1 : h.2[a]? = some (.inl (0, n1, .inl g)))
    (g1 : ¬ sp < 0) (g2 : ¬ dp < 0) (g3 : ¬ n < 0) (g4 : sp.toNatClampNeg + n.toNatClampNeg ≤ n0) (g5 : dp.toNatClampNeg + n.toNatClampNeg ≤ n1) (hdp : 1 ≤ i_d I) (hst : (st.map fun v => v.category).sum ≤ 8)
    (kk : AW I (pc + 3) ls st (h.1, h.2.set a (.inl (0, n1, .inl (va_cpy f g sp.toNatClampNeg dp.toNatClampNeg n.toNatClampNeg)))) uc us Q) : AW I pc ls (.int n :: .int dp :: .ref a :: .int sp :: .ref a0 :: st) h uc us Q := by
  intro V p l e R s m args below meth c9 H locs Gl ws tys lsC hC hR hN hH hS hu hv2 hL
  obtain ⟨w1, w2, w3, w4⟩ := hw
  have hroom := hC.2.2.2.2.2.2.2.1
  obtain ⟨cA, t0, e1, e2⟩ := hH.1.arrAt h0
  obtain ⟨cB, t1, e3, e4⟩ := hH.1.arrAt h1
  have hcat : ((st.map (a_cv V)).map fun v => v.category).sum = (st.map fun v => v.category).sum := by rw [List.map_map]; congr 1; exact List.map_congr_left (fun v _ => a_cv_cat V v)
  have hnw : nativeFrameWords "java/lang/System" "arraycopy" 5 ≤ 30 := by decide +kernel
  refine va_copyi (ty := .int) hC.1 hC.2.1 (by rw [hC.2.2.1, hL.1]) hC.2.2.2.1 (hC.2.2.2.2.1 _ w1) (hC.2.2.2.2.1 _ w2) (hC.2.2.2.2.1 _ w3) (hC.2.2.2.2.1 _ w4) hH.2.2.2 hH.2.1 hH.2.2.1 hS a0 a t0 t1 e1 e3 e2 e4 rfl g1 g2 g3 g4 g5 (fun i _ => rfl) (by omega) (by rw [hcat]; omega) hd (fun H1 locs1 hP hD hS1 => ?_)
  exact kk V p l e R s m args below meth c9 H1 locs1 Gl _ tys lsC hC hR (fun z => by rw [List.length_set]; exact hN z) ⟨hH.1.setA h1 e4 _, hP, hD, hH.2.2.2⟩ hS1 hu hv2 hL
theorem r_mmax {ix : Nat} {x y : Int32} (hd : decode (i_cc I) pc = .ok (.invokestatic ix, 3)) (w1 : Cond.methodLink (i_own I) ix Lib.Math.max.name ∈ a_GT) (w2 : Cond.static Lib.Math.max.name ∈ a_GT) (w3 : Cond.initialized "java/lang/Math" ∈ a_GT) (w4 : Cond.code Lib.Math.max.name Lib.Math.max.code 2 (some .int) ∈ a_GT) (hdp : 1 ≤ i_d I) (hst : (st.map fun v => v.category).sum ≤ 8)
    (kk : AW I (pc + 3) ls (.int (if x < y then y else x) :: st) h uc us Q) : AW I pc ls (.int y :: .int x :: st) h uc us Q := by
  intro V p l e R s m args below meth c9 H locs Gl ws tys lsC hC hR hN hH hS hu hv2 hL
  have hroom := hC.2.2.2.2.2.2.2.1
  have hcat : ((st.map (a_cv V)).map fun v => v.category).sum = (st.map fun v => v.category).sum := by rw [List.map_map]; congr 1; exact List.map_congr_left (fun v _ => a_cv_cat V v)
  exact va_mmax hC.1 hC.2.1 (by rw [hC.2.2.1, hL.1]) hC.2.2.2.1 (hC.2.2.2.2.1 _ w1) (hC.2.2.2.2.1 _ w2) (hC.2.2.2.2.1 _ w3) (hC.2.2.2.2.1 _ w4) (by omega) (by rw [hcat]; omega) (by omega) (by omega) hd (kk V p l e R s m args below meth c9 H locs Gl ws tys lsC hC hR hN hH hS hu hv2 hL)
theorem r_mmin {ix : Nat} {x y : Int32} (hd : decode (i_cc I) pc = .ok (.invokestatic ix, 3)) (w1 : Cond.methodLink (i_own I) ix Lib.Math.min.name ∈ a_GT) (w2 : Cond.static Lib.Math.min.name ∈ a_GT) (w3 : Cond.initialized "java/lang/Math" ∈ a_GT) (w4 : Cond.code Lib.Math.min.name Lib.Math.min.code 2 (some .int) ∈ a_GT) (hdp : 1 ≤ i_d I) (hst : (st.map fun v => v.category).sum ≤ 8)
    (kk : AW I (pc + 3) ls (.int (if y < x then y else x) :: st) h uc us Q) : AW I pc ls (.int y :: .int x :: st) h uc us Q := by
  intro V p l e R s m args below meth c9 H locs Gl ws tys lsC hC hR hN hH hS hu hv2 hL
  have hroom := hC.2.2.2.2.2.2.2.1
  have hcat : ((st.map (a_cv V)).map fun v => v.category).sum = (st.map fun v => v.category).sum := by rw [List.map_map]; congr 1; exact List.map_congr_left (fun v _ => a_cv_cat V v)
  exact va_mmin hC.1 hC.2.1 (by rw [hC.2.2.1, hL.1]) hC.2.2.2.1 (hC.2.2.2.2.1 _ w1) (hC.2.2.2.2.1 _ w2) (hC.2.2.2.2.1 _ w3) (hC.2.2.2.2.1 _ w4) (by omega) (by rw [hcat]; omega) (by omega) (by omega) hd (kk V p l e R s m args below meth c9 H locs Gl ws tys lsC hC hR hN hH hS hu hv2 hL)
theorem r_mabs {ix : Nat} {x : Int32} (hd : decode (i_cc I) pc = .ok (.invokestatic ix, 3)) (w1 : Cond.methodLink (i_own I) ix Lib.Math.abs.name ∈ a_GT) (w2 : Cond.static Lib.Math.abs.name ∈ a_GT) (w3 : Cond.initialized "java/lang/Math" ∈ a_GT) (w4 : Cond.code Lib.Math.abs.name Lib.Math.abs.code 1 (some .int) ∈ a_GT) (hdp : 1 ≤ i_d I) (hst : (st.map fun v => v.category).sum ≤ 8)
    (kk : AW I (pc + 3) ls (.int (if 0 ≤ x then x else 0 - x) :: st) h uc us Q) : AW I pc ls (.int x :: st) h uc us Q := by
  intro V p l e R s m args below meth c9 H locs Gl ws tys lsC hC hR hN hH hS hu hv2 hL
  have hroom := hC.2.2.2.2.2.2.2.1
  have hcat : ((st.map (a_cv V)).map fun v => v.category).sum = (st.map fun v => v.category).sum := by rw [List.map_map]; congr 1; exact List.map_congr_left (fun v _ => a_cv_cat V v)
  exact va_mabs hC.1 hC.2.1 (by rw [hC.2.2.1, hL.1]) hC.2.2.2.1 (hC.2.2.2.2.1 _ w1) (hC.2.2.2.2.1 _ w2) (hC.2.2.2.2.1 _ w3) (hC.2.2.2.2.1 _ w4) (by omega) (by rw [hcat]; omega) (by omega) (by omega) hd (kk V p l e R s m args below meth c9 H locs Gl ws tys lsC hC hR hN hH hS hu hv2 hL)
end AH2
