section AD1
variable {I : a_I} {pc uc us : Nat} {ls st : List Value} {h : a_H} {Q : a_Q}
theorem r_ret {v : Value} (hd : a_rd (i_cc I) pc (some v)) (hok : a_ok (i_ret I) (some v)) (hq : Q (.inl (some v)) h) : AW I pc ls [v] h uc us Q := by
  intro V p l e R s m args below meth c9 H locs Gl ws tys lsC hC hR hN hH hS hu hv2 hL
  exact W.widen hu hv2 (hR.1 H locs h ws tys pc lsC (some v) hH hS hq hd hok)
theorem r_vret (hd : decode (i_cc I) pc = .ok (.return_, 1)) (hok : i_ret I = none) (hq : Q (.inl none) h) : AW I pc ls [] h uc us Q := by
  intro V p l e R s m args below meth c9 H locs Gl ws tys lsC hC hR hN hH hS hu hv2 hL
  exact W.widen hu hv2 (hR.1 H locs h ws tys pc lsC none hH hS hq hd hok)
theorem r_iret {x : Int32} (hd : decode (i_cc I) pc = .ok (.ireturn, 1)) (hok : i_ret I = some .int) (hq : Q (.inl (some (.int x))) h) : AW I pc ls [.int x] h uc us Q := r_ret hd ⟨.int, hok, rfl⟩ hq
theorem r_lret {x : Int64} (hd : decode (i_cc I) pc = .ok (.lreturn, 1)) (hok : i_ret I = some .long) (hq : Q (.inl (some (.long x))) h) : AW I pc ls [.long x] h uc us Q := r_ret hd hok hq
theorem r_fret {x : UInt32} (hd : decode (i_cc I) pc = .ok (.freturn, 1)) (hok : i_ret I = some .float) (hq : Q (.inl (some (.float x))) h) : AW I pc ls [.float x] h uc us Q := r_ret hd hok hq
theorem r_zret (b : Bool) {x : Int32} (hd : decode (i_cc I) pc = .ok (.ireturn, 1)) (hok : i_ret I = some .boolean) (hx : x = if b then 1 else 0) (hq : Q (.inl (some (.int (if b then 1 else 0)))) h) : AW I pc ls [.int x] h uc us Q := by
  subst hx
  refine r_ret hd ⟨.boolean, hok, ?_⟩ hq
  cases b <;> decide
theorem r_throw {E : String} (hth : a_th I pc E) (hh : i_hh I = []) (hd : 6 ≤ i_d I) (hst : (st.map fun v => v.category).sum ≤ 200) (hu1 : uc + 1 ≤ i_mc I) (hv1 : us + 6 ≤ i_ms I) (hq : Q (.inr E) (false, h.2)) : AW I pc ls st h uc us Q := by
  intro V p l e R s m args below meth c9 H locs Gl ws tys lsC hC hR hN hH hS hu hv2 hL
  exact hR.2.2 hh H locs h ws tys pc lsC (st.map (a_cv V)) E uc us hH hS hq hth hd (by rw [a_cat]; exact hst) hu1 hv1 (by rw [hC.2.2.1]; exact hL.1)
/-- from a clean heap to one of which nothing is said -/
theorem r_dirty {hl : List a_E} (k : AW I pc ls st (false, hl) uc us Q) : AW I pc ls st (true, hl) uc us Q := by
  intro V p l e R s m args below meth c9 H locs Gl ws tys lsC hC hR hN hH hS hu hv2 hL
  exact k V p l e R s m args below meth c9 H locs Gl ws tys lsC hC hR (fun z => by cases z) hH hS hu hv2 hL
theorem r_wide {uc' us' : Nat} (h1 : uc ≤ uc') (h2 : us ≤ us') (h3 : uc' ≤ i_mc I) (h4 : us' ≤ i_ms I) {hl : List a_E} (k : AW I pc ls st (false, hl) uc' us' Q) : AW I pc ls st (false, hl) uc us Q := by
  intro V p l e R s m args below meth c9 H locs Gl ws tys lsC hC hR hN hH hS hu hv2 hL
  exact W.widen h1 h2 (k V p l e R s m args below meth c9 H locs Gl ws tys lsC hC hR (fun z => by cases z) hH hS h3 h4 hL)
theorem r_post {Q1 : a_Q} (hq : ∀ o h', Q1 o h' → Q o h') (k : AW I pc ls st h uc us Q1) : AW I pc ls st h uc us Q := by
  intro V p l e R s m args below meth c9 H locs Gl ws tys lsC hC hR hN hH hS hu hv2 hL
  exact k V p l e R s m args below meth c9 H locs Gl ws tys lsC hC ⟨fun H locs h ws tys pc ls v a1 a2 a3 => hR.1 H locs h ws tys pc ls v a1 a2 (hq _ _ a3), fun z H locs h ws tys pc ls rest E ce q a1 a2 a3 => hR.2.1 z H locs h ws tys pc ls rest E ce q a1 a2 (hq _ _ a3),
    fun z H locs h ws tys pc ls rest E uc us a1 a2 a3 => hR.2.2 z H locs h ws tys pc ls rest E uc us a1 a2 (hq _ _ a3)⟩ hN hH hS hu hv2 hL
end AD1
theorem a_atS_ok : ∀ E ∈ a_ex, Bundle.fit E = true := by decide +kernel
theorem a_atS_nm : ∀ n ∈ ["java/lang/RuntimeException", "java/lang/Exception"], Bundle.fit n = true := by decide +kernel
theorem a_tb_ot {w : Cond} (h : w.onTables = true) : vx_ot w = true := by
  unfold vx_ot
  rw [h, Bool.true_or]
theorem a_good_ot {w : Cond} (h : goodWord w = true) : vx_ot w = true := by
  unfold vx_ot
  rw [h, Bool.or_true]
set_option maxHeartbeats 4000000 in
/-- a body's walk gives the contract -/
theorem a_met {y : MethodName} {I : a_I} {av : List Value} {h : a_H} {Q : a_Q} (hy : plainName y.cls = true) (hown : i_own I = y.cls) (hnh : i_hh I = []) (hlen : av.length ≤ i_nL I) (hcat : ∀ v ∈ av, v.category = 1) (hini : i_ini I = true → y.name = "<init>") (hxs : i_xs I = none)
    (k : AW I 0 (av ++ List.replicate (i_nL I - av.length) .null) [] h 0 0 Q) : AM y I av h Q := by
  intro l V hl
  have hcd : a_cd y I = Cond.code y (i_cc I) (i_nL I) (i_ret I) := if_pos hnh
  refine vx_ofW (cc := i_cc I) (maxL := i_nL I) (ret := i_ret I) (ws' := a_GT) hy (by rw [hcd]) ?_
  intro p e s m args below meth c s₁ B hml hnox hPre
  obtain ⟨rfl, ⟨ws, tys, hP⟩, hX, hcl, hB⟩ := hPre
  have hts := atoms_spec (ws := a_cd y I :: a_GT) B.pre
  have hno : c.exceptionTable.toList = [] := List.eq_nil_iff_forall_not_mem.mpr hnox
  have hlocks := B.notSynchronized
  have hsl : lg_sl (av.map (a_cv V)) = (av.map (a_cv V)).map Slot.val := by
    unfold lg_sl
    rw [List.flatMap_map, List.map_map]
    have : ∀ (l : List Value), (∀ v ∈ l, v.category = 1) → l.flatMap (fun v => if (a_cv V v).category = 2 then [Slot.val (a_cv V v), Slot.second] else [Slot.val (a_cv V v)]) = l.map (Slot.val ∘ a_cv V) := by
      intro l
      induction l with
      | nil => intro _; rfl
      | cons v t ih =>
        intro hv
        have h1 := hv v List.mem_cons_self
        rw [List.flatMap_cons, ih (fun w hw => hv w (List.mem_cons_of_mem _ hw)), a_cv_cat, h1]
        rfl
    exact this av hcat
  have hentry := lv_entry (av.map (a_cv V)) (n := i_nL I) (by rw [hsl]; simpa using hlen)
  rw [lg_entry_eq]
  have hargs : ∀ (i : Nat) (v : Value), av[i]? = some v → ((lg_sl (av.map (a_cv V)) ++ List.replicate (i_nL I - (lg_sl (av.map (a_cv V))).length) Slot.unset).toArray)[i]? = some (.val (a_cv V v)) := by
    intro i v hv
    have hi := (List.getElem?_eq_some_iff.mp hv).1
    rw [hsl, List.getElem?_toArray, List.getElem?_append_left (by simpa using hi), List.getElem?_map, List.getElem?_map, hv]
    rfl
  generalize (lg_sl (av.map (a_cv V)) ++ List.replicate (i_nL I - (lg_sl (av.map (a_cv V))).length) Slot.unset).toArray = lsC at hentry hargs ⊢
  have hpost : ∀ (H : Heap) (locs : List Loc) (h : a_H) (ws : va_W) (tys : List (ClassId × FieldType)) (v : Option Value), a_HP V h.2 H s ws tys → va_S (a_A V) s.heap H locs → Q (.inl v) h → ∀ t : State, t.heap = H → s.WarmedH t.vm → a_Qc V Q (av.map (a_cv V)).toArray s (.returned (v.map (a_cv V))) t :=
    fun H locs h ws tys v a1 a2 a3 t ht hW => ⟨⟨v, h, rfl, a3, ws, tys, by rw [ht]; exact a1.moved hW.alike⟩, a2.F ht⟩
  refine k V p l e _ s m _ below meth c s.heap [] _ ws tys lsC ⟨B.exec, B.bytes, hml, by rw [hown]; exact findClass_of_methodNamed B.named, fun w hw => hts w (List.mem_cons_of_mem _ hw), hlocks, hl, ⟨Nat.le_refl _, Nat.le_refl _, rfl, rfl⟩, by rw [hno, hnh]; rfl,
    fun z => (name_of_methodNamed B.named B.method).1.trans (hini z), hX, hB, fun q hq => by rw [hxs] at hq; cases hq⟩ ⟨?_, ?_, ?_⟩ (fun z => hcl z) hP va_S.rf (Nat.zero_le _) (Nat.zero_le _) ⟨hentry.1, hentry.2.1, ?_⟩
  · intro H locs h ws tys pc ls v a1 a2 a3 a4 a5
    have hq := hpost H locs h ws tys v a1 a2 a3
    match v, a4, a5, hq with
    | none, a4, a5, hq => exact vx_ret (W.vret B.exec B.bytes (B.returns.trans a5) hq a2.2.2 a4 hlocks)
    | some (.int x), a4, a5, hq => obtain ⟨ty, b1, b2⟩ := a5; exact vx_ret (W.zret B.exec B.bytes (B.returns.trans b1) b2 hq a2.2.2 a4 hlocks)
    | some (.long x), a4, a5, hq => exact vx_ret (W.lret B.exec B.bytes (B.returns.trans a5) hq a2.2.2 a4 hlocks)
    | some (.float x), a4, a5, hq => exact vx_ret (W.fret B.exec B.bytes (B.returns.trans a5) hq a2.2.2 a4 hlocks)
  · intro _ H locs h ws tys pc ls rest E ce q a1 a2 a3 a4 a5 a6
    exact vx_out (by rw [hno]; intro x hx; cases hx) hlocks a4 a5 a6 (fun t ht hal => ⟨⟨h, a3, ws, tys, by rw [ht]; exact a1.moved hal⟩, a2.F ht⟩) a2.2.2 (Nat.le_refl _) (Nat.le_refl _)
  · intro _ H locs h ws tys pc ls rest E uc us a1 a2 a3 a4 a5 a6 a7 a8 a9
    obtain ⟨ik, is, ic, tx, hE, w1, w2, w3, w4, d0, d3, dd⟩ := a4
    obtain ⟨sa, hsa⟩ := hX.2.2.2.2.1 _ _ _ w3
    have hgood : ∀ w ∈ Cond.classLink (i_own I) ik E :: Cond.initialized E :: vx_atS (i_own I) ic E ["java/lang/RuntimeException", "java/lang/Exception"], vx_ot w = true := by
      intro w hw
      rcases List.mem_cons.mp hw with rfl | hw
      · exact a_good_ot (a_GT_good _ w1)
      · rcases List.mem_cons.mp hw with rfl | hw
        · exact a_good_ot (a_GT_good _ w2)
        · rcases w4 w hw with g | g
          · exact a_good_ot (a_GT_good _ g)
          · exact a_tb_ot g.2
    have hat : ∀ w ∈ vx_atS (i_own I) ic E ["java/lang/RuntimeException", "java/lang/Exception"], w.before (av.map (a_cv V)).toArray s = true := by
      intro w hw
      rcases w4 w hw with g | g
      · exact hts w (List.mem_cons_of_mem _ g)
      · have g2 := hX.2.2.2.2.2.2.2.2.2 w g.1
        have g3 := a_tb_ot g.2
        exact vx_ot_at (State.WarmedH.refl s) rfl g3 g2
    have hx : ∀ t : State, s.vm.Alike t.vm → H.size ≤ t.heap.size → (∀ q : Nat, q < H.size → t.heap[q]? = H[q]?) → a_XC V Q E s t := by
      intro t hal hz hk
      refine ⟨⟨(false, h.2), a3, ws, tys, a1.1, a1.2.1.kept (fun j q hq => hk _ (a1.2.1 j q hq).lt), a1.2.2.1, va_K.moved hal a1.2.2.2⟩, Nat.le_trans a2.1 hz, fun q g1 g2 => ?_⟩
      rw [hk q (Nat.lt_of_lt_of_le g1 a2.1)]
      exact a2.2.1 q g1 g2
    rcases dd with ⟨d4, d6, d9⟩ | ⟨d4, d6, d9⟩
    · exact vx_throwS B.exec B.bytes hl (by rw [hown]; exact findClass_of_methodNamed B.named) (a_atS_ok E hE) a_atS_nm (hts _ (List.mem_cons_of_mem _ w1)) (hts _ (List.mem_cons_of_mem _ w2)) hsa hat hgood hX.2.2.2.2.2.1 hX.2.2.2.2.2.2.1 a2 a9 d0 d3 d4 d6 d9 (by rw [hno]; intro x hx; cases hx)
        (by show 2 + 3 < i_d I; omega) (by show _ + (13 * (2 + 1) + 43) ≤ 60 * i_d I; omega) a7 a8 hlocks hx a2.2.2 a7 a8
    · exact vx_throwSW B.exec B.bytes hl (by rw [hown]; exact findClass_of_methodNamed B.named) (a_atS_ok E hE) a_atS_nm (hts _ (List.mem_cons_of_mem _ w1)) (hts _ (List.mem_cons_of_mem _ w2)) hsa hat hgood hX.2.2.2.2.2.1 hX.2.2.2.2.2.2.1 a2 a9 d0 d3 d4 d6 d9 (by rw [hno]; intro x hx; cases hx)
        (by show 2 + 3 < i_d I; omega) (by show _ + (13 * (2 + 1) + 43) ≤ 60 * i_d I; omega) a7 a8 hlocks hx a2.2.2 a7 a8
  · intro i v hi hv
    by_cases hil : i < av.length
    · rw [List.getElem?_append_left hil] at hi
      exact hargs i v hi
    · rw [List.getElem?_append_right (by omega)] at hi
      exact absurd (List.eq_of_mem_replicate (List.mem_of_getElem? hi)) hv
