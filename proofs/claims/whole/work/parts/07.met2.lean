set_option maxHeartbeats 4000000 in
/-- .. of a body with handlers, that throws nothing -/
theorem a_metH {y : MethodName} {I : a_I} {av : List Value} {h : a_H} {Q : a_Q} (hy : plainName y.cls = true) (hown : i_own I = y.cls) (hnh : i_hh I ≠ []) (hlen : av.length ≤ i_nL I) (hcat : ∀ v ∈ av, v.category = 1) (hini : i_ini I = true → y.name = "<init>") (hxs : i_xs I = none)
    (k : AW I 0 (av ++ List.replicate (i_nL I - av.length) .null) [] h 0 0 Q) : AM y I av h Q := by
  intro l V hl
  have hcd : a_cd y I = Cond.codeWith y (i_cc I) (i_nL I) (i_ret I) (i_hh I) := if_neg hnh
  refine vx_ofWH (cc := i_cc I) (maxL := i_nL I) (ret := i_ret I) (hh := i_hh I) (ws' := a_GT) hy (by rw [hcd]) ?_
  intro p e s m args below meth c s₁ B hml hPre
  obtain ⟨rfl, ⟨ws, tys, hP⟩, hX, hcl, hB⟩ := hPre
  have hts := atoms_spec (ws := a_cd y I :: a_GT) B.pre
  have hno : c.exceptionTable.toList = tableOf (i_hh I) := vx_table (x := y) B (by have := hts _ List.mem_cons_self; rw [hcd] at this; exact this)
  have hlocks := B.notSynchronized
  have hsl : lg_sl (av.map (a_cv V)) = (av.map (a_cv V)).map Slot.val := by
    unfold lg_sl
    rw [List.flatMap_map, List.map_map]
    have : ∀ (l : List Value), (∀ v ∈ l, v.category = 1) → l.flatMap (fun v => if (a_cv V v).category = 2 then [Slot.val (a_cv V v), Slot.second] else [Slot.val (a_cv V v)]) = l.map (Slot.val ∘ a_cv V) := by
      intro l
      induction l with
      | nil => intro _; rfl
      | cons v t ih =>
        intro hv
        have h1 := hv v List.mem_cons_self
        rw [List.flatMap_cons, ih (fun w hw => hv w (List.mem_cons_of_mem _ hw)), a_cv_cat, h1]
        rfl
    exact this av hcat
  have hentry := lv_entry (av.map (a_cv V)) (n := i_nL I) (by rw [hsl]; simpa using hlen)
  rw [lg_entry_eq]
  have hargs : ∀ (i : Nat) (v : Value), av[i]? = some v → ((lg_sl (av.map (a_cv V)) ++ List.replicate (i_nL I - (lg_sl (av.map (a_cv V))).length) Slot.unset).toArray)[i]? = some (.val (a_cv V v)) := by
    intro i v hv
    have hi := (List.getElem?_eq_some_iff.mp hv).1
    rw [hsl, List.getElem?_toArray, List.getElem?_append_left (by simpa using hi), List.getElem?_map, List.getElem?_map, hv]
    rfl
  generalize (lg_sl (av.map (a_cv V)) ++ List.replicate (i_nL I - (lg_sl (av.map (a_cv V))).length) Slot.unset).toArray = lsC at hentry hargs ⊢
  have hpost : ∀ (H : Heap) (locs : List Loc) (h : a_H) (ws : va_W) (tys : List (ClassId × FieldType)) (v : Option Value), a_HP V h.2 H s ws tys → va_S (a_A V) s.heap H locs → Q (.inl v) h → ∀ t : State, t.heap = H → s.WarmedH t.vm → a_Qc V Q (av.map (a_cv V)).toArray s (.returned (v.map (a_cv V))) t :=
    fun H locs h ws tys v a1 a2 a3 t ht hW => ⟨⟨v, h, rfl, a3, ws, tys, by rw [ht]; exact a1.moved hW.alike⟩, a2.F ht⟩
  refine k V p l e _ s m _ below meth c s.heap [] _ ws tys lsC ⟨B.exec, B.bytes, hml, by rw [hown]; exact findClass_of_methodNamed B.named, fun w hw => hts w (List.mem_cons_of_mem _ hw), hlocks, hl, ⟨Nat.le_refl _, Nat.le_refl _, rfl, rfl⟩, hno,
    fun z => (name_of_methodNamed B.named B.method).1.trans (hini z), hX, hB, fun q hq => by rw [hxs] at hq; cases hq⟩ ⟨?_, ?_, ?_⟩ (fun z => hcl z) hP va_S.rf (Nat.zero_le _) (Nat.zero_le _) ⟨hentry.1, hentry.2.1, ?_⟩
  · intro H locs h ws tys pc ls v a1 a2 a3 a4 a5
    have hq := hpost H locs h ws tys v a1 a2 a3
    match v, a4, a5, hq with
    | none, a4, a5, hq => exact vx_ret (W.vret B.exec B.bytes (B.returns.trans a5) hq a2.2.2 a4 hlocks)
    | some (.int x), a4, a5, hq => obtain ⟨ty, b1, b2⟩ := a5; exact vx_ret (W.zret B.exec B.bytes (B.returns.trans b1) b2 hq a2.2.2 a4 hlocks)
    | some (.long x), a4, a5, hq => exact vx_ret (W.lret B.exec B.bytes (B.returns.trans a5) hq a2.2.2 a4 hlocks)
    | some (.float x), a4, a5, hq => exact vx_ret (W.fret B.exec B.bytes (B.returns.trans a5) hq a2.2.2 a4 hlocks)
  · exact fun z => absurd z hnh
  · exact fun z => absurd z hnh
  · intro i v hi hv
    by_cases hil : i < av.length
    · rw [List.getElem?_append_left hil] at hi
      exact hargs i v hi
    · rw [List.getElem?_append_right (by omega)] at hi
      exact absurd (List.eq_of_mem_replicate (List.mem_of_getElem? hi)) hv
/-- what a call site and its callee's words have to say -/
def a_plain (y : MethodName) (n : Nat) : Prop := y.cls ≠ "java/lang/invoke/MethodHandle" ∧ y.cls ≠ "java/lang/invoke/VarHandle" ∧ (parseMethodDescriptor y.desc).map (fun d => d.parameters.length) = some n
def a_CV (own : String) (ix : Nat) (y : MethodName) (I' : a_I) (n : Nat) : Prop :=
  i_hh I' = [] ∧ a_plain y n ∧ Cond.methodLink own ix y ∈ a_GT ∧ Cond.instanceMethod y ∈ a_GT ∧ Cond.selects y.cls y y ∈ a_GT ∧ Cond.initialized y.cls ∈ a_GT ∧ a_cd y I' ∈ a_GT
def a_CI (own : String) (ix : Nat) (y : MethodName) (I' : a_I) (n : Nat) : Prop :=
  i_hh I' = [] ∧ i_ret I' = none ∧ y.name = "<init>" ∧ a_plain y n ∧ (Cond.methodLink own ix y ∈ a_GT ∨ ∃ host, Cond.methodLinkNest own ix y host ∈ a_GN) ∧ Cond.instanceMethod y ∈ a_GT ∧ Cond.initialized y.cls ∈ a_GT ∧ a_cd y I' ∈ a_GT
def a_CS (own : String) (ix : Nat) (y : MethodName) (I' : a_I) (n : Nat) : Prop :=
  a_plain y n ∧ (Cond.methodLink own ix y ∈ a_GT ∨ (i_hh I' = [] ∧ ∃ host, Cond.methodLinkNest own ix y host ∈ a_GN)) ∧ Cond.static y ∈ a_GT ∧ Cond.initialized y.cls ∈ a_GT ∧ a_cd y I' ∈ a_GT
theorem a_wsG {y : MethodName} {I' : a_I} (h : a_cd y I' ∈ a_GT) : ∀ w ∈ a_cd y I' :: a_GT, w ∈ a_GT := fun w hw => (List.mem_cons.mp hw).elim (fun e => by rw [e]; exact h) (fun h => h)
section AC2
variable {I : a_I} {pc uc us : Nat} {ls st : List Value} {h : a_H} {Q : a_Q}
/-- what a caller owes behind a call -/
def a_Kn (I : a_I) (pc : Nat) (ls st : List Value) (h : a_H) (uc us : Nat) (Q : a_Q) (I' : a_I) (Q' : a_Q) : Prop :=
  (∀ v h', Q' (.inl v) h' → (h'.1 = true → h.1 = true ∧ h'.2.length = h.2.length + i_mc I' ∧ h'.2.length ≤ 5000) ∧ AW I (pc + 3) ls (v.toList ++ st) h' (uc + i_mc I') (us + i_ms I') Q) ∧
  (∀ E h', Q' (.inr E) h' → (i_hh I = [] ∧ Q (.inr E) h') ∨ (∃ tgt k nx, a_hd I pc E tgt k nx ∧ h'.1 = false ∧ (∀ j w, ls[j]? = some w → j + 1 = k → w.category = 1) ∧ AW I nx (ls.set k .null) [] h' (uc + i_mc I') (us + i_ms I') Q))
def a_room (I I' : a_I) (st : List Value) (uc us : Nat) : Prop := i_d I' + 1 ≤ i_d I ∧ i_nL I' ≤ 40 ∧ (st.map fun v => v.category).sum ≤ 8 ∧ uc + i_mc I' ≤ i_mc I ∧ us + i_ms I' ≤ i_ms I
theorem r_callV {ix c ci n : Nat} {y : MethodName} {I' : a_I} {As : List Value} {vs : List Value} {Q' : a_Q} (hd : decode (i_cc I) pc = .ok (.invokevirtual ix, 3)) (hc : a_CV (i_own I) ix y I' n) (hM : AM y I' (.ref c :: As) h Q') (hn : As.length = n) (hcell : h.2[c]? = some (.inr (ci, vs))) (hci : ∃ r, a_cls[ci]? = some r ∧ r.1 = y.cls)
    (hrm : a_room I I' st uc us) (k : a_Kn I pc ls st h uc us Q I' Q') : AW I pc ls (As.reverse ++ .ref c :: st) h uc us Q := by
  intro V p l e R s m args below meth c9 H locs Gl ws tys lsC hC hR hN hH hS hu hv2 hL
  obtain ⟨hd1, hnl, hst, hu1, hv1⟩ := hrm
  obtain ⟨hnh, hpl, w1, w2, w3, w4, w5⟩ := hc
  obtain ⟨r, hr, hry⟩ := hci
  have hroom := hC.2.2.2.2.2.2.2.1
  have hB := hC.2.2.2.2.2.2.2.2.2.2.2.1
  have hX := hC.2.2.2.2.2.2.2.2.2.2.1
  have hcd : a_cd y I' = Cond.code y (i_cc I') (i_nL I') (i_ret I') := if_pos hnh
  have hsg : (As.reverse ++ .ref c :: st).map (a_cv V) = (As.map (a_cv V)).reverse ++ .ref (a_ad V c) :: st.map (a_cv V) := by simp [a_cv]
  rw [hsg]
  refine a_after (a := (Value.ref (a_ad V c) :: As.map (a_cv V)).toArray) hC hR hN hH hS hL hu1 hv1 (fun hcl => ?_) k.1 k.2
  exact vx_runV (C := y.cls) (n := n) (b := a_ad V c) (As := As.map (a_cv V)) ⟨hC.1, hC.2.1, hC.2.2.1, hC.2.2.2.1, hC.2.2.2.2.1⟩ (hM l V hC.2.2.2.2.2.2.1)
    (cwV (C := y.cls) (bytes := i_cc I') (maxL := i_nL I') (ret := i_ret I') (ws' := a_GT) n hC.2.2.2.2.1 (a_good (fun w hw => by
      unfold wsV at hw
      rcases List.mem_append.mp hw with g | g
      · simp only [List.mem_cons, List.not_mem_nil, or_false] at g
        rcases g with rfl | rfl | rfl | rfl
        · exact w1
        · exact w2
        · exact w3
        · exact w4
      · exact a_wsG w5 w g)) (by rw [hcd]) rfl rfl ⟨rfl, hpl⟩ ⟨by show i_d I' + 1 ≤ R.frames; omega, by show 8 + (i_nL I' + 11) + 60 * i_d I' ≤ R.locals; omega⟩)
    ⟨a_Pre.blind, by rw [← hry]; exact va_recv hH.2.2.2 hH.2.1 hr (hH.1.objAt hcell), fun U hU hW => ⟨rfl, a_Pre.of hX hB hH hS hcl hU hW⟩⟩ rfl (by simpa using hn) (by rw [hL.1]) rfl (by rw [a_cat]; show 2 * 0 + _ ≤ 8; omega) hd ⟨by rw [hroom.2.2.1]; exact hu1, by rw [hroom.2.2.2]; exact hv1⟩
theorem r_callS {ix n : Nat} {y : MethodName} {I' : a_I} {As : List Value} {Q' : a_Q} (hd : decode (i_cc I) pc = .ok (.invokestatic ix, 3)) (hc : a_CS (i_own I) ix y I' n) (hM : AM y I' As h Q') (hn : As.length = n)
    (hrm : a_room I I' st uc us) (k : a_Kn I pc ls st h uc us Q I' Q') : AW I pc ls (As.reverse ++ st) h uc us Q := by
  intro V p l e R s m args below meth c9 H locs Gl ws tys lsC hC hR hN hH hS hu hv2 hL
  obtain ⟨hd1, hnl, hst, hu1, hv1⟩ := hrm
  obtain ⟨hpl, w1, w2, w4, w5⟩ := hc
  have hroom := hC.2.2.2.2.2.2.2.1
  have hB := hC.2.2.2.2.2.2.2.2.2.2.2.1
  have hX := hC.2.2.2.2.2.2.2.2.2.2.1
  have hsg : (As.reverse ++ st).map (a_cv V) = (As.map (a_cv V)).reverse ++ st.map (a_cv V) := by simp
  rw [hsg]
  refine a_after (a := (As.map (a_cv V)).toArray) hC hR hN hH hS hL hu1 hv1 (fun hcl => ?_) k.1 k.2
  have hgd : ∀ w ∈ va_wsS (i_own I) ix y (a_cd y I' :: a_GT), Cond.methodLink (i_own I) ix y ∈ a_GT → w ∈ a_GT := by
    intro w hw w1
    unfold va_wsS at hw
    rcases List.mem_append.mp hw with g | g
    · simp only [List.mem_cons, List.not_mem_nil, or_false] at g
      rcases g with rfl | rfl | rfl
      · exact w1
      · exact w2
      · exact w4
    · exact a_wsG w5 w g
  have hRm : (a_rm (i_d I') (i_mc I') (i_ms I')).frames + 1 ≤ R.frames ∧ 8 + (i_nL I' + 11) + (a_rm (i_d I') (i_mc I') (i_ms I')).locals ≤ R.locals := ⟨by show i_d I' + 1 ≤ R.frames; omega, by show 8 + (i_nL I' + 11) + 60 * i_d I' ≤ R.locals; omega⟩
  have hfix : CallFix p m c9 (i_cc I) (i_nL I) s args a_GT (i_own I) := ⟨hC.1, hC.2.1, hC.2.2.1, hC.2.2.2.1, hC.2.2.2.2.1⟩
  have hpre : PreS s H (va_Pc (As.map (a_cv V)) (a_Pre V h)) (As.map (a_cv V)) := ⟨a_Pre.blind, fun U hU hW => ⟨rfl, a_Pre.of hX hB hH hS hcl hU hW⟩⟩
  by_cases hnh : i_hh I' = []
  · have hcd : a_cd y I' = Cond.code y (i_cc I') (i_nL I') (i_ret I') := if_pos hnh
    rcases w1 with w1 | ⟨-, host, w1⟩
    · exact vx_runS (n := n) (As := As.map (a_cv V)) hfix (hM l V hC.2.2.2.2.2.2.1) (va_cwS (bytes := i_cc I') (maxL := i_nL I') (ret := i_ret I') (ws' := a_GT) n hC.2.2.2.2.1 (a_good (fun w hw => hgd w hw w1)) (by rw [hcd]) rfl rfl hpl hRm)
        hpre rfl (by simpa using hn) (by rw [hL.1]) rfl (by rw [a_cat]; show 2 * 0 + _ ≤ 8; omega) hd ⟨by rw [hroom.2.2.1]; exact hu1, by rw [hroom.2.2.2]; exact hv1⟩
    · exact vx_runSN (n := n) (host := host) (As := As.map (a_cv V)) hfix (hM l V hC.2.2.2.2.2.2.1) ⟨va_cnB (bytes := i_cc I') (maxL := i_nL I') (ret := i_ret I') (ws' := a_GT) n hC.2.2.2.2.1 (a_good (a_wsG w5)) (by rw [hcd]) rfl rfl (hX.2.2.2.2.2.2.2.2.2 _ w1) (hC.2.2.2.2.1 _ w4) hpl hRm, hC.2.2.2.2.1 _ w2, trivial⟩
        hpre rfl (by simpa using hn) (by rw [hL.1]) rfl (by rw [a_cat]; show 2 * 0 + _ ≤ 8; omega) hd ⟨by rw [hroom.2.2.1]; exact hu1, by rw [hroom.2.2.2]; exact hv1⟩
  · have hcd : a_cd y I' = Cond.codeWith y (i_cc I') (i_nL I') (i_ret I') (i_hh I') := if_neg hnh
    rcases w1 with w1 | ⟨z, -⟩
    · exact vx_runSX (n := n) (As := As.map (a_cv V)) hfix (hM l V hC.2.2.2.2.2.2.1) (vx_cwSW (bytes := i_cc I') (maxL := i_nL I') (ret := i_ret I') (hh := i_hh I') (ws' := a_GT) n hC.2.2.2.2.1 (a_good (fun w hw => hgd w hw w1)) (by rw [hcd]) rfl rfl hpl hRm)
        hpre rfl (by simpa using hn) (by rw [hL.1]) rfl (by rw [a_cat]; show 2 * 0 + _ ≤ 8; omega) hd ⟨by rw [hroom.2.2.1]; exact hu1, by rw [hroom.2.2.2]; exact hv1⟩
    · exact absurd z hnh
theorem r_callI {ix c n : Nat} {y : MethodName} {I' : a_I} {As : List Value} {Q' : a_Q} (hd : decode (i_cc I) pc = .ok (.invokespecial ix, 3)) (hc : a_CI (i_own I) ix y I' n) (hM : AM y I' (.ref c :: As) h Q') (hn : As.length = n)
    (hrm : a_room I I' st uc us) (k : a_Kn I pc ls st h uc us Q I' Q') : AW I pc ls (As.reverse ++ .ref c :: st) h uc us Q := by
  intro V p l e R s m args below meth c9 H locs Gl ws tys lsC hC hR hN hH hS hu hv2 hL
  obtain ⟨hd1, hnl, hst, hu1, hv1⟩ := hrm
  obtain ⟨hnh, hret, hin, hpl, w1, w2, w4, w5⟩ := hc
  have hroom := hC.2.2.2.2.2.2.2.1
  have hB := hC.2.2.2.2.2.2.2.2.2.2.2.1
  have hX := hC.2.2.2.2.2.2.2.2.2.2.1
  have hcd : a_cd y I' = Cond.code y (i_cc I') (i_nL I') none := by rw [← hret]; exact if_pos hnh
  have hsg : (As.reverse ++ .ref c :: st).map (a_cv V) = (As.map (a_cv V)).reverse ++ .ref (a_ad V c) :: st.map (a_cv V) := by simp [a_cv]
  rw [hsg]
  refine a_after (a := (Value.ref (a_ad V c) :: As.map (a_cv V)).toArray) hC hR hN hH hS hL hu1 hv1 (fun hcl => ?_) k.1 k.2
  have hRm : (a_rm (i_d I') (i_mc I') (i_ms I')).frames + 1 ≤ R.frames ∧ 8 + (i_nL I' + 11) + (a_rm (i_d I') (i_mc I') (i_ms I')).locals ≤ R.locals := ⟨by show i_d I' + 1 ≤ R.frames; omega, by show 8 + (i_nL I' + 11) + 60 * i_d I' ≤ R.locals; omega⟩
  have hfix : CallFix p m c9 (i_cc I) (i_nL I) s args a_GT (i_own I) := ⟨hC.1, hC.2.1, hC.2.2.1, hC.2.2.2.1, hC.2.2.2.2.1⟩
  have hpre : PreS s H (va_Pc ((Value.ref c :: As).map (a_cv V)) (a_Pre V h)) (.ref (a_ad V c) :: As.map (a_cv V)) := ⟨a_Pre.blind, fun U hU hW => ⟨rfl, a_Pre.of hX hB hH hS hcl hU hW⟩⟩
  rcases w1 with w1 | ⟨host, w1⟩
  · exact vx_runI (n := n) (b := a_ad V c) (As := As.map (a_cv V)) hfix (hM l V hC.2.2.2.2.2.2.1) (cwI (bytes := i_cc I') (maxL := i_nL I') (ws' := a_GT) n hC.2.2.2.2.1 (a_good (a_wsG w5)) (by rw [hcd]) rfl rfl (hC.2.2.2.2.1 _ w4) (hC.2.2.2.2.1 _ w1) (hC.2.2.2.2.1 _ w2) hin hpl hRm)
      hpre rfl (by simpa using hn) (by rw [hL.1]) rfl (by rw [a_cat]; show 2 * 0 + _ ≤ 8; omega) hd ⟨by rw [hroom.2.2.1]; exact hu1, by rw [hroom.2.2.2]; exact hv1⟩
  · exact vx_runIN (n := n) (host := host) (b := a_ad V c) (As := As.map (a_cv V)) hfix (hM l V hC.2.2.2.2.2.2.1) ⟨va_cnB (bytes := i_cc I') (maxL := i_nL I') (ret := none) (ws' := a_GT) n hC.2.2.2.2.1 (a_good (a_wsG w5)) (by rw [hcd]) rfl rfl (hX.2.2.2.2.2.2.2.2.2 _ w1) (hC.2.2.2.2.1 _ w4) hpl hRm, hin, hC.2.2.2.2.1 _ w2⟩
      hpre rfl (by simpa using hn) (by rw [hL.1]) rfl (by rw [a_cat]; show 2 * 0 + _ ≤ 8; omega) hd ⟨by rw [hroom.2.2.1]; exact hu1, by rw [hroom.2.2.2]; exact hv1⟩
theorem r_objI {ix c : Nat} (hd : decode (i_cc I) pc = .ok (.invokespecial ix, 3)) (w1 : Cond.methodLink (i_own I) ix Lib.objectInit ∈ a_GT) (w2 : Cond.instanceMethod Lib.objectInit ∈ a_GT) (w3 : Cond.code Lib.objectInit ⟨#[0xb1]⟩ 1 none ∈ a_GT) (hdp : 1 ≤ i_d I) (hst : (st.map fun v => v.category).sum ≤ 8)
    (k : AW I (pc + 3) ls st h uc us Q) : AW I pc ls (.ref c :: st) h uc us Q := by
  intro V p l e R s m args below meth c9 H locs Gl ws tys lsC hC hR hN hH hS hu hv2 hL
  have hroom := hC.2.2.2.2.2.2.2.1
  exact W.objInit hC.1 hC.2.1 hC.2.2.2.1 (hC.2.2.2.2.1 _ w1) (hC.2.2.2.2.1 _ w2) (hC.2.2.2.2.1 _ w3) (g := F0 m pc lsC ((Value.ref c :: st).map (a_cv V))) rfl (by rw [hC.2.2.1]; exact hL.1) (rest := st.map (a_cv V)) rfl hd (by omega) (by rw [a_cat]; show 2 * 0 + _ + 12 ≤ R.locals; omega) (k V p l e R s m args below meth c9 H locs Gl ws tys lsC hC hR hN hH hS hu hv2 hL)
end AC2
