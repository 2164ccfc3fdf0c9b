/-! THROWS. The rows a_ctorN and a_makeN began as vx_ctorMadeS and vx_makeS of kit/laws: NoSuchElementException's constructor links its super at another entry. -/
def a_NSE : String := "java/util/NoSuchElementException"
def a_n13 : ByteArray := ⟨#[0x2a, 0x2b, 0xb7, 0x00, 0x0d, 0xb1]⟩
theorem a_n13_0 : decode a_n13 0 = .ok (.aload_n 0, 1) := by decide +kernel
theorem a_n13_1 : decode a_n13 1 = .ok (.aload_n 1, 1) := by decide +kernel
theorem a_n13_2 : decode a_n13 2 = .ok (.invokespecial 13, 3) := by decide +kernel
theorem a_n13_5 : decode a_n13 5 = .ok (.return_, 1) := by decide +kernel
def a_nse : List Cond := Bundle.passSAtoms a_NSE "java/lang/RuntimeException" 13 a_n13 ++ Bundle.chainSAtoms "java/lang/RuntimeException" ["java/lang/Exception"]
def a_tl (own : String) (ic : Nat) : List Cond := [.methodLink own ic (Bundle.initS a_NSE)]
def a_tl2 : List Cond := [.instantiable a_NSE 6, .castable a_NSE a_NSE, .selects a_NSE Bundle.tFill0 Bundle.tFill0, .selects a_NSE Bundle.tFill Bundle.tFill,
   .lays a_NSE Bundle.tN "cause" "Ljava/lang/Throwable;", .lays a_NSE Bundle.tN "stackTrace" Bundle.steD, .lays a_NSE Bundle.tN "suppressedExceptions" Bundle.listD, .lays a_NSE Bundle.tN "detailMessage" "Ljava/lang/String;",
   .isRef (.static Bundle.tN "UNASSIGNED_STACK" Bundle.steD), .isRef (.static Bundle.tN "SUPPRESSED_SENTINEL" Bundle.listD),
   .fieldLink Bundle.tN 198 Bundle.tN "backtrace" "Ljava/lang/Object;", .lays Bundle.tN Bundle.tN "backtrace" "Ljava/lang/Object;", .lays a_NSE Bundle.tN "backtrace" "Ljava/lang/Object;"]
def a_own13 (own : String) (ic : Nat) : List Cond := Bundle.throwableAtoms ++ Bundle.throwableSAtoms ++ a_nse ++ (a_tl own ic ++ a_tl2)
theorem a_chainN {args : Array Value} {s : State} {pl : Platform} (hpl : pl.magicAccessors = ({} : Platform).magicAccessors) {top : MethodId} (htop : s.methodNamed? (Bundle.initS Bundle.tN) = some top)
    (h : ∀ c ∈ a_nse, c.before args s = true) :
    ∃ (P1 : PassC) (Ps : List PassC), Ps.length = 2 ∧ P1.LinksS pl s ∧ (∀ P, P ∈ Ps → P.LinksS pl s) ∧ s.methodNamed? (Bundle.initS a_NSE) = some P1.m ∧
      P1.sup = firstOf top (Ps.map (·.toPassT)) ∧ PassesOn top (Ps.map (·.toPassT)) := by
  obtain ⟨P, L, hm, hs⟩ := PassC.ofS_atoms (args := args) (s := s) hpl (X := a_NSE) (Y := "java/lang/RuntimeException") (by decide +kernel) ⟨by decide, by decide⟩ a_n13_0 a_n13_1 a_n13_2 a_n13_5 (fun c hc => h c (List.mem_append_left _ hc))
  obtain ⟨P', Ps, hlen, L', hL, hm', hsup, hpass⟩ := Bundle.chainS (args := args) hpl htop ["java/lang/Exception"] "java/lang/RuntimeException" (by decide +kernel) (by decide +kernel) (fun c hc => h c (List.mem_append_right _ hc))
  refine ⟨P, P' :: Ps, by simp [hlen], L, ?_, hm, Option.some.inj (hs.symm.trans hm'), hsup, hpass⟩
  intro Q hQ
  rcases List.mem_cons.mp hQ with rfl | hQ
  · exact L'
  · exact hL Q hQ
section NSE1
variable {p : Program} {l : Launch} {e : Env} {R : Room} {s : State} {m₀ : MethodId} {args : Array Value} {below : List Frame} {meth : Method} {c : Code} {W : State} {locs : List Loc} {cells slots : Nat}
set_option maxHeartbeats 1000000 in
theorem a_ctorN (X : Stand p l e R s m₀ args below meth c W locs cells slots) (hexec : p.tables.exec = Jvm.exec) (htr : e.platform.stackTraces = false) {own : String} {ic : Nat}
    (hown : s.vm.findClass own = some m₀.cls)
    (h : ∀ a ∈ a_own13 own ic, a.before args s = true)
    (hlocs : ∀ x ∈ locs, ∀ cell, s.heap[x.base]? = some cell → cell.vm.isStatics = false)
    {a : Addr} {cX : ClassId} {kX : Class} (hfoundX : s.vm.findClass a_NSE = some cX) (hkX : s.vm.classes[cX]? = some kX) (hcell : W.heap[a]? = some (freshCell cX kX)) (hnew : s.heap.size ≤ a)
    {msg : Value} (hmsg : msg.isRef = true)
    {g : JFrame} (hg : g.method = m₀) (hsize : g.locals.size = c.maxLocals) {rest : List Value} (hstack : g.stack = msg :: .ref a :: .ref a :: rest)
    (hd6 : decode c.code g.pc = .ok (.invokespecial ic, 3))
    (hRframes : 2 + 3 < R.frames) (hRlocals : 2 * g.monitorRoom + ((Value.ref a :: rest).map fun v => v.category).sum + (13 * (2 + 1) + 42) ≤ R.locals) :
    ∃ (V : State) (ce : Cell) (L : List Loc), Stand p l e R s m₀ args below meth c (V.setCell a ce) (locs ++ L) cells slots ∧ (∀ y ∈ L, y.base = a) ∧ a < V.heap.size ∧ ce.cls = cX ∧ ce.vm = .none ∧
      ∀ target, Steps p.tables e below ((V.setCell a ce).setTop { g with stack := .ref a :: rest, pc := g.pc + 3 }) target → Steps p.tables e below (W.setTop g) target := by
  have howns : e.platform.frameOwnsMonitors = true := by rw [X.admits.platform]
  have hfin : e.platform.finalization = false := by rw [X.admits.platform]
  have hpl : e.platform.magicAccessors = ({} : Platform).magicAccessors := by rw [X.admits.platform]
  have a' : ∀ x, x ∈ a_own13 own ic → x.holds args s none s [] = true := fun x hx => h x hx
  obtain ⟨T, Z0, L, -, Y⟩ := ThrowableC.of_atoms (args := args) howns hfin hpl (fun x hx => h x (by simp [a_own13, hx]))
  obtain ⟨Z, M, LZ, LM, hnZ⟩ := Init0T.ofS_atoms (args := args) hpl L Y (fun x hx => h x (by simp [a_own13, hx]))
  obtain ⟨P1, Ps, hlen, L1, hL, hP1m, hlink1, hlink⟩ := a_chainN (args := args) hpl hnZ (fun x hx => h x (by simp [a_own13, hx]))
  have hfound : s.vm.findClass a_NSE = some P1.m.cls := findClass_of_methodNamed hP1m
  cases Option.some.inj (hfoundX.symm.trans hfound)
  obtain ⟨c1, kX', hc1, hk, hord, -, -, hn6⟩ := Cond.instantiable_spec (a' (.instantiable a_NSE 6) (by simp [a_own13, a_tl, a_tl2]))
  cases Option.some.inj (hc1.symm.trans hfound)
  cases Option.some.inj (hkX.symm.trans hk)
  have hsel0 : selectMethod e.platform s.vm P1.m.cls T.fill0 = .method T.fill0 := by
    obtain ⟨c2, r2, m2, q1, q2, q3, q4, -⟩ := Cond.selects_spec (a' (.selects a_NSE Bundle.tFill0 Bundle.tFill0) (by simp [a_own13, a_tl, a_tl2]))
    cases Option.some.inj (q1.symm.trans hfound)
    cases Option.some.inj (q2.symm.trans (State.methodFound?_of_named Y.fill0 (by decide)))
    cases Option.some.inj (q3.symm.trans Y.fill0)
    rw [Launch.admits_selectMethod X.admits]; exact q4
  have hselF : selectMethod e.platform s.vm P1.m.cls T.fill = .method T.fill := by
    obtain ⟨c2, r2, m2, q1, q2, q3, q4, -⟩ := Cond.selects_spec (a' (.selects a_NSE Bundle.tFill Bundle.tFill) (by simp [a_own13, a_tl, a_tl2]))
    cases Option.some.inj (q1.symm.trans hfound)
    cases Option.some.inj (q2.symm.trans (State.methodFound?_of_named Y.fill (by decide)))
    cases Option.some.inj (q3.symm.trans Y.fill)
    rw [Launch.admits_selectMethod X.admits]; exact q4
  obtain ⟨cellS0, hcS0, hiss⟩ := Y.statics
  obtain ⟨u0, hu0⟩ := Cond.staticRefV Y.unassigned L.unassignedStatic L.statics hcS0 hiss (a' (.isRef (.static Bundle.tN "UNASSIGNED_STACK" Bundle.steD)) (by simp [a_own13, a_tl, a_tl2]))
  obtain ⟨sen, hsen⟩ := Cond.staticRefV Y.sentinel L.sentinelStatic L.statics hcS0 hiss (a' (.isRef (.static Bundle.tN "SUPPRESSED_SENTINEL" Bundle.listD)) (by simp [a_own13, a_tl, a_tl2]))
  obtain ⟨ci198, i198, fB, hk198, hg198, ha198, hsB, -, hnB, htB, hffB⟩ := Cond.ownField (t := .object "java/lang/Object") Y.found L.cls (by decide +kernel) (a' (.fieldLink Bundle.tN 198 Bundle.tN "backtrace" "Ljava/lang/Object;") (by simp [a_own13, a_tl, a_tl2])) (a' (.lays Bundle.tN Bundle.tN "backtrace" "Ljava/lang/Object;") (by simp [a_own13, a_tl, a_tl2])) e.platform hpl
  obtain ⟨cellS, hcS', heS, -, hkeep⟩ := X.same.2.2.2.2.2 T.aS cellS0 hcS0
  have hcellS : W.heap[T.aS]? = some cellS := hcS'
  have hout' : ∀ i, (⟨T.aS, i⟩ : Loc) ∉ locs := fun i hmem => by
    have := hlocs _ hmem cellS0 hcS0
    rw [hiss] at this; cases this
  have hknownS : cellS.vm ≠ .unknown := by
    rw [heS]; intro hu
    rw [show cellS0.vm = .unknown from hu] at hiss
    cases hiss
  have hneS : T.aS ≠ a := Nat.ne_of_lt (Nat.lt_of_lt_of_le (Array.getElem?_eq_some_iff.mp hcS0).1 hnew)
  obtain ⟨iM, hffM⟩ := Y.msg
  obtain ⟨tyC, dC, hdC, hdnC⟩ := Cond.laysAt hfound hk Y.cause (a' (.lays a_NSE Bundle.tN "cause" "Ljava/lang/Throwable;") (by simp [a_own13, a_tl, a_tl2]))
  obtain ⟨tyS, dS, hdS, hdnS⟩ := Cond.laysAt hfound hk Y.stack (a' (.lays a_NSE Bundle.tN "stackTrace" Bundle.steD) (by simp [a_own13, a_tl, a_tl2]))
  obtain ⟨tyP, dP, hdP, hdnP⟩ := Cond.laysAt hfound hk Y.supp (a' (.lays a_NSE Bundle.tN "suppressedExceptions" Bundle.listD) (by simp [a_own13, a_tl, a_tl2]))
  obtain ⟨tyM, dM, hdM, hdnM⟩ := Cond.laysAt hfound hk hffM (a' (.lays a_NSE Bundle.tN "detailMessage" "Ljava/lang/String;") (by simp [a_own13, a_tl, a_tl2]))
  obtain ⟨tyB, dB, hdB, hdnB⟩ := Cond.laysAt hfound hk hffB (a' (.lays a_NSE Bundle.tN "backtrace" "Ljava/lang/Object;") (by simp [a_own13, a_tl, a_tl2]))
  have bC := Cond.laysApart hdB hdC hdnB hdnC (by rw [hnB, Y.causeName]; decide)
  have bS := Cond.laysApart hdB hdS hdnB hdnS (by rw [hnB, Y.stackName]; decide)
  have bP := Cond.laysApart hdB hdP hdnB hdnP (by rw [hnB, Y.suppName]; decide)
  have hskip : SkipFacts T e.platform s (fun u => u) u0 ((preparedCellV T.toThrowableT (freshCell P1.m.cls kX) a u0 sen).withEntry W.cur) :=
    ⟨{ ci198 := ci198, i198 := i198, fBack := fB }, ⟨hk198, hg198, ha198, hsB⟩, by
      have := fresh_default (c := P1.m.cls) tyB
      rw [htB] at this
      simpa [preparedCellV, Cell.setSlot, Cell.withEntry, Array.getElem?_setIfInBounds, bC, bS, bP, bC.symm, bS.symm, bP.symm, defaultValue] using this, fun _ _ => rfl⟩
  obtain ⟨tm, methC, cdC, kC, vm₁, hnC, -, -, -, -, -, -, -, hW₁, st1⟩ := Steps.initColdS (tb := p.tables) (e := e) (below := below) (s := s) (U := W) X.here hexec X.warmed hpl hown (t := Bundle.initS a_NSE) rfl rfl ⟨by decide, by decide⟩
    (a' (.methodLink own ic (Bundle.initS a_NSE)) (by simp [a_own13, a_tl, a_tl2])) (h (.instanceMethod (Bundle.initS a_NSE)) (by simp [a_own13, a_nse, Bundle.passSAtoms])) (bytes := a_n13) (maxL := 2) (h (.code (Bundle.initS a_NSE) a_n13 2 none) (by simp [a_own13, a_nse, Bundle.passSAtoms]))
    (f := g) hg (a := a) (msg := msg) (rest := .ref a :: rest) hstack hd6
  cases Option.some.inj (hnC.symm.trans hP1m)
  have X₁ := X.noted hW₁
  obtain ⟨vm₂, X₂, st2⟩ := X₁.ctorMessageOffV hexec (g := { g with stack := .ref a :: rest }) hg hsize T L Z LZ M LM (P1 :: Ps)
    (fun P hP => by rcases List.mem_cons.mp hP with rfl | hP; exact L1; exact hL P hP) ⟨hlink1, hlink⟩ (u0 := u0) (sen := sen) (self := a) hmsg (cell := freshCell P1.m.cls kX) (cellS := cellS)
    hcell (fun _ => by simp) (by simp) rfl rfl hsel0 hselF hcellS hneS hknownS (by rw [hkeep _ (hout' _)]; exact hu0) (by rw [hkeep _ (hout' _)]; exact hsen)
    (Takes.of_laid hk hord tyC (by rw [Y.causeType]; rfl)) (Takes.of_laid hk hord tyS (by rw [Y.stackType]; exact fits_refV_array _ u0)) (Takes.of_laid hk hord tyP (by rw [Y.suppType]; exact fits_refV_object _ sen))
    (Takes.of_laid hk hord tyM (by rw [Y.msgType]; exact fits_refV_object _ ⟨msg, hmsg⟩)) Y.objLocals hskip htr [] hd6
    (by simp only [List.length_cons, hlen]; omega) (by simp only [List.length_cons, hlen]; exact hRlocals)
  have hlt : a < ((W.setVm vm₁).setVm vm₂).heap.size := (Array.getElem?_eq_some_iff.mp hcell).1
  refine ⟨(W.setVm vm₁).setVm vm₂, _, _, X₂, fun y hy => ?_, hlt, rfl, rfl, fun target hwalk => st1 _ (fun acts => ?_)⟩
  · simp only [List.mem_cons, List.not_mem_nil, or_false] at hy
    rcases hy with rfl | rfl | rfl | rfl | rfl <;> rfl
  · rw [doInvoke_state]
    exact st2 _ hwalk
end NSE1
section NSE2
variable {p : Program} {l : Launch} {e : Env} {R : Room} {s : State} {m : MethodId} {args : Array Value} {below : List Frame} {meth : Method} {c : Code} {H : Heap} {locs : List Loc} {cells slots : Nat} {Q : State → Prop}
variable {ls : Array Slot} {rest : List Value} {D : va_G} {cl : List vw_C} {tys : List (ClassId × FieldType)} {ws : va_W}
theorem vx_back9 {T S : State} {R' : Room} {k n : Nat} (X : Stand p l e R s m args below meth c T locs cells slots) (Y : Stand p l e R' ((T.setVm s.vm).setFrames (.invoking m args :: below)) m args below meth c T [] 0 0) (Z : Stand p l e R' ((T.setVm s.vm).setFrames (.invoking m args :: below)) m args below meth c S [] k n) :
    Stand p l e R s m args below meth c S locs (cells + k) (slots + n) := by
  have hW0 : s.WarmedH ((T.setVm s.vm).setFrames (.invoking m args :: below)).vm := State.WarmedH.refl s
  refine { admits := X.admits, cas := X.cas, clock := X.clock, frames := X.frames, room := X.room, hears := X.hears, method := X.method, code := X.code, here := Z.here, tail := Z.tail, warmed := State.WarmedH.trans hW0 Z.warmed, limits := Z.limits.trans (Y.limits.symm.trans X.limits), bytes := Z.bytes.trans (Y.bytes.symm.trans X.bytes), same := ?_ }
  obtain ⟨e1, e2⟩ := Z.same
  rw [State.setFrames_setFrames] at e1
  have h2 : (T.setVm s.vm).sameButNew (S.setVm s.vm) [] k n := ⟨e1, e2⟩
  have h3 := X.same.trans h2
  rw [List.append_nil] at h3
  exact h3
theorem vx_athrow {cc : ByteArray} {pc : Nat} (hexec : p.tables.exec = Jvm.exec) (hb : c.code = cc) {q : Addr} (hdg : decode cc pc = .ok (.athrow, 1)) (k : vx_W p l e R s m args below meth c H locs cells slots Q (F0 m pc ls rest) q) : W p l e R s m args below meth c H locs cells slots Q (F0 m pc ls (.ref q :: rest)) := by
  intro T hT X
  obtain ⟨t, st, hq⟩ := k T hT X
  refine ⟨t, ?_, hq⟩
  have hdg' : decode c.code pc = .ok (.athrow, 1) := by rw [hb]; exact hdg
  jvm_step X.here [X.here.top, hexec, hdg', athrow.wp_sem]
  exact st
theorem a_makeN {cc : ByteArray} {pc : Nat} (hexec : p.tables.exec = Jvm.exec) (hb : c.code = cc) (hl : l.stackTraces = false) {own text : String} {ik is ic sa : Nat} {A : Nat → Prop}
    (hown : s.vm.findClass own = some m.cls)
    (hk : (Cond.classLink own ik a_NSE).before args s = true) (hini : (Cond.initialized a_NSE).before args s = true) (hstr : vk_R own is text sa s) (hat : ∀ w ∈ (a_own13 own ic).filter vx_no, w.before args s = true)
    (hgood : ∀ w ∈ Cond.classLink own ik a_NSE :: Cond.initialized a_NSE :: (a_own13 own ic).filter vx_no, vx_ot w = true)
    (hU : vx_Zq Bundle.tN "UNASSIGNED_STACK" Bundle.steD A s s.heap) (hN : vx_Zq Bundle.tN "SUPPRESSED_SENTINEL" Bundle.listD A s s.heap) (hS : va_S A s.heap H locs) (hsize : ls.size = c.maxLocals)
    (d0 : decode cc pc = .ok (.new ik, 3)) (d3 : decode cc (pc + 3) = .ok (.dup, 1)) (d4 : decode cc (pc + 4) = .ok (.ldc_w is, 3)) (d6 : decode cc (pc + 7) = .ok (.invokespecial ic, 3))
    (hP : va_P D cl ws H)
    (hRframes : 2 + 3 < R.frames) (hRlocals : (rest.map fun v => v.category).sum + (13 * (2 + 1) + 43) ≤ R.locals) (hRcells : cells + 1 ≤ R.cells) (hRslots : slots + 6 ≤ R.slots)
    (kk : ∀ (q : Nat) (H1 : Heap) (ce : Cell), H1[q]? = some ce → ce.vm = .none → s.vm.findClass a_NSE = some ce.cls → va_P D cl ws H1 → va_S A s.heap H1 locs → W p l e R s m args below meth c H1 locs (cells + 1) (slots + 6) Q (F0 m (pc + 10) ls (.ref q :: rest))) :
    W p l e R s m args below meth c H locs cells slots Q (F0 m pc ls rest) := by
  intro T hT X
  subst hT
  have htr : e.platform.stackTraces = false := (show e.platform.stackTraces = l.stackTraces by rw [X.admits.platform]).trans hl
  have Y := vx_rebase X (R' := { frames := R.frames, locals := R.locals, cells := 1, slots := 6 }) (Nat.le_refl _) (Nat.le_refl _) hRcells hRslots
  obtain ⟨s', hA'⟩ : ∃ z, z = (T.setVm s.vm).setFrames (.invoking m args :: below) := ⟨_, rfl⟩
  rw [← hA'] at Y
  have hvm : s'.vm = s.vm := by rw [hA']; rfl
  have hhp : s'.heap = T.heap := by rw [hA']; rfl
  have hW0 : s.WarmedH s'.vm := by rw [hvm]; exact State.WarmedH.refl s
  have hat' : ∀ w ∈ (a_own13 own ic).filter vx_no, w.before args s' = true := fun w hw => vx_ot_at hW0 hvm.symm (hgood w (List.mem_cons_of_mem _ (List.mem_cons_of_mem _ hw))) (hat w hw)
  have hk' : (Cond.classLink own ik a_NSE).before args s' = true := vx_ot_at hW0 hvm.symm (hgood _ List.mem_cons_self) hk
  have hini' : (Cond.initialized a_NSE).before args s' = true := vx_ot_at hW0 hvm.symm (hgood _ (List.mem_cons_of_mem _ List.mem_cons_self)) hini
  have hU' : vx_Zq Bundle.tN "UNASSIGNED_STACK" Bundle.steD A s' s'.heap := by rw [hhp]; exact vx_Zq.moved hW0.alike (hU.kept hS.2.1)
  have hN' : vx_Zq Bundle.tN "SUPPRESSED_SENTINEL" Bundle.listD A s' s'.heap := by rw [hhp]; exact vx_Zq.moved hW0.alike (hN.kept hS.2.1)
  have h : ∀ w ∈ a_own13 own ic, w.before args s' = true := vx_own hat' (vx_isRefq hU'.1) (vx_isRefq hN'.1) hU'.2.word hN'.2.word
  have hown' : s'.vm.findClass own = some m.cls := by rw [hvm]; exact hown
  have hins : (Cond.instantiable a_NSE 6).before args s' = true := h _ (by simp [a_own13, a_tl, a_tl2])
  obtain ⟨vm₁, cX, kX, hfX, hkX, -, -, X₁, st1⟩ := Y.newCold hexec (own := own) (C := a_NSE) (index := ik) (n := 6) hown' hk' hins hini'
    (g := F0 m pc ls rest) rfl (by rw [hb]; exact d0) (Nat.le_refl _) (Nat.le_refl _)
  generalize hT1 : (T.setVm vm₁).pushCell { cls := cX, slots := kX.instanceTypes.map defaultValue, vm := .none } = T1 at X₁ st1
  have hcat : (Value.ref T.heap.size).category = 1 := rfl
  have hcellA : T1.heap[T.heap.size]? = some (freshCell cX kX) := by rw [← hT1]; exact State.heap_pushCell_size _ _
  have d3' : decode c.code (pc + 3) = .ok (.dup, 1) := by rw [hb]; exact d3
  have d4' : decode c.code (pc + 4) = .ok (.ldc_w is, 3) := by rw [hb]; exact d4
  have hstr' : vk_R own is text sa s' := vk_R.warm hW0 hstr
  obtain ⟨V, ce, L, Z, hL, hlt, hcl9, hvm9, st⟩ := a_ctorN X₁ hexec htr (own := own) (ic := ic) hown' h (fun x hx => nomatch hx) hfX hkX hcellA (by rw [hhp]; exact Nat.le_refl _) (msg := .ref sa) rfl
    (g := { method := m, pc := pc + 7, locals := ls, stack := .ref sa :: .ref T.heap.size :: .ref T.heap.size :: rest, locked := none }) rfl hsize (rest := rest) rfl
    (by rw [hb]; exact d6) hRframes (by simp only [List.map_cons, List.sum_cons, hcat]; omega)
  have Z0 := Stand.forget (locs := []) Z (fun y hy => by rw [hL y hy, hhp]; exact Nat.le_refl _)
  obtain ⟨f1, f2⟩ := vx_frame Z0.same
  rw [hhp] at f1 f2
  have hcid : s.vm.findClass a_NSE = some ce.cls := by
    rw [hcl9, ← hvm]
    exact hfX
  have hh : (V.setCell T.heap.size ce).heap[T.heap.size]? = some ce := heapAt_setCell_self (s := V) ce hlt
  subst hA'
  have X5 := vx_back9 X Y Z0
  have X6 : Stand p l e R s m args below meth c (V.setCell T.heap.size ce) locs (cells + 1) (slots + 6) := { X5 with same := X5.same.mono (by omega) (by omega) }
  have hk9 : ∀ (k : Nat) (x : Nat × va_E), ws[k]? = some x → (V.setCell T.heap.size ce).heap[x.1]? = T.heap[x.1]? := fun k x hx => f2 x.1 ((hP k x hx).lt) (fun z hz => nomatch hz)
  obtain ⟨t, a1, b1⟩ := kk T.heap.size (V.setCell T.heap.size ce).heap ce hh hvm9 hcid (hP.kept hk9) ⟨Nat.le_trans hS.1 f1, fun q h1 h2 => (f2 q (Nat.lt_of_lt_of_le h1 hS.1) (fun z hz => nomatch hz)).trans (hS.2.1 q h1 h2), hS.2.2⟩ _ rfl X6
  refine ⟨t, st1 _ ?_, b1⟩
  show Steps p.tables e below (T1.setTop { method := m, pc := pc + 3, locals := ls, stack := .ref T.heap.size :: rest, locked := none }) _
  jvm_step X₁.here [X₁.here.top, hexec, d3', Value.category]
  exact X₁.ldcStringW hexec (own := own) (text := text) (index := is) (a := sa) hown' hstr'.1 hstr'.2
    (g := { method := m, pc := pc + 4, locals := ls, stack := .ref T.heap.size :: .ref T.heap.size :: rest, locked := none }) rfl d4' _ (st _ a1)
end NSE2
def a_thN (I : a_I) (pc : Nat) : Prop :=
  ∃ (ik is ic : Nat) (tx : String),
    Cond.classLink (i_own I) ik a_NSE ∈ a_GT ∧ Cond.initialized a_NSE ∈ a_GT ∧ Cond.stringRef (i_own I) is tx ∈ tables_1 ∧
    (∀ w ∈ (a_own13 (i_own I) ic).filter vx_no, w ∈ a_GT ∨ (w ∈ a_GN ∧ w.onTables = true)) ∧
    decode (i_cc I) pc = .ok (.new ik, 3) ∧ decode (i_cc I) (pc + 3) = .ok (.dup, 1) ∧ decode (i_cc I) (pc + 4) = .ok (.ldc_w is, 3) ∧ decode (i_cc I) (pc + 7) = .ok (.invokespecial ic, 3) ∧ decode (i_cc I) (pc + 10) = .ok (.athrow, 1)
theorem r_throwN {I : a_I} {pc uc us : Nat} {ls st : List Value} {h : a_H} {Q : a_Q} (hth : a_thN I pc) (hh : i_hh I = []) (hd : 6 ≤ i_d I) (hst : (st.map fun v => v.category).sum ≤ 200) (hu1 : uc + 1 ≤ i_mc I) (hv1 : us + 6 ≤ i_ms I) (hq : Q (.inr a_NSE) (false, h.2)) : AW I pc ls st h uc us Q := by
  intro V p l e R s m args below meth c9 H locs Gl ws tys lsC hC hR hN hH hS hu hv2 hL
  obtain ⟨ik, is, ic, tx, w1, w2, w3, w4, d0, d3, d4, d6, d9⟩ := hth
  have hX := hC.2.2.2.2.2.2.2.2.2.2.1
  have hts := hC.2.2.2.2.1
  have hroom := hC.2.2.2.2.2.2.2.1
  obtain ⟨sa, hsa⟩ := hX.2.2.2.2.1 _ _ _ w3
  have hgood : ∀ w ∈ Cond.classLink (i_own I) ik a_NSE :: Cond.initialized a_NSE :: (a_own13 (i_own I) ic).filter vx_no, vx_ot w = true := by
    intro w hw
    rcases List.mem_cons.mp hw with rfl | hw
    · exact a_good_ot (a_GT_good _ w1)
    · rcases List.mem_cons.mp hw with rfl | hw
      · exact a_good_ot (a_GT_good _ w2)
      · rcases w4 w hw with g | g
        · exact a_good_ot (a_GT_good _ g)
        · exact a_tb_ot g.2
  have hat : ∀ w ∈ (a_own13 (i_own I) ic).filter vx_no, w.before args s = true := by
    intro w hw
    rcases w4 w hw with g | g
    · exact hts w g
    · exact vx_ot_at (State.WarmedH.refl s) rfl (a_tb_ot g.2) (hX.2.2.2.2.2.2.2.2.2 w g.1)
  refine a_makeN (A := a_A V) hC.1 hC.2.1 hC.2.2.2.2.2.2.1 hC.2.2.2.1 (hts _ w1) (hts _ w2) hsa hat hgood hX.2.2.2.2.2.1 hX.2.2.2.2.2.2.1 hS (by rw [hC.2.2.1]; exact hL.1) d0 d3 d4 d6 hH.2.1
    (by show 2 + 3 < R.frames; omega) (by rw [a_cat]; omega) (by rw [hroom.2.2.1]; exact hu1) (by rw [hroom.2.2.2]; exact hv1) (fun q H1 ce e1 e2 e3 hP1 hS1 => ?_)
  refine vx_athrow hC.1 hC.2.1 d9 ?_
  exact vx_widen hu1 hv1 (hR.2.1 hh H1 locs (false, h.2) ws tys (pc + 10) lsC (st.map (a_cv V)) a_NSE ce q ⟨hH.1, hP1, hH.2.2.1, hH.2.2.2⟩ hS1 hq e1 e2 e3)
theorem ats_N0 : ∀ w ∈ ((Bundle.throwableAtoms ++ Bundle.throwableSAtoms ++ a_nse) ++ a_tl2).filter vx_no, w ∈ a_GT ∨ (w ∈ a_GN ∧ w.onTables = true) := by decide +kernel
theorem ats_N (own : String) (ic : Nat) (h : Cond.methodLink own ic (Bundle.initS a_NSE) ∈ a_GT) : ∀ w ∈ (a_own13 own ic).filter vx_no, w ∈ a_GT ∨ (w ∈ a_GN ∧ w.onTables = true) := by
  intro w hw
  obtain ⟨h1, h2⟩ := List.mem_filter.mp hw
  rcases List.mem_append.mp h1 with g | g
  · exact ats_N0 w (List.mem_filter.mpr ⟨List.mem_append_left _ g, h2⟩)
  · rcases List.mem_append.mp g with g | g
    · rcases List.mem_cons.mp g with rfl | g
      · exact Or.inl h
      · cases g
    · exact ats_N0 w (List.mem_filter.mpr ⟨List.mem_append_right _ g, h2⟩)
abbrev ex_S : String := "java/lang/IllegalStateException"
theorem ats_S0 : ∀ w ∈ (((Bundle.throwableAtoms ++ Bundle.throwableSAtoms ++ Bundle.chainSAtoms ex_S ["java/lang/RuntimeException", "java/lang/Exception"]) ++ [Cond.instantiable ex_S 6, Cond.castable ex_S ex_S, Cond.selects ex_S Bundle.tFill0 Bundle.tFill0, Cond.selects ex_S Bundle.tFill Bundle.tFill,
   Cond.lays ex_S Bundle.tN "cause" "Ljava/lang/Throwable;", Cond.lays ex_S Bundle.tN "stackTrace" Bundle.steD, Cond.lays ex_S Bundle.tN "suppressedExceptions" Bundle.listD, Cond.lays ex_S Bundle.tN "detailMessage" "Ljava/lang/String;",
   Cond.isRef (.static Bundle.tN "UNASSIGNED_STACK" Bundle.steD), Cond.isRef (.static Bundle.tN "SUPPRESSED_SENTINEL" Bundle.listD),
   Cond.fieldLink Bundle.tN 198 Bundle.tN "backtrace" "Ljava/lang/Object;", Cond.lays Bundle.tN Bundle.tN "backtrace" "Ljava/lang/Object;", Cond.lays ex_S Bundle.tN "backtrace" "Ljava/lang/Object;"]).filter vx_no : List Cond), w ∈ a_GT ∨ (w ∈ a_GN ∧ w.onTables = true) := by decide +kernel
theorem ats_S (own : String) (ic : Nat) (h : Cond.methodLink own ic (Bundle.initS ex_S) ∈ a_GT) : ∀ w ∈ vx_atS own ic ex_S ["java/lang/RuntimeException", "java/lang/Exception"], w ∈ a_GT ∨ (w ∈ a_GN ∧ w.onTables = true) := by
  intro w hw
  obtain ⟨h1, h2⟩ := List.mem_filter.mp hw
  unfold Bundle.ownAtoms at h1
  rcases List.mem_append.mp h1 with g | g
  · exact ats_S0 w (List.mem_filter.mpr ⟨List.mem_append_left _ g, h2⟩)
  · rcases List.mem_cons.mp g with rfl | g
    · exact Or.inl h
    · exact ats_S0 w (List.mem_filter.mpr ⟨List.mem_append_right _ g, h2⟩)
abbrev ex_A : String := "java/lang/IllegalArgumentException"
theorem ats_A0 : ∀ w ∈ (((Bundle.throwableAtoms ++ Bundle.throwableSAtoms ++ Bundle.chainSAtoms ex_A ["java/lang/RuntimeException", "java/lang/Exception"]) ++ [Cond.instantiable ex_A 6, Cond.castable ex_A ex_A, Cond.selects ex_A Bundle.tFill0 Bundle.tFill0, Cond.selects ex_A Bundle.tFill Bundle.tFill,
   Cond.lays ex_A Bundle.tN "cause" "Ljava/lang/Throwable;", Cond.lays ex_A Bundle.tN "stackTrace" Bundle.steD, Cond.lays ex_A Bundle.tN "suppressedExceptions" Bundle.listD, Cond.lays ex_A Bundle.tN "detailMessage" "Ljava/lang/String;",
   Cond.isRef (.static Bundle.tN "UNASSIGNED_STACK" Bundle.steD), Cond.isRef (.static Bundle.tN "SUPPRESSED_SENTINEL" Bundle.listD),
   Cond.fieldLink Bundle.tN 198 Bundle.tN "backtrace" "Ljava/lang/Object;", Cond.lays Bundle.tN Bundle.tN "backtrace" "Ljava/lang/Object;", Cond.lays ex_A Bundle.tN "backtrace" "Ljava/lang/Object;"]).filter vx_no : List Cond), w ∈ a_GT ∨ (w ∈ a_GN ∧ w.onTables = true) := by decide +kernel
theorem ats_A (own : String) (ic : Nat) (h : Cond.methodLink own ic (Bundle.initS ex_A) ∈ a_GT) : ∀ w ∈ vx_atS own ic ex_A ["java/lang/RuntimeException", "java/lang/Exception"], w ∈ a_GT ∨ (w ∈ a_GN ∧ w.onTables = true) := by
  intro w hw
  obtain ⟨h1, h2⟩ := List.mem_filter.mp hw
  unfold Bundle.ownAtoms at h1
  rcases List.mem_append.mp h1 with g | g
  · exact ats_A0 w (List.mem_filter.mpr ⟨List.mem_append_left _ g, h2⟩)
  · rcases List.mem_cons.mp g with rfl | g
    · exact Or.inl h
    · exact ats_A0 w (List.mem_filter.mpr ⟨List.mem_append_right _ g, h2⟩)
abbrev ex_I : String := "java/lang/IndexOutOfBoundsException"
theorem ats_I0 : ∀ w ∈ (((Bundle.throwableAtoms ++ Bundle.throwableSAtoms ++ Bundle.chainSAtoms ex_I ["java/lang/RuntimeException", "java/lang/Exception"]) ++ [Cond.instantiable ex_I 6, Cond.castable ex_I ex_I, Cond.selects ex_I Bundle.tFill0 Bundle.tFill0, Cond.selects ex_I Bundle.tFill Bundle.tFill,
   Cond.lays ex_I Bundle.tN "cause" "Ljava/lang/Throwable;", Cond.lays ex_I Bundle.tN "stackTrace" Bundle.steD, Cond.lays ex_I Bundle.tN "suppressedExceptions" Bundle.listD, Cond.lays ex_I Bundle.tN "detailMessage" "Ljava/lang/String;",
   Cond.isRef (.static Bundle.tN "UNASSIGNED_STACK" Bundle.steD), Cond.isRef (.static Bundle.tN "SUPPRESSED_SENTINEL" Bundle.listD),
   Cond.fieldLink Bundle.tN 198 Bundle.tN "backtrace" "Ljava/lang/Object;", Cond.lays Bundle.tN Bundle.tN "backtrace" "Ljava/lang/Object;", Cond.lays ex_I Bundle.tN "backtrace" "Ljava/lang/Object;"]).filter vx_no : List Cond), w ∈ a_GT ∨ (w ∈ a_GN ∧ w.onTables = true) := by decide +kernel
theorem ats_I (own : String) (ic : Nat) (h : Cond.methodLink own ic (Bundle.initS ex_I) ∈ a_GT) : ∀ w ∈ vx_atS own ic ex_I ["java/lang/RuntimeException", "java/lang/Exception"], w ∈ a_GT ∨ (w ∈ a_GN ∧ w.onTables = true) := by
  intro w hw
  obtain ⟨h1, h2⟩ := List.mem_filter.mp hw
  unfold Bundle.ownAtoms at h1
  rcases List.mem_append.mp h1 with g | g
  · exact ats_I0 w (List.mem_filter.mpr ⟨List.mem_append_left _ g, h2⟩)
  · rcases List.mem_cons.mp g with rfl | g
    · exact Or.inl h
    · exact ats_I0 w (List.mem_filter.mpr ⟨List.mem_append_right _ g, h2⟩)
abbrev ex_N : String := "java/util/NoSuchElementException"
theorem th_X9_append_13 : a_th I_X9_append 13 ex_S := ⟨44, 46, 48, "the text buffer is full", by decide, k_451, k_16, s_493, ats_S _ _ k_494, dX9_append_13, dX9_append_16, Or.inl ⟨dX9_append_17, dX9_append_19, dX9_append_22⟩⟩
theorem th_X9_load_15 : a_th I_X9_load 15 ex_A := ⟨55, 57, 59, "the buffer has no such length", by decide, k_531, k_17, s_540, ats_A _ _ k_541, dX9_load_15, dX9_load_18, Or.inl ⟨dX9_load_19, dX9_load_21, dX9_load_24⟩⟩
theorem th_X9_count_198 : a_th I_X9_count 198 ex_A := ⟨55, 131, 59, "no such number of the place", by decide, k_531, k_17, s_825, ats_A _ _ k_541, dX9_count_198, dX9_count_201, Or.inl ⟨dX9_count_202, dX9_count_204, dX9_count_207⟩⟩
theorem th_X9_user_158 : a_th I_X9_user 158 ex_A := ⟨55, 173, 59, "no such number of a user", by decide, k_531, k_17, s_857, ats_A _ _ k_541, dX9_user_158, dX9_user_161, Or.inl ⟨dX9_user_162, dX9_user_164, dX9_user_167⟩⟩
theorem th_X9_addUser_53 : a_th I_X9_addUser 53 ex_S := ⟨44, 188, 48, "no user can be added there", by decide, k_451, k_16, s_875, ats_S _ _ k_494, dX9_addUser_53, dX9_addUser_56, Or.inl ⟨dX9_addUser_57, dX9_addUser_59, dX9_addUser_62⟩⟩
theorem th_X9_setShares_16 : a_th I_X9_setShares 16 ex_A := ⟨55, 194, 59, "the root has no shares", by decide, k_531, k_17, s_884, ats_A _ _ k_541, dX9_setShares_16, dX9_setShares_19, Or.inl ⟨dX9_setShares_20, dX9_setShares_22, dX9_setShares_25⟩⟩
theorem th_X9_lend_15 : a_th I_X9_lend 15 ex_A := ⟨55, 199, 59, "a user can't lend to itself", by decide, k_531, k_17, s_896, ats_A _ _ k_541, dX9_lend_15, dX9_lend_18, Or.inl ⟨dX9_lend_19, dX9_lend_21, dX9_lend_24⟩⟩
theorem th_X9_lend_93 : a_th I_X9_lend 93 ex_S := ⟨44, 206, 48, "this can't be lent", by decide, k_451, k_16, s_907, ats_S _ _ k_494, dX9_lend_93, dX9_lend_96, Or.inl ⟨dX9_lend_97, dX9_lend_99, dX9_lend_102⟩⟩
theorem th_X9_loan_16 : a_th I_X9_loan 16 ex_I := ⟨214, 216, 218, "no such loan", by decide, k_839, k_23, s_921, ats_I _ _ k_849, dX9_loan_16, dX9_loan_19, Or.inl ⟨dX9_loan_20, dX9_loan_22, dX9_loan_25⟩⟩
theorem th_X9_loan_108 : a_th I_X9_loan 108 ex_A := ⟨55, 233, 59, "no such number of a loan", by decide, k_531, k_17, s_927, ats_A _ _ k_541, dX9_loan_108, dX9_loan_111, Or.inl ⟨dX9_loan_112, dX9_loan_114, dX9_loan_117⟩⟩
theorem th_X9_ranked_14 : a_th I_X9_ranked 14 ex_I := ⟨214, 242, 218, "not so many leaves", by decide, k_839, k_23, s_957, ats_I _ _ k_849, dX9_ranked_14, dX9_ranked_17, Or.inl ⟨dX9_ranked_18, dX9_ranked_20, dX9_ranked_23⟩⟩
theorem th_X9_machine_107 : a_th I_X9_machine 107 ex_A := ⟨55, 263, 59, "no such number of a machine", by decide, k_531, k_17, s_989, ats_A _ _ k_541, dX9_machine_107, dX9_machine_110, Or.inr ⟨dX9_machine_111, dX9_machine_114, dX9_machine_117⟩⟩
theorem th_X9_job_105 : a_th I_X9_job 105 ex_A := ⟨55, 289, 59, "no such number of a job", by decide, k_531, k_17, s_1003, ats_A _ _ k_541, dX9_job_105, dX9_job_108, Or.inr ⟨dX9_job_109, dX9_job_112, dX9_job_115⟩⟩
theorem th_X9_first_27 : a_thN I_X9_first 27 := ⟨294, 296, 298, "no job is waiting", k_1013, k_24, s_1022, ats_N _ _ k_1023, dX9_first_27, dX9_first_30, dX9_first_31, dX9_first_34, dX9_first_37⟩
theorem th_X9_submit_30 : a_th I_X9_submit 30 ex_S := ⟨44, 300, 48, "no more jobs can be made", by decide, k_451, k_16, s_1037, ats_S _ _ k_494, dX9_submit_30, dX9_submit_33, Or.inr ⟨dX9_submit_34, dX9_submit_37, dX9_submit_40⟩⟩
theorem th_X9_set_9 : a_th I_X9_set 9 ex_A := ⟨55, 313, 59, "no such setting", by decide, k_531, k_17, s_1093, ats_A _ _ k_541, dX9_set_9, dX9_set_12, Or.inr ⟨dX9_set_13, dX9_set_16, dX9_set_19⟩⟩
theorem th_X9_tick_22 : a_th I_X9_tick 22 ex_S := ⟨44, 321, 48, "time ends before that", by decide, k_451, k_16, s_1103, ats_S _ _ k_494, dX9_tick_22, dX9_tick_25, Or.inr ⟨dX9_tick_26, dX9_tick_29, dX9_tick_32⟩⟩
theorem th_X9_part_27 : a_thN I_X9_part 27 := ⟨294, 337, 298, "nothing was used", k_1013, k_24, s_1156, ats_N _ _ k_1023, dX9_part_27, dX9_part_30, dX9_part_31, dX9_part_34, dX9_part_37⟩
theorem th_X9_writtenByte_15 : a_th I_X9_writtenByte 15 ex_I := ⟨214, 349, 218, "no such byte was written", by decide, k_839, k_23, s_1164, ats_I _ _ k_849, dX9_writtenByte_15, dX9_writtenByte_18, Or.inr ⟨dX9_writtenByte_19, dX9_writtenByte_22, dX9_writtenByte_25⟩⟩
theorem th_X9_undo_10 : a_th I_X9_undo 10 ex_S := ⟨44, 356, 48, "no change to undo", by decide, k_451, k_16, s_1172, ats_S _ _ k_494, dX9_undo_10, dX9_undo_13, Or.inr ⟨dX9_undo_14, dX9_undo_17, dX9_undo_20⟩⟩
theorem th_X9_needUser_14 : a_th I_X9_needUser 14 ex_I := ⟨214, 362, 218, "no such user", by decide, k_839, k_23, s_848, ats_I _ _ k_849, dX9_needUser_14, dX9_needUser_17, Or.inr ⟨dX9_needUser_18, dX9_needUser_21, dX9_needUser_24⟩⟩
theorem th_X9_needLeaf_14 : a_th I_X9_needLeaf 14 ex_S := ⟨44, 364, 48, "the user is no leaf", by decide, k_451, k_16, s_902, ats_S _ _ k_494, dX9_needLeaf_14, dX9_needLeaf_17, Or.inr ⟨dX9_needLeaf_18, dX9_needLeaf_21, dX9_needLeaf_24⟩⟩
theorem th_X9_needMachine_14 : a_th I_X9_needMachine 14 ex_I := ⟨214, 367, 218, "no such machine", by decide, k_839, k_23, s_978, ats_I _ _ k_849, dX9_needMachine_14, dX9_needMachine_17, Or.inr ⟨dX9_needMachine_18, dX9_needMachine_21, dX9_needMachine_24⟩⟩
theorem th_X9_needJob_14 : a_th I_X9_needJob 14 ex_I := ⟨214, 370, 218, "no such job", by decide, k_839, k_23, s_1002, ats_I _ _ k_849, dX9_needJob_14, dX9_needJob_17, Or.inr ⟨dX9_needJob_18, dX9_needJob_21, dX9_needJob_24⟩⟩
theorem th_X9_needOpen_14 : a_th I_X9_needOpen 14 ex_S := ⟨44, 375, 48, "the job is finished or cancelled", by decide, k_451, k_16, s_1054, ats_S _ _ k_494, dX9_needOpen_14, dX9_needOpen_17, Or.inr ⟨dX9_needOpen_18, dX9_needOpen_21, dX9_needOpen_24⟩⟩
theorem th_X9_needRange_10 : a_th I_X9_needRange 10 ex_A := ⟨55, 377, 59, "a number out of its range", by decide, k_531, k_17, s_868, ats_A _ _ k_541, dX9_needRange_10, dX9_needRange_13, Or.inr ⟨dX9_needRange_14, dX9_needRange_17, dX9_needRange_20⟩⟩
