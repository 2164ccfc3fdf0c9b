/-! THE LAYER: an abstract walk. A heap of cells by numbers (a_E), values whose references are numbers, and one judgement AW: 'from here on, over any machine state that shows this, the walk W comes to its goal'. Rows r_.. turn AW at an instruction into AW at the next; contracts AM are methods by their answers. -/
abbrev a_cls : List vw_C := [(RX0, TX0, 3), (RX1, TX1, 8), (RX2, TX2, 6), (RX3, TX3, 3), (RX4, TX4, 2), (RX5, TX5, 9), (RX6, TX6, 6), (RX7, TX7, 7), (RX8, TX8, 5), (RX9, TX9, 5), (RX10, TX10, 20)]
/-- the words that every method carries -/
def a_GT : List Cond := lw_tbl.filter goodWord
theorem a_GT_good : ∀ w ∈ a_GT, goodWord w = true := fun w h => (List.mem_filter.mp h).2
theorem a_GT_in : GoodIn a_GT a_GT := fun w h => ⟨h, good_of_word (a_GT_good w h)⟩
/-- words that are not of that kind, but stay as well -/
def a_nw : Cond → Bool
  | .castable .. => true
  | .declares .. => true
  | .fieldLinkNest .. => true
  | .methodLinkNest .. => true
  | .arrayOver (.object _) => true
  | _ => false
def a_GN : List Cond := tables_1.filter a_nw
theorem a_GN_nw : ∀ w ∈ a_GN, a_nw w = true := fun w h => (List.mem_filter.mp h).2
theorem a_nw_warm {w : Cond} (hw : a_nw w = true) {s U : State} (hW : s.WarmedH U.vm) (h : va_Nw w s) : va_Nw w U := by
  cases w with
  | castable C T => exact va_Nw.warmC hW h
  | declares x => exact va_Nw.warmD hW h
  | fieldLinkNest a i b n d h' => exact va_Nw.warmF hW h
  | methodLinkNest a i x h' => exact va_Nw.warmM hW h
  | arrayOver ty =>
    cases ty with
    | object C => exact va_AO.moved hW.alike h
    | _ => simp [a_nw] at hw
  | _ => simp [a_nw] at hw
/-- a cell: an array (kind of its elements, length and contents) or an object (its class's number, its fields) -/
abbrev a_E : Type := (Nat × vp_A) ⊕ (Nat × List Value)
def a_ty : Nat → FieldType
  | 0 => .int
  | 1 => .byte
  | 2 => .long
  | 3 => .double
  | _ => .object RX5
/-- what a run's walk is given: class numbers and slots, where new cells begin, where old things lie, the script's length and ints -/
abbrev a_V : Type := va_G × Nat × (Nat → Nat) × Nat × (Nat → Int32)
def a_ad (V : a_V) (c : Nat) : Nat := if c < 5000 then V.2.1 + c else V.2.2.1 (c - 5000)
def a_cv (V : a_V) : Value → Value
  | .ref c => .ref (a_ad V c)
  | v => v
def a_ca (V : a_V) (a : vp_A) : vp_A := (a.1, match a.2 with
  | .inr (.inr (.inr (.inr f))) => .inr (.inr (.inr (.inr (fun j => (f j).map (a_ad V)))))
  | z => z)
def a_A (V : a_V) : Nat → Prop := fun q => V.2.1 ≤ q
/-- the numbered cells and the kit's world of them -/
def a_C (V : a_V) (h : List a_E) (ws : va_W) (tys : List (ClassId × FieldType)) : Prop :=
  ws.length = h.length ∧ ∀ (c : Nat) (e : a_E), h[c]? = some e → match e with
    | .inr o => ws[c]? = some (a_ad V c, .inr (o.1, o.2.map (a_cv V)))
    | .inl a => ∃ (cA : ClassId) (t0 : Nat), ws[c]? = some (a_ad V c, .inl (cA, a_ca V a.2)) ∧ tys[t0]? = some (cA, a_ty a.1)
abbrev a_H : Type := Bool × List a_E
def a_HP (V : a_V) (h : List a_E) (H : Heap) (s : State) (ws : va_W) (tys : List (ClassId × FieldType)) : Prop :=
  a_C V h ws tys ∧ va_P V.1 a_cls ws H ∧ va_D (a_A V) ws ∧ va_K V.1 a_cls tys s
/-- clean: no cell is new but the numbered ones -/
def a_cl (V : a_V) (h : a_H) (n : Nat) : Prop := h.1 = true → n = V.2.1 + h.2.length ∧ h.2.length ≤ 5000
theorem a_C.objAt {V : a_V} {h : List a_E} {ws : va_W} {tys : List (ClassId × FieldType)} (hC : a_C V h ws tys) {c ci : Nat} {vs : List Value} (hc : h[c]? = some (.inr (ci, vs))) : ws[c]? = some (a_ad V c, .inr (ci, vs.map (a_cv V))) := hC.2 c _ hc
theorem a_C.arrAt {V : a_V} {h : List a_E} {ws : va_W} {tys : List (ClassId × FieldType)} (hC : a_C V h ws tys) {c t : Nat} {a : vp_A} (hc : h[c]? = some (.inl (t, a))) : ∃ (cA : ClassId) (t0 : Nat), ws[c]? = some (a_ad V c, .inl (cA, a_ca V a)) ∧ tys[t0]? = some (cA, a_ty t) := hC.2 c _ hc
theorem a_C.setO {V : a_V} {h : List a_E} {ws : va_W} {tys : List (ClassId × FieldType)} (hC : a_C V h ws tys) {c ci : Nat} {vs : List Value} (hc : h[c]? = some (.inr (ci, vs))) (vs' : List Value) :
    a_C V (h.set c (.inr (ci, vs'))) (ws.set c (a_ad V c, .inr (ci, vs'.map (a_cv V)))) tys := by
  obtain ⟨h1, h2⟩ := hC
  have hl : c < h.length := (List.getElem?_eq_some_iff.mp hc).1
  refine ⟨by simp [h1], fun b e hb => ?_⟩
  by_cases hbc : b = c
  · subst hbc
    rw [List.getElem?_set_self hl] at hb
    cases hb
    show (ws.set b _)[b]? = _
    rw [List.getElem?_set_self (by omega)]
  · rw [List.getElem?_set_ne (Ne.symm hbc)] at hb
    have h3 := h2 b e hb
    cases e with
    | inr o =>
      show (ws.set c _)[b]? = _
      rw [List.getElem?_set_ne (Ne.symm hbc)]
      exact h3
    | inl a =>
      obtain ⟨cA, t0, e1, e2⟩ := h3
      exact ⟨cA, t0, by rw [List.getElem?_set_ne (Ne.symm hbc)]; exact e1, e2⟩
theorem a_C.setA {V : a_V} {h : List a_E} {ws : va_W} {tys : List (ClassId × FieldType)} (hC : a_C V h ws tys) {c t t0 : Nat} {a : vp_A} {cA : ClassId} (hc : h[c]? = some (.inl (t, a))) (ht : tys[t0]? = some (cA, a_ty t)) (a' : vp_A) :
    a_C V (h.set c (.inl (t, a'))) (ws.set c (a_ad V c, .inl (cA, a_ca V a'))) tys := by
  obtain ⟨h1, h2⟩ := hC
  have hl : c < h.length := (List.getElem?_eq_some_iff.mp hc).1
  refine ⟨by simp [h1], fun b e hb => ?_⟩
  by_cases hbc : b = c
  · subst hbc
    rw [List.getElem?_set_self hl] at hb
    cases hb
    exact ⟨cA, t0, by rw [List.getElem?_set_self (by omega)], ht⟩
  · rw [List.getElem?_set_ne (Ne.symm hbc)] at hb
    have h3 := h2 b e hb
    cases e with
    | inr o =>
      show (ws.set c _)[b]? = _
      rw [List.getElem?_set_ne (Ne.symm hbc)]
      exact h3
    | inl a =>
      obtain ⟨cA, t0, e1, e2⟩ := h3
      exact ⟨cA, t0, by rw [List.getElem?_set_ne (Ne.symm hbc)]; exact e1, e2⟩
theorem a_C.pushO {V : a_V} {h : List a_E} {ws : va_W} {tys : List (ClassId × FieldType)} (hC : a_C V h ws tys) (ci : Nat) (vs : List Value) :
    a_C V (h ++ [.inr (ci, vs)]) (ws ++ [(a_ad V h.length, .inr (ci, vs.map (a_cv V)))]) tys := by
  obtain ⟨h1, h2⟩ := hC
  refine ⟨by simp [h1], fun b e hb => ?_⟩
  by_cases hbc : b < h.length
  · rw [List.getElem?_append_left hbc] at hb
    have h3 := h2 b e hb
    cases e with
    | inr o =>
      show (ws ++ _)[b]? = _
      rw [List.getElem?_append_left (by omega)]
      exact h3
    | inl a =>
      obtain ⟨cA, t0, e1, e2⟩ := h3
      exact ⟨cA, t0, by rw [List.getElem?_append_left (by omega)]; exact e1, e2⟩
  · rw [List.getElem?_append_right (by omega)] at hb
    have hz : b - h.length < 1 := (List.getElem?_eq_some_iff.mp hb).1
    have hbe : b = h.length := by omega
    subst hbe
    rw [Nat.sub_self] at hb
    cases hb
    show (ws ++ _)[h.length]? = _
    rw [List.getElem?_append_right (by omega), h1, Nat.sub_self]
    rfl
theorem a_C.pushA {V : a_V} {h : List a_E} {ws : va_W} {tys : List (ClassId × FieldType)} (hC : a_C V h ws tys) (cA : ClassId) (t : Nat) (a : vp_A) :
    a_C V (h ++ [.inl (t, a)]) (ws ++ [(a_ad V h.length, .inl (cA, a_ca V a))]) (tys ++ [(cA, a_ty t)]) := by
  obtain ⟨h1, h2⟩ := hC
  refine ⟨by simp [h1], fun b e hb => ?_⟩
  by_cases hbc : b < h.length
  · rw [List.getElem?_append_left hbc] at hb
    have h3 := h2 b e hb
    cases e with
    | inr o =>
      show (ws ++ _)[b]? = _
      rw [List.getElem?_append_left (by omega)]
      exact h3
    | inl a =>
      obtain ⟨cA, t0, e1, e2⟩ := h3
      exact ⟨cA, t0, by rw [List.getElem?_append_left (by omega)]; exact e1, by rw [List.getElem?_append_left ((List.getElem?_eq_some_iff.mp e2).1)]; exact e2⟩
  · rw [List.getElem?_append_right (by omega)] at hb
    have hz : b - h.length < 1 := (List.getElem?_eq_some_iff.mp hb).1
    have hbe : b = h.length := by omega
    subst hbe
    rw [Nat.sub_self] at hb
    cases hb
    refine ⟨cA, tys.length, ?_, ?_⟩
    · rw [List.getElem?_append_right (by omega), h1, Nat.sub_self]; rfl
    · rw [List.getElem?_append_right (by omega), Nat.sub_self]; rfl
/-- what lies outside: the script, the three static arrays, the Strings, two statics of Throwable -/
def a_sn : Nat → String
  | 0 => "FIRST_SETTING"
  | 1 => "LEAST_SETTING"
  | _ => "GREATEST_SETTING"
def a_sv : Nat → List Int32
  | 0 => [10, 50, 5]
  | 1 => [1, 0, 1]
  | _ => [50, 400, 20]
def a_kw : List (List Int32) := [[117, 115, 101, 114], [109, 97, 99, 104, 105, 110, 101], [106, 111, 98], [104, 97, 108, 102], [109, 97, 114, 103, 105, 110], [99, 104, 101, 99, 107]]
def a_kt : List String := ["user", "machine", "job", "half", "margin", "check"]
def a_kc : List (String × Nat × Nat) := [(RX7, 56, 0), (RX7, 66, 1), (RX7, 71, 2), (RX7, 76, 3), (RX7, 81, 4), (RX7, 83, 5), (RX10, 131, 0), (RX10, 140, 1), (RX10, 145, 2), (RX10, 150, 3), (RX10, 155, 4), (RX10, 157, 5)]
def a_ex : List String := ["java/lang/IllegalStateException", "java/lang/IllegalArgumentException", "java/lang/IndexOutOfBoundsException", "java/util/NoSuchElementException"]
/-- the static that String's own check of an index reads: null or a reference -/
def a_XP (V : a_V) (U : State) (H : Heap) : Prop := va_Z "jdk/internal/util/Preconditions" "SIOOBE_FORMATTER" "Ljava/util/function/BiFunction;" .null (a_A V) U H ∨ va_Z "jdk/internal/util/Preconditions" "SIOOBE_FORMATTER" "Ljava/util/function/BiFunction;" (.ref (a_ad V 5030)) (a_A V) U H
theorem a_XP.moved {V : a_V} {u U : State} {H : Heap} (hvm : u.vm.Alike U.vm) (h : a_XP V u H) : a_XP V U H := h.elim (fun z => Or.inl (va_Z.moved hvm z)) (fun z => Or.inr (va_Z.moved hvm z))
theorem a_XP.kept {V : a_V} {U : State} {H H1 : Heap} (h : a_XP V U H) (hq : ∀ a : Nat, a < H.size → ¬ a_A V a → H1[a]? = H[a]?) : a_XP V U H1 := h.elim (fun z => Or.inl (va_Z.kept z hq)) (fun z => Or.inr (va_Z.kept z hq))
def a_X (V : a_V) (U : State) (H : Heap) : Prop :=
  (va_X (a_ad V 5000) V.2.2.2.1 V.2.2.2.2 U H ∧ a_ad V 5000 < V.2.1) ∧
  (∀ k, k < 3 → va_Z RX9 (a_sn k) "[I" (.ref (a_ad V (5001 + k))) (a_A V) U H ∧ va_T .int (a_ad V (5001 + k)) 3 (fun j => .int ((a_sv k).getD j 0)) (a_A V) U H) ∧
  (∀ k, k < 6 → va_O "java/lang/String" (a_ad V (5010 + k)) (a_A V) U H ∧ va_OF "java/lang/String" "coder" "B" (.int 0) (a_ad V (5010 + k)) (a_A V) U H ∧ va_OF "java/lang/String" "value" "[B" (.ref (a_ad V (5020 + k))) (a_ad V (5010 + k)) (a_A V) U H ∧ va_T .byte (a_ad V (5020 + k)) (a_kw.getD k []).length (fun j => .int ((a_kw.getD k []).getD j 0)) (a_A V) U H) ∧
  (∀ q ∈ a_kc, vk_R q.1 q.2.1 (a_kt.getD q.2.2 "") (a_ad V (5010 + q.2.2)) U) ∧
  (∀ own k tx, Cond.stringRef own k tx ∈ tables_1 → ∃ sa, vk_R own k tx sa U) ∧
  vx_Zq Bundle.tN "UNASSIGNED_STACK" Bundle.steD (a_A V) U H ∧ vx_Zq Bundle.tN "SUPPRESSED_SENTINEL" Bundle.listD (a_A V) U H ∧
  (va_Z "java/lang/String" "COMPACT_STRINGS" "Z" (.int 1) (a_A V) U H ∧ a_XP V U H) ∧ (∀ x ∈ a_ex, ∀ y ∈ a_ex, x ≠ y → va_Nc x y U) ∧ (∀ w ∈ a_GN, va_Nw w U)
/-- a method as the walk sees it: class, bytes, locals, handlers, a constructor?, answer, depth, cells, slots -/
abbrev a_I : Type := String × ByteArray × Nat × List (Nat × Nat × Nat × Nat) × Bool × Option FieldType × Nat × Nat × Nat × Option (Nat × (Nat → Int32))
abbrev i_own (I : a_I) : String := I.1
abbrev i_cc (I : a_I) : ByteArray := I.2.1
abbrev i_nL (I : a_I) : Nat := I.2.2.1
abbrev i_hh (I : a_I) : List (Nat × Nat × Nat × Nat) := I.2.2.2.1
abbrev i_ini (I : a_I) : Bool := I.2.2.2.2.1
abbrev i_ret (I : a_I) : Option FieldType := I.2.2.2.2.2.1
abbrev i_d (I : a_I) : Nat := I.2.2.2.2.2.2.1
abbrev i_mc (I : a_I) : Nat := I.2.2.2.2.2.2.2.1
abbrev i_ms (I : a_I) : Nat := I.2.2.2.2.2.2.2.2.1
abbrev i_xs (I : a_I) : Option (Nat × (Nat → Int32)) := I.2.2.2.2.2.2.2.2.2
/-- an answer, or the name of what was thrown -/
abbrev a_O : Type := Option Value ⊕ String
abbrev a_Q : Type := a_O → a_H → Prop
def a_CT (V : a_V) (I : a_I) (p : Program) (l : Launch) (R : Room) (s : State) (m : MethodId) (args : Array Value) (meth : Method) (c : Code) : Prop :=
  p.tables.exec = Jvm.exec ∧ c.code = i_cc I ∧ c.maxLocals = i_nL I ∧ s.vm.findClass (i_own I) = some m.cls ∧ (∀ w ∈ a_GT, w.before args s = true) ∧ meth.locks = false ∧ l.stackTraces = false ∧
  (i_d I ≤ R.frames ∧ 60 * i_d I ≤ R.locals ∧ R.cells = i_mc I ∧ R.slots = i_ms I) ∧ c.exceptionTable.toList = tableOf (i_hh I) ∧ (i_ini I = true → meth.name = "<init>") ∧ a_X V s s.heap ∧ V.2.1 ≤ s.heap.size ∧ (∀ q, i_xs I = some q → V.2.2.2.1 = q.1 ∧ V.2.2.2.2 = q.2)
def a_rd (cc : ByteArray) (pc : Nat) (v : Option Value) : Prop := match v with
  | none => decode cc pc = .ok (.return_, 1)
  | some (.int _) => decode cc pc = .ok (.ireturn, 1)
  | some (.long _) => decode cc pc = .ok (.lreturn, 1)
  | some (.float _) => decode cc pc = .ok (.freturn, 1)
  | _ => False
def a_ok (ret : Option FieldType) (v : Option Value) : Prop := match v with
  | none => ret = none
  | some (.int x) => ∃ ty, ret = some ty ∧ narrow ty (.int x) = .int x
  | some (.long _) => ret = some .long
  | some (.float _) => ret = some .float
  | _ => False
/-- a place where a new exception with a text is made and thrown -/
def a_th (I : a_I) (pc : Nat) (E : String) : Prop :=
  ∃ (ik is ic : Nat) (tx : String), E ∈ a_ex ∧
    Cond.classLink (i_own I) ik E ∈ a_GT ∧ Cond.initialized E ∈ a_GT ∧ Cond.stringRef (i_own I) is tx ∈ tables_1 ∧
    (∀ w ∈ vx_atS (i_own I) ic E ["java/lang/RuntimeException", "java/lang/Exception"], w ∈ a_GT ∨ (w ∈ a_GN ∧ w.onTables = true)) ∧
    decode (i_cc I) pc = .ok (.new ik, 3) ∧ decode (i_cc I) (pc + 3) = .ok (.dup, 1) ∧
    ((decode (i_cc I) (pc + 4) = .ok (.ldc is, 2) ∧ decode (i_cc I) (pc + 6) = .ok (.invokespecial ic, 3) ∧ decode (i_cc I) (pc + 9) = .ok (.athrow, 1)) ∨
     (decode (i_cc I) (pc + 4) = .ok (.ldc_w is, 3) ∧ decode (i_cc I) (pc + 7) = .ok (.invokespecial ic, 3) ∧ decode (i_cc I) (pc + 10) = .ok (.athrow, 1)))
def a_RT (V : a_V) (I : a_I) (p : Program) (l : Launch) (e : Env) (R : Room) (s : State) (m : MethodId) (args : Array Value) (below : List Frame) (meth : Method) (c : Code) (Gl : State → Prop) (Q : a_Q) : Prop :=
  (∀ (H : Heap) (locs : List Loc) (h : a_H) (ws : va_W) (tys : List (ClassId × FieldType)) (pc : Nat) (ls : Array Slot) (v : Option Value), a_HP V h.2 H s ws tys → va_S (a_A V) s.heap H locs → Q (.inl v) h → a_rd (i_cc I) pc v → a_ok (i_ret I) v →
    W p l e R s m args below meth c H locs (i_mc I) (i_ms I) Gl (F0 m pc ls (v.map (a_cv V)).toList)) ∧
  (i_hh I = [] → ∀ (H : Heap) (locs : List Loc) (h : a_H) (ws : va_W) (tys : List (ClassId × FieldType)) (pc : Nat) (ls : Array Slot) (rest : List Value) (E : String) (ce : Cell) (q : Addr), a_HP V h.2 H s ws tys → va_S (a_A V) s.heap H locs → Q (.inr E) h → H[q]? = some ce → ce.vm = .none → s.vm.findClass E = some ce.cls →
    vx_W p l e R s m args below meth c H locs (i_mc I) (i_ms I) Gl (F0 m pc ls rest) q) ∧
  (i_hh I = [] → ∀ (H : Heap) (locs : List Loc) (h : a_H) (ws : va_W) (tys : List (ClassId × FieldType)) (pc : Nat) (ls : Array Slot) (rest : List Value) (E : String) (uc us : Nat), a_HP V h.2 H s ws tys → va_S (a_A V) s.heap H locs → Q (.inr E) (false, h.2) → a_th I pc E → 6 ≤ i_d I → (rest.map fun v => v.category).sum ≤ 200 → uc + 1 ≤ i_mc I → us + 6 ≤ i_ms I → ls.size = c.maxLocals →
    W p l e R s m args below meth c H locs uc us Gl (F0 m pc ls rest))
/-- the locals: what the list has is there; .null in the list: unknown -/
def a_L (V : a_V) (lsC : Array Slot) (nL : Nat) (ls : List Value) : Prop :=
  lsC.size = nL ∧ lv_wf lsC ∧ ∀ (i : Nat) (v : Value), ls[i]? = some v → v ≠ .null → lsC[i]? = some (.val (a_cv V v))
def AW (I : a_I) (pc : Nat) (ls st : List Value) (h : a_H) (uc us : Nat) (Q : a_Q) : Prop :=
  ∀ (V : a_V) (p : Program) (l : Launch) (e : Env) (R : Room) (s : State) (m : MethodId) (args : Array Value) (below : List Frame) (meth : Method) (c : Code) (H : Heap) (locs : List Loc) (Gl : State → Prop) (ws : va_W) (tys : List (ClassId × FieldType)) (lsC : Array Slot),
    a_CT V I p l R s m args meth c → a_RT V I p l e R s m args below meth c Gl Q → a_cl V h (s.heap.size + uc) → a_HP V h.2 H s ws tys → va_S (a_A V) s.heap H locs → uc ≤ i_mc I → us ≤ i_ms I → a_L V lsC (i_nL I) ls →
    W p l e R s m args below meth c H locs uc us Gl (F0 m pc lsC (st.map (a_cv V)))
def a_rm (d mc ms : Nat) : Room := { frames := d, cells := mc, slots := ms, locals := 60 * d }
def a_Pre (V : a_V) (h : a_H) (U : State) : Prop := (∃ ws tys, a_HP V h.2 U.heap U ws tys) ∧ a_X V U U.heap ∧ a_cl V h U.heap.size ∧ V.2.1 ≤ U.heap.size
def a_Qc (V : a_V) (Q : a_Q) : Array Value → State → Outcome → State → Prop := fun _ st o t =>
  (∃ (v : Option Value) (h : a_H), o = .returned (v.map (a_cv V)) ∧ Q (.inl v) h ∧ ∃ ws tys, a_HP V h.2 t.heap t ws tys) ∧ va_F (a_A V) st t
def a_XC (V : a_V) (Q : a_Q) : String → State → State → Prop := fun E st t =>
  (∃ h : a_H, Q (.inr E) h ∧ ∃ ws tys, a_HP V h.2 t.heap t ws tys) ∧ va_F (a_A V) st t
def a_cd (y : MethodName) (I : a_I) : Cond := if i_hh I = [] then .code y (i_cc I) (i_nL I) (i_ret I) else .codeWith y (i_cc I) (i_nL I) (i_ret I) (i_hh I)
/-- a method's contract: from these arguments and this heap it comes to Q -/
def AM (y : MethodName) (I : a_I) (args : List Value) (h : a_H) (Q : a_Q) : Prop :=
  ∀ (l : Launch) (V : a_V), l.stackTraces = false →
    vx_Met l y (a_cd y I :: a_GT) (a_rm (i_d I) (i_mc I) (i_ms I)) (va_Pc (args.map (a_cv V)) (a_Pre V h)) (a_Qc V Q) (a_XC V Q) (i_mc I) (i_ms I) (a_A V)
/-- .. to just one answer and heap -/
def AD (y : MethodName) (I : a_I) (args : List Value) (h : a_H) (o : a_O) (h' : a_H) : Prop := ∀ Q : a_Q, Q o h' → AM y I args h Q
theorem a_HP.moved {V : a_V} {h : List a_E} {H : Heap} {s t : State} {ws : va_W} {tys : List (ClassId × FieldType)} (hvm : s.vm.Alike t.vm) (hP : a_HP V h H s ws tys) : a_HP V h H t ws tys :=
  ⟨hP.1, hP.2.1, hP.2.2.1, va_K.moved hvm hP.2.2.2⟩
theorem a_X.moved {V : a_V} {u U : State} {H : Heap} (hW : u.WarmedH U.vm) (h : a_X V u H) : a_X V U H := by
  have hvm := hW.alike
  obtain ⟨⟨h1, h1b⟩, h2, h3, h4, h5, h6, h7, h8, h9, h10⟩ := h
  exact ⟨⟨va_X.moved hvm h1, h1b⟩, fun k hk => ⟨va_Z.moved hvm (h2 k hk).1, va_T.moved hvm (h2 k hk).2⟩, fun k hk => ⟨va_O.moved hvm (h3 k hk).1, va_OF.moved hvm (h3 k hk).2.1, va_OF.moved hvm (h3 k hk).2.2.1, va_T.moved hvm (h3 k hk).2.2.2⟩,
    fun q hq => vk_R.warm hW (h4 q hq), fun own k tx hq => by obtain ⟨sa, h⟩ := h5 own k tx hq; exact ⟨sa, vk_R.warm hW h⟩, vx_Zq.moved hvm h6, vx_Zq.moved hvm h7, ⟨va_Z.moved hvm h8.1, a_XP.moved hvm h8.2⟩, fun x hx y hy hn => va_Nc.moved hvm (h9 x hx y hy hn), fun w hw => a_nw_warm (a_GN_nw w hw) hW (h10 w hw)⟩
theorem a_X.kept {V : a_V} {U : State} {H H1 : Heap} (h : a_X V U H) (hB : V.2.1 ≤ H.size) (hq : ∀ a : Nat, a < H.size → ¬ a_A V a → H1[a]? = H[a]?) : a_X V U H1 := by
  obtain ⟨⟨h1, h1b⟩, h2, h3, h4, h5, h6, h7, h8, h9, h10⟩ := h
  exact ⟨⟨va_X.kept h1 (hq _ (by omega) (by unfold a_A; omega)), h1b⟩, fun k hk => ⟨va_Z.kept (h2 k hk).1 hq, va_T.kept (h2 k hk).2 hq⟩, fun k hk => ⟨va_O.kept (h3 k hk).1 hq, va_OF.kept (h3 k hk).2.1 hq, va_OF.kept (h3 k hk).2.2.1 hq, va_T.kept (h3 k hk).2.2.2 hq⟩,
    h4, h5, vx_Zq.kept h6 hq, vx_Zq.kept h7 hq, ⟨va_Z.kept h8.1 hq, a_XP.kept h8.2 hq⟩, h9, h10⟩
theorem a_Pre.blind {av : List Value} {V : a_V} {h : a_H} : FrameBlind (va_Pc av (a_Pre V h)) := fun a U g mk hp => by
  obtain ⟨e, ⟨ws, tys, hP⟩, hX, h3⟩ := hp
  exact ⟨e, ⟨ws, tys, hP⟩, a_X.moved (U := U.calling g mk a) (State.WarmedH.refl U) hX, h3⟩
theorem a_cv_cat (V : a_V) (v : Value) : (a_cv V v).category = v.category := by cases v <;> rfl
def a_ll (V : a_V) (ls : List Value) : List (Nat × Value) := (List.range ls.length).filterMap (fun i => match ls[i]? with
  | some v => if v = .null then none else some (i, a_cv V v)
  | none => none)
theorem a_ll_mem {V : a_V} {ls : List Value} {q : Nat × Value} : q ∈ a_ll V ls ↔ ∃ v, ls[q.1]? = some v ∧ v ≠ .null ∧ q.2 = a_cv V v := by
  unfold a_ll
  rw [List.mem_filterMap]
  constructor
  · rintro ⟨i, hi, h⟩
    cases hv : ls[i]? with
    | none => simp [hv] at h
    | some v =>
      by_cases hn : v = .null
      · simp [hv, hn] at h
      · simp [hv, hn] at h
        subst h
        exact ⟨v, hv, hn, rfl⟩
  · rintro ⟨v, h1, h2, h3⟩
    refine ⟨q.1, List.mem_range.mpr (List.getElem?_eq_some_iff.mp h1).1, ?_⟩
    simp [h1, h2, ← h3]
theorem a_L.has {V : a_V} {lsC : Array Slot} {nL : Nat} {ls : List Value} (h : a_L V lsC nL ls) : lv_has lsC nL (a_ll V ls) := by
  refine ⟨h.1, h.2.1, fun q hq => ?_⟩
  obtain ⟨v, h1, h2, h3⟩ := a_ll_mem.mp hq
  rw [h3]
  exact h.2.2 q.1 v h1 h2
theorem a_L.st1 {V : a_V} {lsC : Array Slot} {nL i : Nat} {ls : List Value} {v : Value} (hk : ∀ j w, ls[j]? = some w → j + 1 = i → w.category = 1)
    (h : lv_has lsC nL ((i, a_cv V v) :: (a_ll V ls).filter (fun q => !(q.1 == i) && !(q.1 + 1 == i && q.2.category == 2)))) : a_L V lsC nL (ls.set i v) := by
  refine ⟨h.1, h.2.1, fun j w hj hw => ?_⟩
  by_cases hji : j = i
  · subst hji
    have hl : j < ls.length := by have := (List.getElem?_eq_some_iff.mp hj).1; simpa using this
    rw [List.getElem?_set_self hl] at hj
    cases hj
    exact h.2.2 (j, a_cv V v) List.mem_cons_self
  · rw [List.getElem?_set_ne (Ne.symm hji)] at hj
    refine h.2.2 (j, a_cv V w) (List.mem_cons_of_mem _ (List.mem_filter.mpr ⟨a_ll_mem.mpr ⟨w, hj, hw, rfl⟩, ?_⟩))
    by_cases h2 : j + 1 = i
    · have := hk j w hj h2
      simp [hji, a_cv_cat, this]
    · simp [hji, h2]
theorem a_L.st2 {V : a_V} {lsC : Array Slot} {nL i : Nat} {ls : List Value} {v : Value} (hk : ∀ j w, ls[j]? = some w → j + 1 = i → w.category = 1)
    (h : lv_has lsC nL ((i, a_cv V v) :: (a_ll V ls).filter (fun q => !(q.1 == i) && (!(q.1 == i + 1) && !(q.1 + 1 == i && q.2.category == 2))))) : a_L V lsC nL ((ls.set i v).set (i + 1) .null) := by
  refine ⟨h.1, h.2.1, fun j w hj hw => ?_⟩
  by_cases hj1 : j = i + 1
  · subst hj1
    have hl : i + 1 < ls.length := by have := (List.getElem?_eq_some_iff.mp hj).1; simpa using this
    rw [List.getElem?_set_self (by simpa using hl)] at hj
    cases hj
    exact absurd rfl hw
  · rw [List.getElem?_set_ne (Ne.symm hj1)] at hj
    by_cases hji : j = i
    · subst hji
      have hl : j < ls.length := by have := (List.getElem?_eq_some_iff.mp hj).1; simpa using this
      rw [List.getElem?_set_self hl] at hj
      cases hj
      exact h.2.2 (j, a_cv V v) List.mem_cons_self
    · rw [List.getElem?_set_ne (Ne.symm hji)] at hj
      refine h.2.2 (j, a_cv V w) (List.mem_cons_of_mem _ (List.mem_filter.mpr ⟨a_ll_mem.mpr ⟨w, hj, hw, rfl⟩, ?_⟩))
      by_cases h2 : j + 1 = i
      · have := hk j w hj h2
        simp [hji, hj1, a_cv_cat, this]
      · simp [hji, hj1, h2]
section AR
variable {I : a_I} {pc uc us : Nat} {ls st : List Value} {h : a_H} {Q : a_Q}
theorem r_iadd {x y : Int32} (hd : decode (i_cc I) pc = .ok (.iadd, 1)) (k : AW I (pc + 1) ls (.int (x + y) :: st) h uc us Q) : AW I pc ls (.int y :: .int x :: st) h uc us Q := by
  intro V p l e R s m args below meth c H locs Gl ws tys lsC hC hR hN hH hS hu hv hL
  exact lv_iadd hC.1 hC.2.1 hd (k V p l e R s m args below meth c H locs Gl ws tys lsC hC hR hN hH hS hu hv hL)
theorem r_isub {x y : Int32} (hd : decode (i_cc I) pc = .ok (.isub, 1)) (k : AW I (pc + 1) ls (.int (x - y) :: st) h uc us Q) : AW I pc ls (.int y :: .int x :: st) h uc us Q := by
  intro V p l e R s m args below meth c H locs Gl ws tys lsC hC hR hN hH hS hu hv hL
  exact lv_isub hC.1 hC.2.1 hd (k V p l e R s m args below meth c H locs Gl ws tys lsC hC hR hN hH hS hu hv hL)
theorem r_imul {x y : Int32} (hd : decode (i_cc I) pc = .ok (.imul, 1)) (k : AW I (pc + 1) ls (.int (x * y) :: st) h uc us Q) : AW I pc ls (.int y :: .int x :: st) h uc us Q := by
  intro V p l e R s m args below meth c H locs Gl ws tys lsC hC hR hN hH hS hu hv hL
  exact lv_imul hC.1 hC.2.1 hd (k V p l e R s m args below meth c H locs Gl ws tys lsC hC hR hN hH hS hu hv hL)
theorem r_iand {x y : Int32} (hd : decode (i_cc I) pc = .ok (.iand, 1)) (k : AW I (pc + 1) ls (.int (x &&& y) :: st) h uc us Q) : AW I pc ls (.int y :: .int x :: st) h uc us Q := by
  intro V p l e R s m args below meth c H locs Gl ws tys lsC hC hR hN hH hS hu hv hL
  exact lv_iand hC.1 hC.2.1 hd (k V p l e R s m args below meth c H locs Gl ws tys lsC hC hR hN hH hS hu hv hL)
theorem r_ishr {x y : Int32} (hd : decode (i_cc I) pc = .ok (.ishr, 1)) (k : AW I (pc + 1) ls (.int (x >>> (y &&& 31)) :: st) h uc us Q) : AW I pc ls (.int y :: .int x :: st) h uc us Q := by
  intro V p l e R s m args below meth c H locs Gl ws tys lsC hC hR hN hH hS hu hv hL
  exact lv_ishr hC.1 hC.2.1 hd (k V p l e R s m args below meth c H locs Gl ws tys lsC hC hR hN hH hS hu hv hL)
theorem r_idiv {x y : Int32} (hd : decode (i_cc I) pc = .ok (.idiv, 1)) (hne : ¬ y = 0) (k : AW I (pc + 1) ls (.int (x / y) :: st) h uc us Q) : AW I pc ls (.int y :: .int x :: st) h uc us Q := by
  intro V p l e R s m args below meth c H locs Gl ws tys lsC hC hR hN hH hS hu hv hL
  exact lv_idiv hC.1 hC.2.1 hd hne (k V p l e R s m args below meth c H locs Gl ws tys lsC hC hR hN hH hS hu hv hL)
theorem r_irem {x y : Int32} (hd : decode (i_cc I) pc = .ok (.irem, 1)) (hne : ¬ y = 0) (k : AW I (pc + 1) ls (.int (x % y) :: st) h uc us Q) : AW I pc ls (.int y :: .int x :: st) h uc us Q := by
  intro V p l e R s m args below meth c H locs Gl ws tys lsC hC hR hN hH hS hu hv hL
  have k2 := k V p l e R s m args below meth c H locs Gl ws tys lsC hC hR hN hH hS hu hv hL
  rw [← irem_eq_mod] at k2
  exact lv_irem hC.1 hC.2.1 hd hne k2
theorem r_ineg {x : Int32} (hd : decode (i_cc I) pc = .ok (.ineg, 1)) (k : AW I (pc + 1) ls (.int (-x) :: st) h uc us Q) : AW I pc ls (.int x :: st) h uc us Q := by
  intro V p l e R s m args below meth c H locs Gl ws tys lsC hC hR hN hH hS hu hv hL
  exact lv_ineg hC.1 hC.2.1 hd (k V p l e R s m args below meth c H locs Gl ws tys lsC hC hR hN hH hS hu hv hL)
theorem r_ladd {x y : Int64} (hd : decode (i_cc I) pc = .ok (.ladd, 1)) (k : AW I (pc + 1) ls (.long (x + y) :: st) h uc us Q) : AW I pc ls (.long y :: .long x :: st) h uc us Q := by
  intro V p l e R s m args below meth c H locs Gl ws tys lsC hC hR hN hH hS hu hv hL
  exact lv_ladd hC.1 hC.2.1 hd (k V p l e R s m args below meth c H locs Gl ws tys lsC hC hR hN hH hS hu hv hL)
theorem r_lmul {x y : Int64} (hd : decode (i_cc I) pc = .ok (.lmul, 1)) (k : AW I (pc + 1) ls (.long (x * y) :: st) h uc us Q) : AW I pc ls (.long y :: .long x :: st) h uc us Q := by
  intro V p l e R s m args below meth c H locs Gl ws tys lsC hC hR hN hH hS hu hv hL
  exact lv_lmul hC.1 hC.2.1 hd (k V p l e R s m args below meth c H locs Gl ws tys lsC hC hR hN hH hS hu hv hL)
theorem r_land {x y : Int64} (hd : decode (i_cc I) pc = .ok (.land, 1)) (k : AW I (pc + 1) ls (.long (x &&& y) :: st) h uc us Q) : AW I pc ls (.long y :: .long x :: st) h uc us Q := by
  intro V p l e R s m args below meth c H locs Gl ws tys lsC hC hR hN hH hS hu hv hL
  exact lv_land hC.1 hC.2.1 hd (k V p l e R s m args below meth c H locs Gl ws tys lsC hC hR hN hH hS hu hv hL)
theorem r_lor {x y : Int64} (hd : decode (i_cc I) pc = .ok (.lor, 1)) (k : AW I (pc + 1) ls (.long (x ||| y) :: st) h uc us Q) : AW I pc ls (.long y :: .long x :: st) h uc us Q := by
  intro V p l e R s m args below meth c H locs Gl ws tys lsC hC hR hN hH hS hu hv hL
  exact lv_lor hC.1 hC.2.1 hd (k V p l e R s m args below meth c H locs Gl ws tys lsC hC hR hN hH hS hu hv hL)
theorem r_ldiv {x y : Int64} (hd : decode (i_cc I) pc = .ok (.ldiv, 1)) (hne : ¬ y = 0) (k : AW I (pc + 1) ls (.long (x / y) :: st) h uc us Q) : AW I pc ls (.long y :: .long x :: st) h uc us Q := by
  intro V p l e R s m args below meth c H locs Gl ws tys lsC hC hR hN hH hS hu hv hL
  exact lv_ldiv hC.1 hC.2.1 hd hne (k V p l e R s m args below meth c H locs Gl ws tys lsC hC hR hN hH hS hu hv hL)
theorem r_lshl {x : Int64} {y : Int32} (hd : decode (i_cc I) pc = .ok (.lshl, 1)) (k : AW I (pc + 1) ls (.long (x <<< (y.toInt64 &&& 63)) :: st) h uc us Q) : AW I pc ls (.int y :: .long x :: st) h uc us Q := by
  intro V p l e R s m args below meth c H locs Gl ws tys lsC hC hR hN hH hS hu hv hL
  exact lv_lshl hC.1 hC.2.1 hd rfl (k V p l e R s m args below meth c H locs Gl ws tys lsC hC hR hN hH hS hu hv hL)
theorem r_lshr {x : Int64} {y : Int32} (hd : decode (i_cc I) pc = .ok (.lshr, 1)) (k : AW I (pc + 1) ls (.long (x >>> (y.toInt64 &&& 63)) :: st) h uc us Q) : AW I pc ls (.int y :: .long x :: st) h uc us Q := by
  intro V p l e R s m args below meth c H locs Gl ws tys lsC hC hR hN hH hS hu hv hL
  exact lv_lshr hC.1 hC.2.1 hd rfl (k V p l e R s m args below meth c H locs Gl ws tys lsC hC hR hN hH hS hu hv hL)
theorem r_i2l {x : Int32} (hd : decode (i_cc I) pc = .ok (.i2l, 1)) (k : AW I (pc + 1) ls (.long x.toInt64 :: st) h uc us Q) : AW I pc ls (.int x :: st) h uc us Q := by
  intro V p l e R s m args below meth c H locs Gl ws tys lsC hC hR hN hH hS hu hv hL
  exact lv_i2l hC.1 hC.2.1 hd rfl (k V p l e R s m args below meth c H locs Gl ws tys lsC hC hR hN hH hS hu hv hL)
theorem r_l2i {x : Int64} (hd : decode (i_cc I) pc = .ok (.l2i, 1)) (k : AW I (pc + 1) ls (.int x.toInt32 :: st) h uc us Q) : AW I pc ls (.long x :: st) h uc us Q := by
  intro V p l e R s m args below meth c H locs Gl ws tys lsC hC hR hN hH hS hu hv hL
  exact lv_l2i hC.1 hC.2.1 hd rfl (k V p l e R s m args below meth c H locs Gl ws tys lsC hC hR hN hH hS hu hv hL)
theorem r_i2b {x : Int32} (hd : decode (i_cc I) pc = .ok (.i2b, 1)) (k : AW I (pc + 1) ls (.int x.toInt8.toInt32 :: st) h uc us Q) : AW I pc ls (.int x :: st) h uc us Q := by
  intro V p l e R s m args below meth c H locs Gl ws tys lsC hC hR hN hH hS hu hv hL
  exact lv_i2b hC.1 hC.2.1 hd rfl (k V p l e R s m args below meth c H locs Gl ws tys lsC hC hR hN hH hS hu hv hL)
theorem r_i2f {x : Int32} (hd : decode (i_cc I) pc = .ok (.i2f, 1)) (k : AW I (pc + 1) ls (.float (FP.i2f x) :: st) h uc us Q) : AW I pc ls (.int x :: st) h uc us Q := by
  intro V p l e R s m args below meth c H locs Gl ws tys lsC hC hR hN hH hS hu hv hL
  exact lv_i2f hC.1 hC.2.1 hd (k V p l e R s m args below meth c H locs Gl ws tys lsC hC hR hN hH hS hu hv hL)
theorem r_fdiv {x y : UInt32} (hd : decode (i_cc I) pc = .ok (.fdiv, 1)) (hne : vf_n32 (FP.fdiv x y)) (k : AW I (pc + 1) ls (.float (FP.fdiv x y) :: st) h uc us Q) : AW I pc ls (.float y :: .float x :: st) h uc us Q := by
  intro V p l e R s m args below meth c H locs Gl ws tys lsC hC hR hN hH hS hu hv hL
  exact lv_fdiv hC.1 hC.2.1 hd hne (k V p l e R s m args below meth c H locs Gl ws tys lsC hC hR hN hH hS hu hv hL)
theorem r_f2d {x : UInt32} (hd : decode (i_cc I) pc = .ok (.f2d, 1)) (hne : vf_n64 (FP.f2d x)) (k : AW I (pc + 1) ls (.double (FP.f2d x) :: st) h uc us Q) : AW I pc ls (.float x :: st) h uc us Q := by
  intro V p l e R s m args below meth c H locs Gl ws tys lsC hC hR hN hH hS hu hv hL
  exact lv_f2d hC.1 hC.2.1 hd hne (k V p l e R s m args below meth c H locs Gl ws tys lsC hC hR hN hH hS hu hv hL)
theorem r_dcmp {x y : UInt64} {op : CmpOp} (hd : decode (i_cc I) pc = .ok (.dcmp op, 1)) (k : AW I (pc + 1) ls (.int (Op.cmpValue (FP.dcmp x y) op) :: st) h uc us Q) : AW I pc ls (.double y :: .double x :: st) h uc us Q := by
  intro V p l e R s m args below meth c H locs Gl ws tys lsC hC hR hN hH hS hu hv hL
  exact lv_dcmp hC.1 hC.2.1 hd (k V p l e R s m args below meth c H locs Gl ws tys lsC hC hR hN hH hS hu hv hL)
theorem r_fcmp {x y : UInt32} {op : CmpOp} (hd : decode (i_cc I) pc = .ok (.fcmp op, 1)) (k : AW I (pc + 1) ls (.int (Op.cmpValue (FP.fcmp x y) op) :: st) h uc us Q) : AW I pc ls (.float y :: .float x :: st) h uc us Q := by
  intro V p l e R s m args below meth c H locs Gl ws tys lsC hC hR hN hH hS hu hv hL
  exact lv_fcmp hC.1 hC.2.1 hd (k V p l e R s m args below meth c H locs Gl ws tys lsC hC hR hN hH hS hu hv hL)
theorem r_fconst0  (hd : decode (i_cc I) pc = .ok (.fconst 0, 1)) (k : AW I (pc + 1) ls (.float FP.fconst0 :: st) h uc us Q) : AW I pc ls (st) h uc us Q := by
  intro V p l e R s m args below meth c H locs Gl ws tys lsC hC hR hN hH hS hu hv hL
  exact lv_fconst0 hC.1 hC.2.1 hd (k V p l e R s m args below meth c H locs Gl ws tys lsC hC hR hN hH hS hu hv hL)
theorem r_iconst_m1 (hd : decode (i_cc I) pc = .ok (.iconst (-1), 1)) (k : AW I (pc + 1) ls (.int (-1) :: st) h uc us Q) : AW I pc ls st h uc us Q := by
  intro V p l e R s m args below meth c H locs Gl ws tys lsC hC hR hN hH hS hu hv hL
  exact lv_iconst hC.1 hC.2.1 hd (by decide) (k V p l e R s m args below meth c H locs Gl ws tys lsC hC hR hN hH hS hu hv hL)
theorem r_iconst_0 (hd : decode (i_cc I) pc = .ok (.iconst 0, 1)) (k : AW I (pc + 1) ls (.int 0 :: st) h uc us Q) : AW I pc ls st h uc us Q := by
  intro V p l e R s m args below meth c H locs Gl ws tys lsC hC hR hN hH hS hu hv hL
  exact lv_iconst hC.1 hC.2.1 hd (by decide) (k V p l e R s m args below meth c H locs Gl ws tys lsC hC hR hN hH hS hu hv hL)
theorem r_iconst_1 (hd : decode (i_cc I) pc = .ok (.iconst 1, 1)) (k : AW I (pc + 1) ls (.int 1 :: st) h uc us Q) : AW I pc ls st h uc us Q := by
  intro V p l e R s m args below meth c H locs Gl ws tys lsC hC hR hN hH hS hu hv hL
  exact lv_iconst hC.1 hC.2.1 hd (by decide) (k V p l e R s m args below meth c H locs Gl ws tys lsC hC hR hN hH hS hu hv hL)
theorem r_iconst_2 (hd : decode (i_cc I) pc = .ok (.iconst 2, 1)) (k : AW I (pc + 1) ls (.int 2 :: st) h uc us Q) : AW I pc ls st h uc us Q := by
  intro V p l e R s m args below meth c H locs Gl ws tys lsC hC hR hN hH hS hu hv hL
  exact lv_iconst hC.1 hC.2.1 hd (by decide) (k V p l e R s m args below meth c H locs Gl ws tys lsC hC hR hN hH hS hu hv hL)
theorem r_iconst_3 (hd : decode (i_cc I) pc = .ok (.iconst 3, 1)) (k : AW I (pc + 1) ls (.int 3 :: st) h uc us Q) : AW I pc ls st h uc us Q := by
  intro V p l e R s m args below meth c H locs Gl ws tys lsC hC hR hN hH hS hu hv hL
  exact lv_iconst hC.1 hC.2.1 hd (by decide) (k V p l e R s m args below meth c H locs Gl ws tys lsC hC hR hN hH hS hu hv hL)
theorem r_iconst_4 (hd : decode (i_cc I) pc = .ok (.iconst 4, 1)) (k : AW I (pc + 1) ls (.int 4 :: st) h uc us Q) : AW I pc ls st h uc us Q := by
  intro V p l e R s m args below meth c H locs Gl ws tys lsC hC hR hN hH hS hu hv hL
  exact lv_iconst hC.1 hC.2.1 hd (by decide) (k V p l e R s m args below meth c H locs Gl ws tys lsC hC hR hN hH hS hu hv hL)
theorem r_iconst_5 (hd : decode (i_cc I) pc = .ok (.iconst 5, 1)) (k : AW I (pc + 1) ls (.int 5 :: st) h uc us Q) : AW I pc ls st h uc us Q := by
  intro V p l e R s m args below meth c H locs Gl ws tys lsC hC hR hN hH hS hu hv hL
  exact lv_iconst hC.1 hC.2.1 hd (by decide) (k V p l e R s m args below meth c H locs Gl ws tys lsC hC hR hN hH hS hu hv hL)
theorem r_bipush {n : Int} (v : Int32) (hd : decode (i_cc I) pc = .ok (.bipush n, 2)) (hv : (Int8.ofInt n).toInt32 = v) (k : AW I (pc + 2) ls (.int v :: st) h uc us Q) : AW I pc ls st h uc us Q := by
  intro V p l e R s m args below meth c H locs Gl ws tys lsC hC hR hN hH hS hu hv9 hL
  exact lv_bipush hC.1 hC.2.1 hd hv (k V p l e R s m args below meth c H locs Gl ws tys lsC hC hR hN hH hS hu hv9 hL)
theorem r_sipush {n : Int} (v : Int32) (hd : decode (i_cc I) pc = .ok (.sipush n, 3)) (hv : (Int16.ofInt n).toInt32 = v) (k : AW I (pc + 3) ls (.int v :: st) h uc us Q) : AW I pc ls st h uc us Q := by
  intro V p l e R s m args below meth c H locs Gl ws tys lsC hC hR hN hH hS hu hv9 hL
  exact lv_sipush hC.1 hC.2.1 hd hv (k V p l e R s m args below meth c H locs Gl ws tys lsC hC hR hN hH hS hu hv9 hL)
theorem r_lconst_0 (hd : decode (i_cc I) pc = .ok (.lconst 0, 1)) (k : AW I (pc + 1) ls (.long 0 :: st) h uc us Q) : AW I pc ls st h uc us Q := by
  intro V p l e R s m args below meth c H locs Gl ws tys lsC hC hR hN hH hS hu hv hL
  exact lv_lconst hC.1 hC.2.1 hd (by decide) (k V p l e R s m args below meth c H locs Gl ws tys lsC hC hR hN hH hS hu hv hL)
theorem r_lconst_1 (hd : decode (i_cc I) pc = .ok (.lconst 1, 1)) (k : AW I (pc + 1) ls (.long 1 :: st) h uc us Q) : AW I pc ls st h uc us Q := by
  intro V p l e R s m args below meth c H locs Gl ws tys lsC hC hR hN hH hS hu hv hL
  exact lv_lconst hC.1 hC.2.1 hd (by decide) (k V p l e R s m args below meth c H locs Gl ws tys lsC hC hR hN hH hS hu hv hL)
theorem r_ldc {ix : Nat} (v : Int32) (hd : decode (i_cc I) pc = .ok (.ldc ix, 2)) (hw : Cond.constant (i_own I) ix v ∈ a_GT) (k : AW I (pc + 2) ls (.int v :: st) h uc us Q) : AW I pc ls st h uc us Q := by
  intro V p l e R s m args below meth c H locs Gl ws tys lsC hC hR hN hH hS hu hv hL
  exact lv_ldc hC.1 hC.2.1 hC.2.2.2.1 (hC.2.2.2.2.1 _ hw) hd (k V p l e R s m args below meth c H locs Gl ws tys lsC hC hR hN hH hS hu hv hL)
theorem r_ldc2 {ix : Nat} (v : Int64) (hd : decode (i_cc I) pc = .ok (.ldc2_w ix, 3)) (hw : Cond.constantLong (i_own I) ix v ∈ a_GT) (k : AW I (pc + 3) ls (.long v :: st) h uc us Q) : AW I pc ls st h uc us Q := by
  intro V p l e R s m args below meth c H locs Gl ws tys lsC hC hR hN hH hS hu hv hL
  exact lv_ldc2 hC.1 hC.2.1 hC.2.2.2.1 (hC.2.2.2.2.1 _ hw) hd (k V p l e R s m args below meth c H locs Gl ws tys lsC hC hR hN hH hS hu hv hL)
theorem r_iload {i : Nat} {x : Int32} (hd : decode (i_cc I) pc = .ok (.iload i, 2)) (hl : ls[i]? = some (.int x)) (k : AW I (pc + 2) ls (.int x :: st) h uc us Q) : AW I pc ls st h uc us Q := by
  intro V p l e R s m args below meth c H locs Gl ws tys lsC hC hR hN hH hS hu hv hL
  exact lv_iload hC.1 hC.2.1 hd (hL.2.2 _ _ hl (fun z => by cases z)) (k V p l e R s m args below meth c H locs Gl ws tys lsC hC hR hN hH hS hu hv hL)
theorem r_iload_n {i : Fin 4} {x : Int32} (hd : decode (i_cc I) pc = .ok (.iload_n i, 1)) (hl : ls[(i : Nat)]? = some (.int x)) (k : AW I (pc + 1) ls (.int x :: st) h uc us Q) : AW I pc ls st h uc us Q := by
  intro V p l e R s m args below meth c H locs Gl ws tys lsC hC hR hN hH hS hu hv hL
  exact lv_iload_n hC.1 hC.2.1 hd rfl (hL.2.2 _ _ hl (fun z => by cases z)) (k V p l e R s m args below meth c H locs Gl ws tys lsC hC hR hN hH hS hu hv hL)
theorem r_lload {i : Nat} {x : Int64} (hd : decode (i_cc I) pc = .ok (.lload i, 2)) (hl : ls[i]? = some (.long x)) (k : AW I (pc + 2) ls (.long x :: st) h uc us Q) : AW I pc ls st h uc us Q := by
  intro V p l e R s m args below meth c H locs Gl ws tys lsC hC hR hN hH hS hu hv hL
  exact lv_lload hC.1 hC.2.1 hd (hL.2.2 _ _ hl (fun z => by cases z)) (k V p l e R s m args below meth c H locs Gl ws tys lsC hC hR hN hH hS hu hv hL)
theorem r_lload_n {i : Fin 4} {x : Int64} (hd : decode (i_cc I) pc = .ok (.lload_n i, 1)) (hl : ls[(i : Nat)]? = some (.long x)) (k : AW I (pc + 1) ls (.long x :: st) h uc us Q) : AW I pc ls st h uc us Q := by
  intro V p l e R s m args below meth c H locs Gl ws tys lsC hC hR hN hH hS hu hv hL
  exact lv_lload_n hC.1 hC.2.1 hd rfl (hL.2.2 _ _ hl (fun z => by cases z)) (k V p l e R s m args below meth c H locs Gl ws tys lsC hC hR hN hH hS hu hv hL)
theorem r_fload {i : Nat} {x : UInt32} (hd : decode (i_cc I) pc = .ok (.fload i, 2)) (hl : ls[i]? = some (.float x)) (k : AW I (pc + 2) ls (.float x :: st) h uc us Q) : AW I pc ls st h uc us Q := by
  intro V p l e R s m args below meth c H locs Gl ws tys lsC hC hR hN hH hS hu hv hL
  exact lv_fload hC.1 hC.2.1 hd (hL.2.2 _ _ hl (fun z => by cases z)) (k V p l e R s m args below meth c H locs Gl ws tys lsC hC hR hN hH hS hu hv hL)
theorem r_fload_n {i : Fin 4} {x : UInt32} (hd : decode (i_cc I) pc = .ok (.fload_n i, 1)) (hl : ls[(i : Nat)]? = some (.float x)) (k : AW I (pc + 1) ls (.float x :: st) h uc us Q) : AW I pc ls st h uc us Q := by
  intro V p l e R s m args below meth c H locs Gl ws tys lsC hC hR hN hH hS hu hv hL
  exact lv_fload_n hC.1 hC.2.1 hd rfl (hL.2.2 _ _ hl (fun z => by cases z)) (k V p l e R s m args below meth c H locs Gl ws tys lsC hC hR hN hH hS hu hv hL)
theorem r_aload {i : Nat} {x : Nat} (hd : decode (i_cc I) pc = .ok (.aload i, 2)) (hl : ls[i]? = some (.ref x)) (k : AW I (pc + 2) ls (.ref x :: st) h uc us Q) : AW I pc ls st h uc us Q := by
  intro V p l e R s m args below meth c H locs Gl ws tys lsC hC hR hN hH hS hu hv hL
  exact lv_aload hC.1 hC.2.1 hd (hL.2.2 _ _ hl (fun z => by cases z)) (k V p l e R s m args below meth c H locs Gl ws tys lsC hC hR hN hH hS hu hv hL)
theorem r_aload_n {i : Fin 4} {x : Nat} (hd : decode (i_cc I) pc = .ok (.aload_n i, 1)) (hl : ls[(i : Nat)]? = some (.ref x)) (k : AW I (pc + 1) ls (.ref x :: st) h uc us Q) : AW I pc ls st h uc us Q := by
  intro V p l e R s m args below meth c H locs Gl ws tys lsC hC hR hN hH hS hu hv hL
  exact lv_aload_n hC.1 hC.2.1 hd rfl (hL.2.2 _ _ hl (fun z => by cases z)) (k V p l e R s m args below meth c H locs Gl ws tys lsC hC hR hN hH hS hu hv hL)
theorem r_istore {i : Nat} {x : Int32} (hd : decode (i_cc I) pc = .ok (.istore i, 2)) (hn : i < i_nL I) (hk : ∀ j w, ls[j]? = some w → j + 1 = i → w.category = 1) (k : AW I (pc + 2) (ls.set i (.int x)) st h uc us Q) : AW I pc ls (.int x :: st) h uc us Q := by
  intro V p l e R s m args below meth c H locs Gl ws tys lsC hC hR hN hH hS hu hv hL
  exact lv_istore hC.1 hC.2.1 hd hL.has hn rfl (fun ls2 h2 => k V p l e R s m args below meth c H locs Gl ws tys ls2 hC hR hN hH hS hu hv (a_L.st1 hk h2))
theorem r_istore_n {i : Fin 4} {x : Int32} (hd : decode (i_cc I) pc = .ok (.istore_n i, 1)) (hn : (i : Nat) < i_nL I) (hk : ∀ j w, ls[j]? = some w → j + 1 = (i : Nat) → w.category = 1) (k : AW I (pc + 1) (ls.set (i : Nat) (.int x)) st h uc us Q) : AW I pc ls (.int x :: st) h uc us Q := by
  intro V p l e R s m args below meth c H locs Gl ws tys lsC hC hR hN hH hS hu hv hL
  exact lv_istore_n hC.1 hC.2.1 hd rfl hL.has hn rfl (fun ls2 h2 => k V p l e R s m args below meth c H locs Gl ws tys ls2 hC hR hN hH hS hu hv (a_L.st1 hk h2))
theorem r_fstore {i : Nat} {x : UInt32} (hd : decode (i_cc I) pc = .ok (.fstore i, 2)) (hn : i < i_nL I) (hk : ∀ j w, ls[j]? = some w → j + 1 = i → w.category = 1) (k : AW I (pc + 2) (ls.set i (.float x)) st h uc us Q) : AW I pc ls (.float x :: st) h uc us Q := by
  intro V p l e R s m args below meth c H locs Gl ws tys lsC hC hR hN hH hS hu hv hL
  exact lv_fstore hC.1 hC.2.1 hd hL.has hn rfl (fun ls2 h2 => k V p l e R s m args below meth c H locs Gl ws tys ls2 hC hR hN hH hS hu hv (a_L.st1 hk h2))
theorem r_fstore_n {i : Fin 4} {x : UInt32} (hd : decode (i_cc I) pc = .ok (.fstore_n i, 1)) (hn : (i : Nat) < i_nL I) (hk : ∀ j w, ls[j]? = some w → j + 1 = (i : Nat) → w.category = 1) (k : AW I (pc + 1) (ls.set (i : Nat) (.float x)) st h uc us Q) : AW I pc ls (.float x :: st) h uc us Q := by
  intro V p l e R s m args below meth c H locs Gl ws tys lsC hC hR hN hH hS hu hv hL
  exact lv_fstore_n hC.1 hC.2.1 hd rfl hL.has hn rfl (fun ls2 h2 => k V p l e R s m args below meth c H locs Gl ws tys ls2 hC hR hN hH hS hu hv (a_L.st1 hk h2))
theorem r_astore {i : Nat} {x : Nat} (hd : decode (i_cc I) pc = .ok (.astore i, 2)) (hn : i < i_nL I) (hk : ∀ j w, ls[j]? = some w → j + 1 = i → w.category = 1) (k : AW I (pc + 2) (ls.set i (.ref x)) st h uc us Q) : AW I pc ls (.ref x :: st) h uc us Q := by
  intro V p l e R s m args below meth c H locs Gl ws tys lsC hC hR hN hH hS hu hv hL
  exact lv_astore hC.1 hC.2.1 hd hL.has hn rfl (fun ls2 h2 => k V p l e R s m args below meth c H locs Gl ws tys ls2 hC hR hN hH hS hu hv (a_L.st1 hk h2))
theorem r_astore_n {i : Fin 4} {x : Nat} (hd : decode (i_cc I) pc = .ok (.astore_n i, 1)) (hn : (i : Nat) < i_nL I) (hk : ∀ j w, ls[j]? = some w → j + 1 = (i : Nat) → w.category = 1) (k : AW I (pc + 1) (ls.set (i : Nat) (.ref x)) st h uc us Q) : AW I pc ls (.ref x :: st) h uc us Q := by
  intro V p l e R s m args below meth c H locs Gl ws tys lsC hC hR hN hH hS hu hv hL
  exact lv_astore_n hC.1 hC.2.1 hd rfl hL.has hn rfl (fun ls2 h2 => k V p l e R s m args below meth c H locs Gl ws tys ls2 hC hR hN hH hS hu hv (a_L.st1 hk h2))
theorem r_lstore {i : Nat} {x : Int64} (hd : decode (i_cc I) pc = .ok (.lstore i, 2)) (hn : i + 1 < i_nL I) (hk : ∀ j w, ls[j]? = some w → j + 1 = i → w.category = 1) (k : AW I (pc + 2) ((ls.set i (.long x)).set (i + 1) .null) st h uc us Q) : AW I pc ls (.long x :: st) h uc us Q := by
  intro V p l e R s m args below meth c H locs Gl ws tys lsC hC hR hN hH hS hu hv hL
  exact lv_lstore hC.1 hC.2.1 hd hL.has hn rfl (fun ls2 h2 => k V p l e R s m args below meth c H locs Gl ws tys ls2 hC hR hN hH hS hu hv (a_L.st2 hk h2))
theorem r_lstore_n {i : Fin 4} {x : Int64} (hd : decode (i_cc I) pc = .ok (.lstore_n i, 1)) (hn : (i : Nat) + 1 < i_nL I) (hk : ∀ j w, ls[j]? = some w → j + 1 = (i : Nat) → w.category = 1) (k : AW I (pc + 1) ((ls.set (i : Nat) (.long x)).set ((i : Nat) + 1) .null) st h uc us Q) : AW I pc ls (.long x :: st) h uc us Q := by
  intro V p l e R s m args below meth c H locs Gl ws tys lsC hC hR hN hH hS hu hv hL
  exact lv_lstore_n hC.1 hC.2.1 hd rfl hL.has hn rfl (fun ls2 h2 => k V p l e R s m args below meth c H locs Gl ws tys ls2 hC hR hN hH hS hu hv (a_L.st2 hk h2))
theorem r_iinc {i : Nat} {n : Int} {x : Int32} (v : Int32) (hd : decode (i_cc I) pc = .ok (.iinc i n, 3)) (hl : ls[i]? = some (.int x)) (hx : x + Int32.ofInt n = v) (hn : i < i_nL I) (hk : ∀ j w, ls[j]? = some w → j + 1 = i → w.category = 1) (k : AW I (pc + 3) (ls.set i (.int v)) st h uc us Q) : AW I pc ls st h uc us Q := by
  intro V p l e R s m args below meth c H locs Gl ws tys lsC hC hR hN hH hS hu hv hL
  have hm : (i, Value.int x) ∈ a_ll V ls := a_ll_mem.mpr ⟨_, hl, (fun z => by cases z), rfl⟩
  obtain ⟨k0, hk0⟩ := List.getElem?_of_mem hm
  exact lv_iinc hC.1 hC.2.1 hd hL.has (k := k0) hk0 hx hn rfl (fun ls2 h2 => k V p l e R s m args below meth c H locs Gl ws tys ls2 hC hR hN hH hS hu hv (a_L.st1 hk h2))
theorem r_dup {va : Value} (hd : decode (i_cc I) pc = .ok (.dup, 1)) (hva : va.category = 1) (k : AW I (pc + 1) ls (va :: va :: st) h uc us Q) : AW I pc ls (va :: st) h uc us Q := by
  intro V p l e R s m args below meth c H locs Gl ws tys lsC hC hR hN hH hS hu hv hL
  exact lv_dup hC.1 hC.2.1 hd (by rw [a_cv_cat]; exact hva) (k V p l e R s m args below meth c H locs Gl ws tys lsC hC hR hN hH hS hu hv hL)
theorem r_dup2 {va vb : Value} (hd : decode (i_cc I) pc = .ok (.dup2, 1)) (hva : va.category = 1) (hvb : vb.category = 1) (k : AW I (pc + 1) ls (va :: vb :: va :: vb :: st) h uc us Q) : AW I pc ls (va :: vb :: st) h uc us Q := by
  intro V p l e R s m args below meth c H locs Gl ws tys lsC hC hR hN hH hS hu hv hL
  exact lv_dup2_11 hC.1 hC.2.1 hd (by rw [a_cv_cat]; exact hva) (by rw [a_cv_cat]; exact hvb) (k V p l e R s m args below meth c H locs Gl ws tys lsC hC hR hN hH hS hu hv hL)
theorem r_pop {va : Value} (hd : decode (i_cc I) pc = .ok (.pop, 1)) (hva : va.category = 1) (k : AW I (pc + 1) ls st h uc us Q) : AW I pc ls (va :: st) h uc us Q := by
  intro V p l e R s m args below meth c H locs Gl ws tys lsC hC hR hN hH hS hu hv hL
  exact lv_pop hC.1 hC.2.1 hd (by rw [a_cv_cat]; exact hva) (k V p l e R s m args below meth c H locs Gl ws tys lsC hC hR hN hH hS hu hv hL)
theorem r_lcmp {x y : Int64} (hd : decode (i_cc I) pc = .ok (.lcmp, 1)) (k : AW I (pc + 1) ls (.int (lg_cmp x y) :: st) h uc us Q) : AW I pc ls (.long y :: .long x :: st) h uc us Q := by
  intro V p l e R s m args below meth c H locs Gl ws tys lsC hC hR hN hH hS hu hv hL
  exact W.lcmp hC.1 hC.2.1 hd (k V p l e R s m args below meth c H locs Gl ws tys lsC hC hR hN hH hS hu hv hL)
theorem r_if_eq {x : Int32} {off : Int} (tgt : Nat) (hd : decode (i_cc I) pc = .ok (.ifCond .eq off, 3)) (ht : (pc : Int) + off = (tgt : Int)) (kt : x = 0 → AW I tgt ls st h uc us Q) (kf : ¬ x = 0 → AW I (pc + 3) ls st h uc us Q) : AW I pc ls (.int x :: st) h uc us Q := by
  intro V p l e R s m args below meth c H locs Gl ws tys lsC hC hR hN hH hS hu hv hL
  exact lv_if_eq hC.1 hC.2.1 hd ht (fun z => kt z V p l e R s m args below meth c H locs Gl ws tys lsC hC hR hN hH hS hu hv hL) (fun z => kf z V p l e R s m args below meth c H locs Gl ws tys lsC hC hR hN hH hS hu hv hL)
theorem r_icmp_eq {x y : Int32} {off : Int} (tgt : Nat) (hd : decode (i_cc I) pc = .ok (.if_icmp .eq off, 3)) (ht : (pc : Int) + off = (tgt : Int)) (kt : x = y → AW I tgt ls st h uc us Q) (kf : ¬ x = y → AW I (pc + 3) ls st h uc us Q) : AW I pc ls (.int y :: .int x :: st) h uc us Q := by
  intro V p l e R s m args below meth c H locs Gl ws tys lsC hC hR hN hH hS hu hv hL
  exact lv_icmp_eq hC.1 hC.2.1 hd ht (fun z => kt z V p l e R s m args below meth c H locs Gl ws tys lsC hC hR hN hH hS hu hv hL) (fun z => kf z V p l e R s m args below meth c H locs Gl ws tys lsC hC hR hN hH hS hu hv hL)
theorem r_if_ne {x : Int32} {off : Int} (tgt : Nat) (hd : decode (i_cc I) pc = .ok (.ifCond .ne off, 3)) (ht : (pc : Int) + off = (tgt : Int)) (kt : ¬ x = 0 → AW I tgt ls st h uc us Q) (kf : x = 0 → AW I (pc + 3) ls st h uc us Q) : AW I pc ls (.int x :: st) h uc us Q := by
  intro V p l e R s m args below meth c H locs Gl ws tys lsC hC hR hN hH hS hu hv hL
  exact lv_if_ne hC.1 hC.2.1 hd ht (fun z => kt z V p l e R s m args below meth c H locs Gl ws tys lsC hC hR hN hH hS hu hv hL) (fun z => kf z V p l e R s m args below meth c H locs Gl ws tys lsC hC hR hN hH hS hu hv hL)
theorem r_icmp_ne {x y : Int32} {off : Int} (tgt : Nat) (hd : decode (i_cc I) pc = .ok (.if_icmp .ne off, 3)) (ht : (pc : Int) + off = (tgt : Int)) (kt : ¬ x = y → AW I tgt ls st h uc us Q) (kf : x = y → AW I (pc + 3) ls st h uc us Q) : AW I pc ls (.int y :: .int x :: st) h uc us Q := by
  intro V p l e R s m args below meth c H locs Gl ws tys lsC hC hR hN hH hS hu hv hL
  exact lv_icmp_ne hC.1 hC.2.1 hd ht (fun z => kt z V p l e R s m args below meth c H locs Gl ws tys lsC hC hR hN hH hS hu hv hL) (fun z => kf z V p l e R s m args below meth c H locs Gl ws tys lsC hC hR hN hH hS hu hv hL)
theorem r_if_lt {x : Int32} {off : Int} (tgt : Nat) (hd : decode (i_cc I) pc = .ok (.ifCond .lt off, 3)) (ht : (pc : Int) + off = (tgt : Int)) (kt : x < 0 → AW I tgt ls st h uc us Q) (kf : ¬ x < 0 → AW I (pc + 3) ls st h uc us Q) : AW I pc ls (.int x :: st) h uc us Q := by
  intro V p l e R s m args below meth c H locs Gl ws tys lsC hC hR hN hH hS hu hv hL
  exact lv_if_lt hC.1 hC.2.1 hd ht (fun z => kt z V p l e R s m args below meth c H locs Gl ws tys lsC hC hR hN hH hS hu hv hL) (fun z => kf z V p l e R s m args below meth c H locs Gl ws tys lsC hC hR hN hH hS hu hv hL)
theorem r_icmp_lt {x y : Int32} {off : Int} (tgt : Nat) (hd : decode (i_cc I) pc = .ok (.if_icmp .lt off, 3)) (ht : (pc : Int) + off = (tgt : Int)) (kt : x < y → AW I tgt ls st h uc us Q) (kf : ¬ x < y → AW I (pc + 3) ls st h uc us Q) : AW I pc ls (.int y :: .int x :: st) h uc us Q := by
  intro V p l e R s m args below meth c H locs Gl ws tys lsC hC hR hN hH hS hu hv hL
  exact lv_icmp_lt hC.1 hC.2.1 hd ht (fun z => kt z V p l e R s m args below meth c H locs Gl ws tys lsC hC hR hN hH hS hu hv hL) (fun z => kf z V p l e R s m args below meth c H locs Gl ws tys lsC hC hR hN hH hS hu hv hL)
theorem r_if_ge {x : Int32} {off : Int} (tgt : Nat) (hd : decode (i_cc I) pc = .ok (.ifCond .ge off, 3)) (ht : (pc : Int) + off = (tgt : Int)) (kt : 0 ≤ x → AW I tgt ls st h uc us Q) (kf : ¬ 0 ≤ x → AW I (pc + 3) ls st h uc us Q) : AW I pc ls (.int x :: st) h uc us Q := by
  intro V p l e R s m args below meth c H locs Gl ws tys lsC hC hR hN hH hS hu hv hL
  exact lv_if_ge hC.1 hC.2.1 hd ht (fun z => kt z V p l e R s m args below meth c H locs Gl ws tys lsC hC hR hN hH hS hu hv hL) (fun z => kf z V p l e R s m args below meth c H locs Gl ws tys lsC hC hR hN hH hS hu hv hL)
theorem r_icmp_ge {x y : Int32} {off : Int} (tgt : Nat) (hd : decode (i_cc I) pc = .ok (.if_icmp .ge off, 3)) (ht : (pc : Int) + off = (tgt : Int)) (kt : y ≤ x → AW I tgt ls st h uc us Q) (kf : ¬ y ≤ x → AW I (pc + 3) ls st h uc us Q) : AW I pc ls (.int y :: .int x :: st) h uc us Q := by
  intro V p l e R s m args below meth c H locs Gl ws tys lsC hC hR hN hH hS hu hv hL
  exact lv_icmp_ge hC.1 hC.2.1 hd ht (fun z => kt z V p l e R s m args below meth c H locs Gl ws tys lsC hC hR hN hH hS hu hv hL) (fun z => kf z V p l e R s m args below meth c H locs Gl ws tys lsC hC hR hN hH hS hu hv hL)
theorem r_if_gt {x : Int32} {off : Int} (tgt : Nat) (hd : decode (i_cc I) pc = .ok (.ifCond .gt off, 3)) (ht : (pc : Int) + off = (tgt : Int)) (kt : 0 < x → AW I tgt ls st h uc us Q) (kf : ¬ 0 < x → AW I (pc + 3) ls st h uc us Q) : AW I pc ls (.int x :: st) h uc us Q := by
  intro V p l e R s m args below meth c H locs Gl ws tys lsC hC hR hN hH hS hu hv hL
  exact lv_if_gt hC.1 hC.2.1 hd ht (fun z => kt z V p l e R s m args below meth c H locs Gl ws tys lsC hC hR hN hH hS hu hv hL) (fun z => kf z V p l e R s m args below meth c H locs Gl ws tys lsC hC hR hN hH hS hu hv hL)
theorem r_icmp_gt {x y : Int32} {off : Int} (tgt : Nat) (hd : decode (i_cc I) pc = .ok (.if_icmp .gt off, 3)) (ht : (pc : Int) + off = (tgt : Int)) (kt : y < x → AW I tgt ls st h uc us Q) (kf : ¬ y < x → AW I (pc + 3) ls st h uc us Q) : AW I pc ls (.int y :: .int x :: st) h uc us Q := by
  intro V p l e R s m args below meth c H locs Gl ws tys lsC hC hR hN hH hS hu hv hL
  exact lv_icmp_gt hC.1 hC.2.1 hd ht (fun z => kt z V p l e R s m args below meth c H locs Gl ws tys lsC hC hR hN hH hS hu hv hL) (fun z => kf z V p l e R s m args below meth c H locs Gl ws tys lsC hC hR hN hH hS hu hv hL)
theorem r_if_le {x : Int32} {off : Int} (tgt : Nat) (hd : decode (i_cc I) pc = .ok (.ifCond .le off, 3)) (ht : (pc : Int) + off = (tgt : Int)) (kt : x ≤ 0 → AW I tgt ls st h uc us Q) (kf : ¬ x ≤ 0 → AW I (pc + 3) ls st h uc us Q) : AW I pc ls (.int x :: st) h uc us Q := by
  intro V p l e R s m args below meth c H locs Gl ws tys lsC hC hR hN hH hS hu hv hL
  exact lv_if_le hC.1 hC.2.1 hd ht (fun z => kt z V p l e R s m args below meth c H locs Gl ws tys lsC hC hR hN hH hS hu hv hL) (fun z => kf z V p l e R s m args below meth c H locs Gl ws tys lsC hC hR hN hH hS hu hv hL)
theorem r_icmp_le {x y : Int32} {off : Int} (tgt : Nat) (hd : decode (i_cc I) pc = .ok (.if_icmp .le off, 3)) (ht : (pc : Int) + off = (tgt : Int)) (kt : x ≤ y → AW I tgt ls st h uc us Q) (kf : ¬ x ≤ y → AW I (pc + 3) ls st h uc us Q) : AW I pc ls (.int y :: .int x :: st) h uc us Q := by
  intro V p l e R s m args below meth c H locs Gl ws tys lsC hC hR hN hH hS hu hv hL
  exact lv_icmp_le hC.1 hC.2.1 hd ht (fun z => kt z V p l e R s m args below meth c H locs Gl ws tys lsC hC hR hN hH hS hu hv hL) (fun z => kf z V p l e R s m args below meth c H locs Gl ws tys lsC hC hR hN hH hS hu hv hL)
theorem r_goto {off : Int} (tgt : Nat) (hd : decode (i_cc I) pc = .ok (.goto off, 3)) (ht : (pc : Int) + off = (tgt : Int)) (k : AW I tgt ls st h uc us Q) : AW I pc ls st h uc us Q := by
  intro V p l e R s m args below meth c H locs Gl ws tys lsC hC hR hN hH hS hu hv hL
  exact lv_goto hC.1 hC.2.1 hd ht (k V p l e R s m args below meth c H locs Gl ws tys lsC hC hR hN hH hS hu hv hL)
theorem r_swOut {dflt lo hi : Int} {offs : Array Int} {len : Nat} {x : Int32} (tgt : Nat) (hd : decode (i_cc I) pc = .ok (.tableswitch dflt lo hi offs, len)) (hx : x.toInt < lo ∨ hi < x.toInt) (ht : (pc : Int) + dflt = (tgt : Int)) (k : AW I tgt ls st h uc us Q) : AW I pc ls (.int x :: st) h uc us Q := by
  intro V p l e R s m args below meth c H locs Gl ws tys lsC hC hR hN hH hS hu hv hL
  exact lv_tableOut hC.1 hC.2.1 hd hx ht (k V p l e R s m args below meth c H locs Gl ws tys lsC hC hR hN hH hS hu hv hL)
theorem r_swIn {dflt lo hi : Int} {offs : Array Int} {len : Nat} {x : Int32} {off : Int} (tgt : Nat) (hd : decode (i_cc I) pc = .ok (.tableswitch dflt lo hi offs, len)) (h1 : ¬ x.toInt < lo) (h2 : ¬ hi < x.toInt) (ho : offs[(x.toInt - lo).toNat]? = some off) (ht : (pc : Int) + off = (tgt : Int)) (k : AW I tgt ls st h uc us Q) : AW I pc ls (.int x :: st) h uc us Q := by
  intro V p l e R s m args below meth c H locs Gl ws tys lsC hC hR hN hH hS hu hv hL
  exact lv_tableIn hC.1 hC.2.1 hd h1 h2 ho ht (k V p l e R s m args below meth c H locs Gl ws tys lsC hC hR hN hH hS hu hv hL)
end AR
