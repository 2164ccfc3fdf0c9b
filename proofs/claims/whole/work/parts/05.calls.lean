section AC
theorem a_cat (V : a_V) (st : List Value) : ((st.map (a_cv V)).map fun v => v.category).sum = (st.map fun v => v.category).sum := by
  rw [List.map_map]; congr 1; exact List.map_congr_left (fun v _ => a_cv_cat V v)
theorem a_L.stN {V : a_V} {lsC : Array Slot} {nL i : Nat} {ls : List Value} {v : Value} (hk : ∀ j w, ls[j]? = some w → j + 1 = i → w.category = 1)
    (h : lv_has lsC nL ((i, v) :: (a_ll V ls).filter (fun q => !(q.1 == i) && !(q.1 + 1 == i && q.2.category == 2)))) : a_L V lsC nL (ls.set i .null) := by
  refine ⟨h.1, h.2.1, fun j w hj hw => ?_⟩
  by_cases hji : j = i
  · subst hji
    have hl : j < ls.length := by have := (List.getElem?_eq_some_iff.mp hj).1; simpa using this
    rw [List.getElem?_set_self hl] at hj
    cases hj
    exact absurd rfl hw
  · rw [List.getElem?_set_ne (Ne.symm hji)] at hj
    refine h.2.2 (j, a_cv V w) (List.mem_cons_of_mem _ (List.mem_filter.mpr ⟨a_ll_mem.mpr ⟨w, hj, hw, rfl⟩, ?_⟩))
    by_cases h2 : j + 1 = i
    · have := hk j w hj h2
      simp [hji, a_cv_cat, this]
    · simp [hji, h2]
/-- a handler that takes E at pc and lays it away -/
def a_hd (I : a_I) (pc : Nat) (E : String) (tgt k nx : Nat) : Prop :=
  E ∈ a_ex ∧ (∃ (pre : List ExceptionTableEntry) (x : ExceptionTableEntry) (suf : List ExceptionTableEntry), tableOf (i_hh I) = pre ++ x :: suf ∧ x.handlerPc = tgt ∧ covers x pc = true ∧ x.catchType ≠ 0 ∧ Cond.classLink (i_own I) x.catchType E ∈ a_GT ∧ Cond.castable E E ∈ a_GN ∧
    ∀ z ∈ pre, z.catchType ≠ 0 ∧ ∃ nm ∈ a_ex, E ≠ nm ∧ Cond.classLink (i_own I) z.catchType nm ∈ a_GT) ∧
  ((∃ f : Fin 4, decode (i_cc I) tgt = .ok (.astore_n f, 1) ∧ (f : Nat) = k ∧ nx = tgt + 1) ∨ (decode (i_cc I) tgt = .ok (.astore k, 2) ∧ nx = tgt + 2)) ∧ k < i_nL I
theorem a_Pre.of {V : a_V} {h : a_H} {s U : State} {H : Heap} {locs : List Loc} {ws : va_W} {tys : List (ClassId × FieldType)} (hX : a_X V s s.heap) (hB : V.2.1 ≤ s.heap.size) (hH : a_HP V h.2 H s ws tys) (hS : va_S (a_A V) s.heap H locs) (hcl : a_cl V h H.size) (hU : U.heap = H) (hW : s.WarmedH U.vm) : a_Pre V h U := by
  refine ⟨⟨ws, tys, ?_⟩, ?_, ?_, ?_⟩
  · rw [hU]; exact hH.moved hW.alike
  · rw [hU]; exact (a_X.moved hW hX).kept hB hS.2.1
  · rw [hU]; exact hcl
  · rw [hU]; exact Nat.le_trans hB hS.1
theorem a_clH {V : a_V} {h : a_H} {H : Heap} {s : State} {ws : va_W} {tys : List (ClassId × FieldType)} {n : Nat} (hH : a_HP V h.2 H s ws tys) (hN : a_cl V h n) (hz : H.size ≤ n) (hB : V.2.1 ≤ H.size) : a_cl V h H.size := by
  intro z
  obtain ⟨h1, h2⟩ := hN z
  refine ⟨?_, h2⟩
  by_cases h0 : h.2.length = 0
  · omega
  · obtain ⟨e, he⟩ := hH.1.adAt (c := h.2.length - 1) (by omega)
    have hlt := (hH.2.1 _ _ he).lt
    have ha : a_ad V (h.2.length - 1) = V.2.1 + (h.2.length - 1) := if_pos (by omega)
    rw [ha] at hlt
    omega
/-- behind a call -/
theorem a_after {V : a_V} {I : a_I} {p : Program} {l : Launch} {e : Env} {R : Room} {s : State} {m : MethodId} {args : Array Value} {below : List Frame} {meth : Method} {c9 : Code} {H : Heap} {locs : List Loc} {Gl : State → Prop} {ws : va_W} {tys : List (ClassId × FieldType)} {lsC : Array Slot} {pc uc us mc ms : Nat} {ls st : List Value} {h : a_H} {Q Q' : a_Q} {st0 : List Value} {a : Array Value}
    (hC : a_CT V I p l R s m args meth c9) (hR : a_RT V I p l e R s m args below meth c9 Gl Q) (hN : a_cl V h (s.heap.size + uc)) (hH : a_HP V h.2 H s ws tys) (hS : va_S (a_A V) s.heap H locs) (hL : a_L V lsC (i_nL I) ls) (hu1 : uc + mc ≤ i_mc I) (hv1 : us + ms ≤ i_ms I)
    (hrun : a_cl V h H.size → vx_Run p l e R s m args below meth c9 H locs uc us mc ms (F0 m pc lsC st0) (st.map (a_cv V)) (a_Qc V Q' a) (a_XC V Q') (a_A V))
    (k : ∀ v h', Q' (.inl v) h' → (h'.1 = true → h.1 = true ∧ h'.2.length = h.2.length + mc ∧ h'.2.length ≤ 5000) ∧ AW I (pc + 3) ls (v.toList ++ st) h' (uc + mc) (us + ms) Q)
    (kx : ∀ E h', Q' (.inr E) h' → (i_hh I = [] ∧ Q (.inr E) h') ∨ (∃ tgt k nx, a_hd I pc E tgt k nx ∧ h'.1 = false ∧ (∀ j w, ls[j]? = some w → j + 1 = k → w.category = 1) ∧ AW I nx (ls.set k .null) [] h' (uc + mc) (us + ms) Q)) :
    W p l e R s m args below meth c9 H locs uc us Gl (F0 m pc lsC st0) := by
  intro T hT X
  have hz := X.heapSize
  rw [hT] at hz
  have hB := hC.2.2.2.2.2.2.2.2.2.2.2.1
  have hB2 : V.2.1 ≤ H.size := Nat.le_trans hB hS.1
  rcases hrun (a_clH hH hN hz hB2) T hT X with ⟨v, st1, t, T', L, h0, X', hLx, e1, e2, hq, hgo⟩ | ⟨q, st1, t, T', L, E, ce, h0, X', hLx, e1, e2, hx, hce, hcv, hcl, hgo⟩
  · obtain ⟨⟨v0, h', hv, hQ, ws', tys', hP'⟩, hF⟩ := hq
    obtain ⟨g1, g2, g3⟩ := vx_keep h0 e1 hS (fun q _ z => z) (fun q z => z) hLx hF
    cases hv
    have hal : t.vm.Alike s.vm := by rw [← e2]; exact X'.warmed.alike.symm
    obtain ⟨k1, k2⟩ := k v0 h' hQ
    have hw := k2 V p l e R s m args below meth c9 T'.heap (locs ++ L) Gl ws' tys' lsC hC hR (fun z => by
        obtain ⟨z1, z2, z3⟩ := k1 z
        have := (hN z1).1
        exact ⟨by omega, z3⟩) (by rw [e1]; exact hP'.moved hal) g3 hu1 hv1 hL
    obtain ⟨t2, a1, b1⟩ := hw T' rfl X'
    refine ⟨t2, hgo t2 ?_, b1⟩
    cases v0 <;> exact a1
  · obtain ⟨⟨h', hQ, ws', tys', hP'⟩, hF⟩ := hx
    obtain ⟨g1, g2, g3⟩ := vx_keep h0 e1 hS (fun q _ z => z) (fun q z => z) hLx hF
    have hal : t.vm.Alike s.vm := by rw [← e2]; exact X'.warmed.alike.symm
    have hPs : a_HP V h'.2 T'.heap s ws' tys' := by rw [e1]; exact hP'.moved hal
    rcases kx E h' hQ with ⟨hh, hq2⟩ | ⟨tgt, kk, nx, ⟨hE, ⟨pre, x, suf, hs1, hs2, hs3, hs4, hs5, hs6, hs7⟩, hd, hkn⟩, hcln, hcat, hw⟩
    · obtain ⟨t2, a1, b1⟩ := vx_widen hu1 hv1 (hR.2.1 hh T'.heap (locs ++ L) h' ws' tys' pc lsC (st.map (a_cv V)) E ce q hPs g3 hq2 (by rw [e1]; exact hce) hcv hcl) T' rfl X'
      exact ⟨t2, hgo.trans a1, b1⟩
    · have hex := hC.2.2.2.2.2.2.2.2.2.2.1.2.2.2.2.2.2.2.2.1
      have hca : vx_W p l e R s m args below meth c9 T'.heap (locs ++ L) (uc + mc) (us + ms) Gl (F0 m pc lsC (st.map (a_cv V))) q := by
        refine vx_catch hC.2.2.2.1 pre x suf (by rw [hC.2.2.2.2.2.2.2.2.1]; exact hs1) (fun z hz => ?_) hs3 hs4 (hC.2.2.2.2.1 _ hs5) (va_Nw.use rfl (hC.2.2.2.2.2.2.2.2.2.2.1.2.2.2.2.2.2.2.2.2 _ hs6)) (by rw [e1]; exact hce) hcv hcl ?_
        · obtain ⟨z1, nm, hnm, z2, z3⟩ := hs7 z hz
          exact Or.inr ⟨z1, nm, hC.2.2.2.2.1 _ z3, hex E hE nm hnm z2⟩
        · rw [hs2]
          rcases hd with ⟨f, hd, hfk, rfl⟩ | ⟨hd, rfl⟩
          · subst hfk
            refine lv_astore_n hC.1 hC.2.1 hd rfl hL.has hkn rfl (fun ls2 h2 => ?_)
            exact hw V p l e R s m args below meth c9 T'.heap (locs ++ L) Gl ws' tys' ls2 hC hR (fun z => by rw [hcln] at z; cases z) hPs g3 hu1 hv1 (a_L.stN hcat h2)
          · refine lv_astore hC.1 hC.2.1 hd hL.has hkn rfl (fun ls2 h2 => ?_)
            exact hw V p l e R s m args below meth c9 T'.heap (locs ++ L) Gl ws' tys' ls2 hC hR (fun z => by rw [hcln] at z; cases z) hPs g3 hu1 hv1 (a_L.stN hcat h2)
      obtain ⟨t2, a1, b1⟩ := hca T' rfl X'
      exact ⟨t2, hgo.trans a1, b1⟩
theorem a_good {l : List Cond} (h : ∀ w ∈ l, w ∈ a_GT) : GoodIn a_GT l := fun w hw => ⟨h w hw, good_of_word (a_GT_good w (h w hw))⟩
end AC
