/-- a field's link: of the method's class, at this entry: field k of class ci -/
def a_FL (own : String) (ix ci k : Nat) : Prop :=
  ∃ r : vw_C, a_cls[ci]? = some r ∧ k < r.2.2 ∧ Cond.fieldLink own ix r.1 (r.2.1 k).2.1 (r.2.1 k).2.2.1 ∈ a_GT ∧ (∀ w ∈ u_ws r.1 r.2.1 r.2.2, w ∈ a_GT) ∧ (r.2.1 k).1 = r.1
/-- what a class's table has to say: the descriptors' types, the names apart -/
def a_tyf (ci : Nat) : Nat → FieldType := match ci with
  | 0 => tyX0
  | 1 => tyX1
  | 2 => tyX2
  | 3 => tyX3
  | 4 => tyX4
  | 5 => tyX5
  | 6 => tyX6
  | 7 => tyX7
  | 8 => tyX8
  | 9 => tyX9
  | _ => tyX10
theorem a_cls_ok : ∀ (ci : Nat) (r : vw_C), a_cls[ci]? = some r → (∀ k, k < r.2.2 → parseFieldDescriptor (r.2.1 k).2.2.1 = some (a_tyf ci k)) ∧ (∀ a, a < r.2.2 → ∀ b, b < r.2.2 → a ≠ b → (r.2.1 a).2.1 ≠ (r.2.1 b).2.1) := by
  intro ci r h
  match ci, h with
  | 0, h => cases h; exact ⟨tyX0_ok, nmX0⟩
  | 1, h => cases h; exact ⟨tyX1_ok, nmX1⟩
  | 2, h => cases h; exact ⟨tyX2_ok, nmX2⟩
  | 3, h => cases h; exact ⟨tyX3_ok, nmX3⟩
  | 4, h => cases h; exact ⟨tyX4_ok, nmX4⟩
  | 5, h => cases h; exact ⟨tyX5_ok, nmX5⟩
  | 6, h => cases h; exact ⟨tyX6_ok, nmX6⟩
  | 7, h => cases h; exact ⟨tyX7_ok, nmX7⟩
  | 8, h => cases h; exact ⟨tyX8_ok, nmX8⟩
  | 9, h => cases h; exact ⟨tyX9_ok, nmX9⟩
  | 10, h => cases h; exact ⟨tyX10_ok, nmX10⟩
  | n + 11, h => simp [a_cls] at h
theorem a_C.adAt {V : a_V} {h : List a_E} {ws : va_W} {tys : List (ClassId × FieldType)} (hC : a_C V h ws tys) {c : Nat} (hc : c < h.length) : ∃ e, ws[c]? = some (a_ad V c, e) := by
  have h1 := hC.2 c h[c] (List.getElem?_eq_getElem hc)
  revert h1
  cases h[c] with
  | inr o => exact fun h1 => ⟨_, h1⟩
  | inl a => exact fun h1 => by obtain ⟨cA, t0, e1, -⟩ := h1; exact ⟨_, e1⟩
theorem a_new {V : a_V} {h : List a_E} {ws : va_W} {tys : List (ClassId × FieldType)} {q : Nat} {e : va_E} (hC : a_C V h ws tys) (hl : h.length < 5000) (hD : va_D (a_A V) (ws ++ [(q, e)])) (hq : q < V.2.1 + h.length + 1) : q = a_ad V h.length := by
  have hlast : (ws ++ [(q, e)])[ws.length]? = some (q, e) := by rw [List.getElem?_append_right (Nat.le_refl _), Nat.sub_self]; rfl
  have h1 : V.2.1 ≤ q := hD.2 _ _ hlast
  have h2 : a_ad V h.length = V.2.1 + h.length := if_pos hl
  rw [h2]
  by_cases hlt : q < V.2.1 + h.length
  · obtain ⟨e2, he2⟩ := hC.adAt (c := q - V.2.1) (by omega)
    have h3 : a_ad V (q - V.2.1) = q := by
      rw [show a_ad V (q - V.2.1) = V.2.1 + (q - V.2.1) from if_pos (by omega)]
      omega
    rw [h3] at he2
    have hlw := (List.getElem?_eq_some_iff.mp he2).1
    have h4 := hD.1 (q - V.2.1) ws.length (q, e2) (q, e) (by rw [List.getElem?_append_left hlw]; exact he2) hlast rfl
    omega
  · omega
section AH
variable {I : a_I} {pc uc us : Nat} {ls st : List Value} {h : a_H} {Q : a_Q}
theorem r_get {ix c : Nat} (ci k : Nat) {vs : List Value} {v : Value} (hd : decode (i_cc I) pc = .ok (.getfield ix, 3)) (hf : a_FL (i_own I) ix ci k) (hh : h.2[c]? = some (.inr (ci, vs))) (hv : vs[k]? = some v) (kk : AW I (pc + 3) ls (v :: st) h uc us Q) : AW I pc ls (.ref c :: st) h uc us Q := by
  intro V p l e R s m args below meth c9 H locs Gl ws tys lsC hC hR hN hH hS hu hv2 hL
  obtain ⟨r, hr, hk, hw, hin, hre⟩ := hf
  refine va_get (C := r.1) (T := r.2.1) (N := r.2.2) (ref := r.1) hC.1 hC.2.1 hC.2.2.2.2.1 hin hC.2.2.2.1 hH.2.2.2 hH.2.1 _ (hH.1.objAt hh) hr k hk (hC.2.2.2.2.1 _ hw) (fun x hx => by rw [← hre]; exact hx) (v := a_cv V v) (by rw [List.getElem?_map, hv]; rfl) hd ?_
  exact kk V p l e R s m args below meth c9 H locs Gl ws tys lsC hC hR hN hH hS hu hv2 hL
/-- an int field -/
theorem r_put {ix c : Nat} (ci k : Nat) {vs : List Value} {x : Int32} (hd : decode (i_cc I) pc = .ok (.putfield ix, 3)) (hf : a_FL (i_own I) ix ci k) (hfin : ∀ r, a_cls[ci]? = some r → (r.2.1 k).2.2 = ("I", false)) (hh : h.2[c]? = some (.inr (ci, vs))) (hl : k < vs.length)
    (kk : AW I (pc + 3) ls st (h.1, h.2.set c (.inr (ci, vs.set k (.int x)))) uc us Q) : AW I pc ls (.int x :: .ref c :: st) h uc us Q := by
  intro V p l e R s m args below meth c9 H locs Gl ws tys lsC hC hR hN hH hS hu hv2 hL
  obtain ⟨r, hr, hk, hw, hin, hre⟩ := hf
  have hfr := hfin r hr
  have hok := a_cls_ok ci r hr
  refine va_put (C := r.1) (T := r.2.1) (N := r.2.2) (ref := r.1) hC.1 hC.2.1 hC.2.2.2.2.1 hin (a_tyf ci) hok.1 hok.2 hC.2.2.2.1 hH.2.2.2 hH.2.1 hH.2.2.1 hS c (hH.1.objAt hh) hr k hk (hC.2.2.2.2.1 _ hw) (fun y hy => by rw [← hre]; exact hy) (by rw [hfr]) (ty := .int) (v := .int x) (by rw [hfr]; decide +kernel) rfl rfl (by simpa using hl) hd (fun H1 locs1 hP hD hS1 => ?_)
  have e1 : (vs.map (a_cv V)).set k (.int x) = (vs.set k (.int x)).map (a_cv V) := by rw [List.map_set]; rfl
  rw [e1] at hP hD
  exact kk V p l e R s m args below meth c9 H1 locs1 Gl _ tys lsC hC hR (fun z => by rw [List.length_set]; exact hN z) ⟨hH.1.setO hh _, hP, hD, hH.2.2.2⟩ hS1 hu hv2 hL
/-- a final field that holds a reference, in the constructor -/
theorem r_putF {ix c b : Nat} (ci k : Nat) {vs : List Value} (hd : decode (i_cc I) pc = .ok (.putfield ix, 3)) (hf : a_FL (i_own I) ix ci k) (hini : i_ini I = true) (hfin : ∀ r, a_cls[ci]? = some r → (r.2.1 k).2.2.2 = true ∧ r.1 = i_own I) (hfit : ∀ a : Nat, narrow (a_tyf ci k) (.ref a) = .ref a ∧ fits (a_tyf ci k) (.ref a) = true) (hh : h.2[c]? = some (.inr (ci, vs))) (hl : k < vs.length)
    (kk : AW I (pc + 3) ls st (h.1, h.2.set c (.inr (ci, vs.set k (.ref b)))) uc us Q) : AW I pc ls (.ref b :: .ref c :: st) h uc us Q := by
  intro V p l e R s m args below meth c9 H locs Gl ws tys lsC hC hR hN hH hS hu hv2 hL
  obtain ⟨r, hr, hk, hw, hin, hre⟩ := hf
  obtain ⟨hfr, hro⟩ := hfin r hr
  have hok := a_cls_ok ci r hr
  refine va_putF (C := r.1) (T := r.2.1) (N := r.2.2) (ref := r.1) hC.1 hC.2.1 hC.2.2.2.2.1 hin (a_tyf ci) hok.1 hok.2 hC.2.2.2.1 hH.2.2.2 hH.2.1 hH.2.2.1 hS c (hH.1.objAt hh) hr k hk (hC.2.2.2.2.1 _ hw) (fun y hy => by rw [← hre]; exact hy) hfr (hC.2.2.2.2.2.2.2.2.2.1 hini) (by rw [hre]; exact hro) (v := a_cv V (.ref b)) (hok.1 k hk) (hfit _).1 (hfit _).2 (by simpa using hl) hd (fun H1 locs1 hP hD hS1 => ?_)
  rw [← List.map_set] at hP hD
  exact kk V p l e R s m args below meth c9 H1 locs1 Gl _ tys lsC hC hR (fun z => by rw [List.length_set]; exact hN z) ⟨hH.1.setO hh _, hP, hD, hH.2.2.2⟩ hS1 hu hv2 hL
theorem r_new {ix : Nat} (ci : Nat) {hl : List a_E} (fs : List Value) {r : vw_C} (hd : decode (i_cc I) pc = .ok (.new ix, 3)) (hr : a_cls[ci]? = some r) (hw1 : Cond.classLink (i_own I) ix r.1 ∈ a_GT) (hw2 : Cond.instantiable r.1 r.2.2 ∈ a_GT) (hw3 : Cond.initialized r.1 ∈ a_GT) (hin : ∀ w ∈ u_ws r.1 r.2.1 r.2.2, w ∈ a_GT)
    (hfs : ∀ j, j < r.2.2 → defaultValue (a_tyf ci j) = vp_V fs j) (hfc : ∀ V : a_V, fs.map (a_cv V) = fs) (hln : hl.length < 4999) (hu1 : uc + 1 ≤ i_mc I) (hv1 : us + r.2.2 ≤ i_ms I)
    (kk : AW I (pc + 3) ls (.ref hl.length :: st) (true, hl ++ [.inr (ci, fs)]) (uc + 1) (us + r.2.2) Q) : AW I pc ls st (true, hl) uc us Q := by
  intro V p l e R s m args below meth c9 H locs Gl ws tys lsC hC hR hN hH hS hu hv2 hL
  have hok := a_cls_ok ci r hr
  have hroom := hC.2.2.2.2.2.2.2.1
  have hB := hC.2.2.2.2.2.2.2.2.2.2.2.1
  have hN1 := (hN rfl).1
  refine va_new (C := r.1) (T := r.2.1) (N := r.2.2) hC.1 hC.2.1 hC.2.2.2.2.1 hin (a_tyf ci) hok.1 hC.2.2.2.1 (hC.2.2.2.2.1 _ hw1) (hC.2.2.2.2.1 _ hw2) (hC.2.2.2.2.1 _ hw3) hH.2.2.2 hH.2.1 hH.2.2.1 hS (fun q hq => by unfold a_A; omega) hr hfs (by rw [hroom.2.2.1]; exact hu1) (by rw [hroom.2.2.2]; exact hv1) hd (fun q H1 hP hD hS1 => ?_)
  intro T hT X
  have hz := X.heapSize
  have hq : q < H1.size := (hP ws.length (q, .inr (ci, fs)) (by rw [List.getElem?_append_right (Nat.le_refl _), Nat.sub_self]; rfl)).lt
  have hqa : q = a_ad V hl.length := a_new (h := hl) hH.1 (by omega) hD (by rw [hT] at hz; dsimp only at hN1; omega)
  subst hqa
  have hC2 := hH.1.pushO ci fs
  rw [hfc V] at hC2
  exact kk V p l e R s m args below meth c9 H1 locs Gl _ tys lsC hC hR (fun z => by dsimp only at hN1 ⊢; rw [List.length_append]; show _ = _ + (_ + 1) ∧ _ + 1 ≤ 5000; omega) ⟨hC2, hP, hD, hH.2.2.2⟩ hS1 hu1 hv1 hL T hT X
end AH
