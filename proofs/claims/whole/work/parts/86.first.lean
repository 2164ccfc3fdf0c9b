/-! WHAT THE STATEMENT GIVES OF THE START -/
abbrev zz_F : List Cond := flatC (Cond.and given_1 narrow_1)
def zz_k : List Nat := [56, 66, 71, 76, 81, 83]
def zz_m : List Nat := [131, 140, 145, 150, 155, 157]
abbrev zz_t (i : Nat) : Term := Term.string RX7 (zz_k.getD i 0)
abbrev zz_u (i : Nat) : Term := Term.string RX10 (zz_m.getD i 0)
abbrev zz_s (k : Nat) : Term := Term.static RX9 (a_sn k) "[I"
abbrev zz_v (t : Term) : Term := Term.field t "java/lang/String" "value" "[B"
theorem zf_ex : ∀ i, i < 6 → Cond.exactly (zz_t i) "java/lang/String" ∈ zz_F := by decide +kernel
theorem zf_co : ∀ i, i < 6 → Cond.eq (.field (zz_t i) "java/lang/String" "coder" "B") (.int 0) ∈ zz_F := by decide +kernel
theorem zf_ar : ∀ i, i < 6 → Cond.arrayOf (zz_v (zz_t i)) .byte ∈ zz_F := by decide +kernel
theorem zf_le : ∀ i, i < 6 → Cond.eq (.length (zz_v (zz_t i))) (.int (Int32.ofNat (a_kw.getD i []).length)) ∈ zz_F := by decide +kernel
theorem zf_el : ∀ i, i < 6 → ∀ j, j < (a_kw.getD i []).length → Cond.eq (.elem (zz_v (zz_t i)) (.int (Int32.ofNat j))) (.int ((a_kw.getD i []).getD j 0)) ∈ zz_F := by decide +kernel
theorem zf_eq : ∀ i, i < 6 → Cond.eq (zz_t i) (zz_u i) ∈ zz_F := by decide +kernel
theorem zf_sa : ∀ k, k < 3 → Cond.arrayOf (zz_s k) .int ∈ zz_F := by decide +kernel
theorem zf_sl : ∀ k, k < 3 → Cond.eq (.length (zz_s k)) (.int (Int32.ofNat 3)) ∈ zz_F := by decide +kernel
theorem zf_se : ∀ k, k < 3 → ∀ j, j < 3 → Cond.eq (.elem (zz_s k) (.int (Int32.ofNat j))) (.int ((a_sv k).getD j 0)) ∈ zz_F := by decide +kernel
theorem zf_no : ∀ x ∈ a_ex, ∀ y ∈ a_ex, x ≠ y → Cond.not (.castable x y) ∈ zz_F := by decide +kernel
theorem zf_cs : Cond.eq (.static "java/lang/String" "COMPACT_STRINGS" "Z") (.int 1) ∈ zz_F := by decide +kernel
theorem zf_un : Cond.isRef (.static Bundle.tN "UNASSIGNED_STACK" Bundle.steD) ∈ zz_F := by decide +kernel
theorem zf_su : Cond.isRef (.static Bundle.tN "SUPPRESSED_SENTINEL" Bundle.listD) ∈ zz_F := by decide +kernel
theorem zf_si : Cond.isRef (.static "jdk/internal/util/Preconditions" "SIOOBE_FORMATTER" "Ljava/util/function/BiFunction;") ∈ zz_F := by decide +kernel
def zz_e : Cond → Cond
  | .stringRef own k _ => .exactly (.string own k) "java/lang/String"
  | _ => .count 1
theorem zf_st : ∀ w ∈ tables_1, zz_e w ∈ zz_F := by decide +kernel
theorem zf_la : ∀ k, k < 3 → Cond.laysStatic RX9 (a_sn k) "[I" ∈ tables_1 := by decide +kernel
theorem zf_l1 : Cond.laysStatic Bundle.tN "UNASSIGNED_STACK" Bundle.steD ∈ tables_1 := by decide +kernel
theorem zf_l2 : Cond.laysStatic Bundle.tN "SUPPRESSED_SENTINEL" Bundle.listD ∈ tables_1 := by decide +kernel
theorem zf_l3 : Cond.laysStatic "java/lang/String" "COMPACT_STRINGS" "Z" ∈ tables_1 := by decide +kernel
theorem zf_l4 : Cond.laysStatic "jdk/internal/util/Preconditions" "SIOOBE_FORMATTER" "Ljava/util/function/BiFunction;" ∈ tables_1 := by decide +kernel
theorem zf_kc : ∀ q ∈ a_kc, Cond.stringRef q.1 q.2.1 (a_kt.getD q.2.2 "") ∈ tables_1 := by decide +kernel
theorem zf_kd : ∀ q ∈ a_kc, q.2.2 < 6 ∧ ((q.1 = RX7 ∧ q.2.1 = zz_k.getD q.2.2 0) ∨ (q.1 = RX10 ∧ q.2.1 = zz_m.getD q.2.2 0)) := by decide +kernel
section FIRST
variable {s : State} {args : Array Value} {b L : Nat} {xs : Nat → Int32}
theorem zz_eq {t u : Term} {a : Nat} (h : (Cond.eq t u).before args s = true) (ht : t.eval args s none [] s = some (.ref a)) : u.eval args s none [] s = some (.ref a) := by
  cases hv : u.eval args s none [] s with
  | none => simp [Cond.before, Cond.holds, Cond.value, ht, hv] at h
  | some w =>
    simp only [Cond.before, Cond.holds, Cond.value, ht, hv] at h
    cases w <;> simp_all
theorem zz_nw {w : Cond} (hw : a_nw w = true) (h : w.before args s = true) : va_Nw w s := by
  cases w with
  | castable C T => exact h
  | declares x => exact h
  | fieldLinkNest a i b n d h' => exact h
  | methodLinkNest a i x h' => exact h
  | arrayOver ty =>
    cases ty with
    | object C => exact h
    | _ => simp [a_nw] at hw
  | _ => simp [a_nw] at hw
theorem ad_z {V : a_V} {j : Nat} : a_ad V (5000 + j) = V.2.2.1 j := by
  unfold a_ad
  rw [if_neg (by omega), Nat.add_sub_cancel_left]
theorem zz_known (hG : ∀ w ∈ a_GT, w.before args s = true) : ∃ (dC : Nat → ClassId) (dI : Nat → Nat → Nat), ∀ (k : Nat) (q : vw_C), a_cls[k]? = some q → u_Kn s q.1 q.2.1 q.2.2 (dC k) (dI k) := by
  have h11 : ∀ (k : Nat) (q : vw_C), a_cls[k]? = some q → ∃ (cC : ClassId) (iS : Nat → Nat), u_Kn s q.1 q.2.1 q.2.2 cC iS := by
    intro k q hq
    match k, hq with
    | 0, hq => cases hq; exact u_known hG uws_0 (hG _ k_283)
    | 1, hq => cases hq; exact u_known hG uws_1 (hG _ k_131)
    | 2, hq => cases hq; exact u_known hG uws_2 (hG _ k_78)
    | 3, hq => cases hq; exact u_known hG uws_3 (hG _ k_111)
    | 4, hq => cases hq; exact u_known hG uws_4 (hG _ k_335)
    | 5, hq => cases hq; exact u_known hG uws_5 (hG _ k_34)
    | 6, hq => cases hq; exact u_known hG uws_6 (hG _ k_182)
    | 7, hq => cases hq; exact u_known hG uws_7 (hG _ k_303)
    | 8, hq => cases hq; exact u_known hG uws_8 (hG _ k_40)
    | 9, hq => cases hq; exact u_known hG uws_9 (hG _ k_26)
    | 10, hq => cases hq; exact u_known hG uws_10 (hG _ k_1178)
    | k + 11, hq => simp [a_cls] at hq
  obtain ⟨c0, i0, -⟩ := h11 0 _ rfl
  have h0 : ∀ k : Nat, ∃ p : ClassId × (Nat → Nat), ∀ q : vw_C, a_cls[k]? = some q → u_Kn s q.1 q.2.1 q.2.2 p.1 p.2 := by
    intro k
    cases hk : a_cls[k]? with
    | none => exact ⟨(c0, i0), fun q hq => by cases hq⟩
    | some r =>
      obtain ⟨cC, iS, h⟩ := h11 k r hk
      exact ⟨(cC, iS), fun q hq => by cases hq; exact h⟩
  obtain ⟨f, hf⟩ := Classical.axiomOfChoice h0
  exact ⟨fun k => (f k).1, fun k => (f k).2, hf⟩
theorem zz_first (hts : ∀ w ∈ tables_1, w.before args s = true) (hG : ∀ w ∈ a_GT, w.before args s = true) (hX : va_X b L xs s s.heap) (hbl : b < s.heap.size) (hgv : (Cond.and given_1 narrow_1).before args s = true) (dC : Nat → ClassId) (dI : Nat → Nat → Nat) :
    ∃ z : Nat → Nat, z 0 = b ∧ a_X ((dC, dI), s.heap.size, z, L, xs) s s.heap := by
  have hs := flat_of_before _ hgv
  have hA : ∀ a : Nat, a < s.heap.size → ¬ (fun q : Nat => s.heap.size ≤ q) a := fun a h => Nat.not_le.mpr h
  have h1 : ∀ k : Nat, ∃ t : Nat, k < 3 → (zz_s k).eval args s none [] s = some (.ref t) ∧ va_T .int t 3 (fun j => .int ((a_sv k).getD j 0)) (fun q : Nat => s.heap.size ≤ q) s s.heap := by
    intro k
    by_cases hk : k < 3
    · obtain ⟨t, ht, hT⟩ := va_Tof (f := fun j => .int ((a_sv k).getD j 0)) (N := 3) (by decide) (hs _ (zf_sa k hk)) (va_eqt (hs _ (zf_sl k hk))) (fun j hj => va_eqt (hs _ (zf_se k hk j hj))) hA
      exact ⟨t, fun _ => ⟨ht, hT⟩⟩
    · exact ⟨0, fun h => absurd h hk⟩
  obtain ⟨tt, htt⟩ := Classical.axiomOfChoice h1
  have h2 : ∀ i : Nat, ∃ q : Nat × Nat, i < 6 → (zz_t i).eval args s none [] s = some (.ref q.1) ∧ va_O "java/lang/String" q.1 (fun q : Nat => s.heap.size ≤ q) s s.heap ∧ va_OF "java/lang/String" "coder" "B" (.int 0) q.1 (fun q : Nat => s.heap.size ≤ q) s s.heap ∧ va_OF "java/lang/String" "value" "[B" (.ref q.2) q.1 (fun q : Nat => s.heap.size ≤ q) s s.heap ∧ va_T .byte q.2 (a_kw.getD i []).length (fun j => .int ((a_kw.getD i []).getD j 0)) (fun q : Nat => s.heap.size ≤ q) s s.heap := by
    intro i
    by_cases hi : i < 6
    · obtain ⟨a, c, cA, kA, q1, q2, q3, q4, q5, q6, -⟩ := Cond.exactly_spec (args := args) (first := s) (o := none) (s := s) (idx := []) (t := zz_t i) (cls := "java/lang/String") (hs _ (zf_ex i hi))
      have hN : (a_kw.getD i []).length < 2 ^ 31 := by
        rcases (show i = 0 ∨ i = 1 ∨ i = 2 ∨ i = 3 ∨ i = 4 ∨ i = 5 by omega) with rfl | rfl | rfl | rfl | rfl | rfl <;> decide
      obtain ⟨t, ht, hT⟩ := va_Tof (f := fun j => .int ((a_kw.getD i []).getD j 0)) hN (hs _ (zf_ar i hi)) (va_eqt (hs _ (zf_le i hi))) (fun j hj => va_eqt (hs _ (zf_el i hi j hj))) hA
      exact ⟨(a, t), fun _ => ⟨q1, ⟨cA, q3, q5, by rw [q6]; exact q2, hA a (Array.getElem?_eq_some_iff.mp q3).1⟩, vk_OFof q1 (va_eqt (hs _ (zf_co i hi))) hA, vk_OFof q1 ht hA, hT⟩⟩
    · exact ⟨(0, 0), fun h => absurd h hi⟩
  obtain ⟨ad, had⟩ := Classical.axiomOfChoice h2
  obtain ⟨sx, hsx⟩ : ∃ sx : Nat, va_Z "jdk/internal/util/Preconditions" "SIOOBE_FORMATTER" "Ljava/util/function/BiFunction;" .null (fun q : Nat => s.heap.size ≤ q) s s.heap ∨ va_Z "jdk/internal/util/Preconditions" "SIOOBE_FORMATTER" "Ljava/util/function/BiFunction;" (.ref sx) (fun q : Nat => s.heap.size ≤ q) s s.heap := by
    rcases va_Zqof (hts _ zf_l4) (hG _ k_21) (hs _ zf_si) hA with h | ⟨t, h⟩
    · exact ⟨0, Or.inl h⟩
    · exact ⟨t, Or.inr h⟩
  obtain ⟨z, hz0, hz1, hz2, hz3, hz4⟩ : ∃ z : Nat → Nat, z 0 = b ∧ (∀ k, k < 3 → z (1 + k) = tt k) ∧ (∀ i, i < 6 → z (10 + i) = (ad i).1) ∧ (∀ i, i < 6 → z (20 + i) = (ad i).2) ∧ z 30 = sx := by
    refine ⟨fun j => if j = 0 then b else if j < 4 then tt (j - 1) else if j < 16 then (ad (j - 10)).1 else if j < 26 then (ad (j - 20)).2 else sx, rfl, fun k hk => ?_, fun i hi => ?_, fun i hi => ?_, rfl⟩
    · show (if 1 + k = 0 then b else if 1 + k < 4 then tt (1 + k - 1) else if 1 + k < 16 then (ad (1 + k - 10)).1 else if 1 + k < 26 then (ad (1 + k - 20)).2 else sx) = _
      rw [if_neg (by omega), if_pos (by omega), Nat.add_sub_cancel_left]
    · show (if 10 + i = 0 then b else if 10 + i < 4 then tt (10 + i - 1) else if 10 + i < 16 then (ad (10 + i - 10)).1 else if 10 + i < 26 then (ad (10 + i - 20)).2 else sx) = _
      rw [if_neg (by omega), if_neg (by omega), if_pos (by omega), Nat.add_sub_cancel_left]
    · show (if 20 + i = 0 then b else if 20 + i < 4 then tt (20 + i - 1) else if 20 + i < 16 then (ad (20 + i - 10)).1 else if 20 + i < 26 then (ad (20 + i - 20)).2 else sx) = _
      rw [if_neg (by omega), if_neg (by omega), if_neg (by omega), if_pos (by omega), Nat.add_sub_cancel_left]
  refine ⟨z, hz0, ⟨?_, ?_⟩, fun k hk => ?_, fun i hi => ?_, fun q hq => ?_, fun own k tx hw => ?_, vx_Zqof (hts _ zf_l1) (hG _ k_13) (hs _ zf_un) hA, vx_Zqof (hts _ zf_l2) (hG _ k_13) (hs _ zf_su) hA, ⟨va_Zof (hts _ zf_l3) (hG _ k_19) (va_eqi (hs _ zf_cs)) hA, ?_⟩, fun x hx y hy hn => va_Nc.of (hs _ (zf_no x hx y hy hn)), fun w hw => zz_nw (a_GN_nw w hw) (hts w (List.mem_filter.mp hw).1)⟩
  · have e : a_ad ((dC, dI), s.heap.size, z, L, xs) 5000 = b := (ad_z (V := ((dC, dI), s.heap.size, z, L, xs)) (j := 0)).trans hz0
    rw [e]
    exact hX
  · have e : a_ad ((dC, dI), s.heap.size, z, L, xs) 5000 = b := (ad_z (V := ((dC, dI), s.heap.size, z, L, xs)) (j := 0)).trans hz0
    rw [e]
    exact hbl
  · have e : a_ad ((dC, dI), s.heap.size, z, L, xs) (5001 + k) = tt k := by
      rw [show 5001 + k = 5000 + (1 + k) by omega, ad_z]
      exact hz1 k hk
    rw [e]
    exact ⟨va_Zref (hts _ (zf_la k hk)) (hG _ k_1) (htt k hk).1 hA, (htt k hk).2⟩
  · have e : a_ad ((dC, dI), s.heap.size, z, L, xs) (5010 + i) = (ad i).1 := by
      rw [show 5010 + i = 5000 + (10 + i) by omega, ad_z]
      exact hz2 i hi
    have e2 : a_ad ((dC, dI), s.heap.size, z, L, xs) (5020 + i) = (ad i).2 := by
      rw [show 5020 + i = 5000 + (20 + i) by omega, ad_z]
      exact hz3 i hi
    rw [e, e2]
    exact (had i hi).2
  · obtain ⟨hi, hc⟩ := zf_kd q hq
    have e : a_ad ((dC, dI), s.heap.size, z, L, xs) (5010 + q.2.2) = (ad q.2.2).1 := by
      rw [show 5010 + q.2.2 = 5000 + (10 + q.2.2) by omega, ad_z]
      exact hz2 _ hi
    rw [e]
    refine vk_R.of (hts _ (zf_kc q hq)) ?_
    rcases hc with ⟨c1, c2⟩ | ⟨c1, c2⟩
    · rw [c1, c2]; exact (had _ hi).1
    · rw [c1, c2]; exact zz_eq (hs _ (zf_eq _ hi)) (had _ hi).1
  · obtain ⟨a, c, cA, kA, q1, -⟩ := Cond.exactly_spec (args := args) (first := s) (o := none) (s := s) (idx := []) (t := Term.string own k) (cls := "java/lang/String") (hs _ (zf_st _ hw))
    exact ⟨a, vk_R.of (hts _ hw) q1⟩
  · have e : a_ad ((dC, dI), s.heap.size, z, L, xs) 5030 = sx := (ad_z (V := ((dC, dI), s.heap.size, z, L, xs)) (j := 30)).trans hz4
    unfold a_XP
    rw [e]
    exact hsx
end FIRST
