/-! STRINGS that lie outside: length and charAt of the six keywords -/
def kc (k i : Nat) : Int32 := (a_kw.getD k []).getD i 0
def kl (k : Nat) : Nat := (a_kw.getD k []).length
theorem kc_ok : ∀ k : Fin 6, ∀ i : Fin (kl k.val), ((kc k.val i.val &&& 255).toUInt32 % 65536).toInt32 = kc k.val i.val ∧ narrow .char (.int (kc k.val i.val)) = .int (kc k.val i.val) ∧ 97 ≤ kc k.val i.val ∧ kc k.val i.val ≤ 122 := by decide
theorem kl_ok : ∀ k : Fin 6, nI (kl k.val) >>> ((0 : Int32) &&& 31) = nI (kl k.val) ∧ kl k.val < 8 ∧ 0 < kl k.val := by decide
abbrev I_J0_length : a_I := (RJ0, cJ0_length_8abf5, 1, [], false, some .int, 2, 0, 0, none)
abbrev I_J0_coder : a_I := (RJ0, cJ0_coder_7d493, 1, [], false, some .byte, 1, 0, 0, none)
abbrev I_J0_charAt : a_I := (RJ0, cJ0_charAt_5068e, 2, [], false, some .char, 4, 0, 0, none)
abbrev I_J0_isLatin1 : a_I := (RJ0, cJ0_isLatin1_aae02, 1, [], false, some .boolean, 1, 0, 0, none)
abbrev I_J0_checkIndex : a_I := (RJ0, cJ0_checkIndex_df160, 2, [], false, none, 2, 0, 0, none)
abbrev I_J1_charAt : a_I := (RJ1, cJ1_charAt_3b067, 2, [], false, some .char, 3, 0, 0, none)
abbrev I_J3_checkIndex : a_I := (RJ3, cJ3_checkIndex_8e157, 3, [], false, some .int, 1, 0, 0, none)
theorem cx_X7_155 : a_CV RX7 155 yJ0_length_8abf5 I_J0_length 0 := ⟨rfl, ⟨by decide, by decide, by decide +kernel⟩, k_580, k_581, k_582, k_19, a_cd0 rfl k_583⟩
theorem cx_X10_84 : a_CV RX10 84 yJ0_length_8abf5 I_J0_length 0 := ⟨rfl, ⟨by decide, by decide, by decide +kernel⟩, k_1297, k_581, k_582, k_19, a_cd0 rfl k_583⟩
theorem cx_J0_335 : a_CV RJ0 335 yJ0_coder_7d493 I_J0_coder 0 := ⟨rfl, ⟨by decide, by decide, by decide +kernel⟩, k_584, k_585, k_586, k_19, a_cd0 rfl k_587⟩
theorem cx_X7_160 : a_CV RX7 160 yJ0_charAt_5068e I_J0_charAt 1 := ⟨rfl, ⟨by decide, by decide, by decide +kernel⟩, k_590, k_591, k_592, k_19, a_cd0 rfl k_593⟩
theorem cx_X10_90 : a_CV RX10 90 yJ0_charAt_5068e I_J0_charAt 1 := ⟨rfl, ⟨by decide, by decide, by decide +kernel⟩, k_1298, k_591, k_592, k_19, a_cd0 rfl k_593⟩
theorem cx_J0_492 : a_CV RJ0 492 yJ0_isLatin1_aae02 I_J0_isLatin1 0 := ⟨rfl, ⟨by decide, by decide, by decide +kernel⟩, k_594, k_595, k_596, k_19, a_cd0 rfl k_597⟩
theorem cx_J0_495 : a_CS RJ0 495 yJ1_charAt_3b067 I_J1_charAt 2 := ⟨⟨by decide, by decide, by decide +kernel⟩, Or.inl k_598, k_599, k_20, a_cd0 rfl k_600⟩
theorem cx_J1_9 : a_CS RJ1 9 yJ0_checkIndex_df160 I_J0_checkIndex 2 := ⟨⟨by decide, by decide, by decide +kernel⟩, Or.inl k_601, k_602, k_19, a_cd0 rfl k_603⟩
theorem cx_J0_1059 : a_CS RJ0 1059 yJ3_checkIndex_8e157 I_J3_checkIndex 3 := ⟨⟨by decide, by decide, by decide +kernel⟩, Or.inl k_606, k_607, k_21, a_cd0 rfl k_608⟩
section STR
variable {I : a_I} {pc uc us : Nat} {ls st : List Value} {h : a_H} {Q : a_Q} {M : Nat → Nat → Int32} {L : Nat → Nat → Int64} {dd : UInt64}
theorem r_i2c {x v : Int32} (hd : decode (i_cc I) pc = .ok (.i2c, 1)) (hv : (x.toUInt32 % 65536).toInt32 = v) (k : AW I (pc + 1) ls (.int v :: st) h uc us Q) : AW I pc ls (.int x :: st) h uc us Q := by
  intro V p l e R s m args below meth c H locs Gl ws tys lsC hC hR hN hH hS hu hv2 hL
  exact lv_i2c hC.1 hC.2.1 hd hv (k V p l e R s m args below meth c H locs Gl ws tys lsC hC hR hN hH hS hu hv2 hL)
theorem x_val {ix : Nat} (k : Nat) (hd : decode (i_cc I) pc = .ok (.getfield ix, 3)) (hk : k < 6) (hw : Cond.fieldLink (i_own I) ix "java/lang/String" "value" "[B" ∈ a_GT) (kk : AW I (pc + 3) ls (.ref (5020 + k) :: st) h uc us Q) : AW I pc ls (.ref (5010 + k) :: st) h uc us Q := by
  intro V p l e R s m args below meth c9 H locs Gl ws tys lsC hC hR hN hH hS hu hv2 hL
  have hX := hC.2.2.2.2.2.2.2.2.2.2.1
  exact vk_getf hC.1 hC.2.1 (hX.2.2.1 k hk).2.2.1 hS hC.2.2.2.1 (hC.2.2.2.2.1 _ hw) (fun x hx => hx) hd (kk V p l e R s m args below meth c9 H locs Gl ws tys lsC hC hR hN hH hS hu hv2 hL)
theorem x_cod {ix : Nat} (k : Nat) (hd : decode (i_cc I) pc = .ok (.getfield ix, 3)) (hk : k < 6) (hw : Cond.fieldLink (i_own I) ix "java/lang/String" "coder" "B" ∈ a_GT) (kk : AW I (pc + 3) ls (.int 0 :: st) h uc us Q) : AW I pc ls (.ref (5010 + k) :: st) h uc us Q := by
  intro V p l e R s m args below meth c9 H locs Gl ws tys lsC hC hR hN hH hS hu hv2 hL
  have hX := hC.2.2.2.2.2.2.2.2.2.2.1
  exact vk_getf hC.1 hC.2.1 (hX.2.2.1 k hk).2.1 hS hC.2.2.2.1 (hC.2.2.2.2.1 _ hw) (fun x hx => hx) hd (kk V p l e R s m args below meth c9 H locs Gl ws tys lsC hC hR hN hH hS hu hv2 hL)
theorem x_len (k : Nat) (hd : decode (i_cc I) pc = .ok (.arraylength, 1)) (hk : k < 6) (kk : AW I (pc + 1) ls (.int (nI (kl k)) :: st) h uc us Q) : AW I pc ls (.ref (5020 + k) :: st) h uc us Q := by
  intro V p l e R s m args below meth c9 H locs Gl ws tys lsC hC hR hN hH hS hu hv2 hL
  have hX := hC.2.2.2.2.2.2.2.2.2.2.1
  exact va_tlen hC.1 hC.2.1 (hX.2.2.1 k hk).2.2.2 hS rfl hd (kk V p l e R s m args below meth c9 H locs Gl ws tys lsC hC hR hN hH hS hu hv2 hL)
theorem x_ald (k j : Nat) (hd : decode (i_cc I) pc = .ok (.baload, 1)) (hk : k < 6) (hj : j < kl k) (kk : AW I (pc + 1) ls (.int (kc k j) :: st) h uc us Q) : AW I pc ls (.int (nI j) :: .ref (5020 + k) :: st) h uc us Q := by
  intro V p l e R s m args below meth c9 H locs Gl ws tys lsC hC hR hN hH hS hu hv2 hL
  have hX := hC.2.2.2.2.2.2.2.2.2.2.1
  have h8 : kl k < 8 := (kl_ok ⟨k, hk⟩).2.1
  exact va_tb hC.1 hC.2.1 (hX.2.2.1 k hk).2.2.2 hS (vp_in_nI (N := kl k) hj (by omega)) (by rw [nI_clamp (by omega)]; rfl) hd (kk V p l e R s m args below meth c9 H locs Gl ws tys lsC hC hR hN hH hS hu hv2 hL)
theorem x_cmp {ix : Nat} (hd : decode (i_cc I) pc = .ok (.getstatic ix, 3)) (hw : Cond.fieldLink (i_own I) ix "java/lang/String" "COMPACT_STRINGS" "Z" ∈ a_GT) (kk : AW I (pc + 3) ls (.int 1 :: st) h uc us Q) : AW I pc ls st h uc us Q := by
  intro V p l e R s m args below meth c9 H locs Gl ws tys lsC hC hR hN hH hS hu hv2 hL
  have hX := hC.2.2.2.2.2.2.2.2.2.2.1
  exact va_gets hC.1 hC.2.1 hX.2.2.2.2.2.2.2.1.1 hS hC.2.2.2.1 (hC.2.2.2.2.1 _ hw) (fun x hx => hx) hd (kk V p l e R s m args below meth c9 H locs Gl ws tys lsC hC hR hN hH hS hu hv2 hL)
theorem x_sio {ix : Nat} (hd : decode (i_cc I) pc = .ok (.getstatic ix, 3)) (hw : Cond.fieldLink (i_own I) ix "jdk/internal/util/Preconditions" "SIOOBE_FORMATTER" "Ljava/util/function/BiFunction;" ∈ a_GT) (kk : ∀ v : Value, v = .null ∨ v = .ref 5030 → AW I (pc + 3) ls (v :: st) h uc us Q) : AW I pc ls st h uc us Q := by
  intro V p l e R s m args below meth c9 H locs Gl ws tys lsC hC hR hN hH hS hu hv2 hL
  have hX := hC.2.2.2.2.2.2.2.2.2.2.1
  rcases hX.2.2.2.2.2.2.2.1.2 with z | z
  · exact va_gets hC.1 hC.2.1 z hS hC.2.2.2.1 (hC.2.2.2.2.1 _ hw) (fun x hx => hx) hd (kk .null (Or.inl rfl) V p l e R s m args below meth c9 H locs Gl ws tys lsC hC hR hN hH hS hu hv2 hL)
  · exact va_gets hC.1 hC.2.1 z hS hC.2.2.2.1 (hC.2.2.2.2.1 _ hw) (fun x hx => hx) hd (kk (.ref 5030) (Or.inr rfl) V p l e R s m args below meth c9 H locs Gl ws tys lsC hC hR hN hH hS hu hv2 hL)
theorem r_callX {ix k n : Nat} {y : MethodName} {I' : a_I} {As : List Value} {Q' : a_Q} (hd : decode (i_cc I) pc = .ok (.invokevirtual ix, 3)) (hc : a_CV (i_own I) ix y I' n) (hM : AM y I' (.ref (5010 + k) :: As) h Q') (hn : As.length = n) (hk : k < 6) (hci : y.cls = "java/lang/String")
    (hrm : a_room I I' st uc us) (kk : a_Kn I pc ls st h uc us Q I' Q') : AW I pc ls (As.reverse ++ .ref (5010 + k) :: st) h uc us Q := by
  intro V p l e R s m args below meth c9 H locs Gl ws tys lsC hC hR hN hH hS hu hv2 hL
  obtain ⟨hd1, hnl, hst, hu1, hv1⟩ := hrm
  obtain ⟨hnh, hpl, w1, w2, w3, w4, w5⟩ := hc
  have hroom := hC.2.2.2.2.2.2.2.1
  have hB := hC.2.2.2.2.2.2.2.2.2.2.2.1
  have hX := hC.2.2.2.2.2.2.2.2.2.2.1
  have hcd : a_cd y I' = Cond.code y (i_cc I') (i_nL I') (i_ret I') := if_pos hnh
  have hsg : (As.reverse ++ .ref (5010 + k) :: st).map (a_cv V) = (As.map (a_cv V)).reverse ++ .ref (a_ad V (5010 + k)) :: st.map (a_cv V) := by simp [a_cv]
  rw [hsg]
  refine a_after (a := (Value.ref (a_ad V (5010 + k)) :: As.map (a_cv V)).toArray) hC hR hN hH hS hL hu1 hv1 (fun hcl => ?_) kk.1 kk.2
  exact vx_runV (C := y.cls) (n := n) (b := a_ad V (5010 + k)) (As := As.map (a_cv V)) ⟨hC.1, hC.2.1, hC.2.2.1, hC.2.2.2.1, hC.2.2.2.2.1⟩ (hM l V hC.2.2.2.2.2.2.1)
    (cwV (C := y.cls) (bytes := i_cc I') (maxL := i_nL I') (ret := i_ret I') (ws' := a_GT) n hC.2.2.2.2.1 (a_good (fun w hw => by
      unfold wsV at hw
      rcases List.mem_append.mp hw with g | g
      · simp only [List.mem_cons, List.not_mem_nil, or_false] at g
        rcases g with rfl | rfl | rfl | rfl
        · exact w1
        · exact w2
        · exact w3
        · exact w4
      · exact a_wsG w5 w g)) (by rw [hcd]) rfl rfl ⟨rfl, hpl⟩ ⟨by show i_d I' + 1 ≤ R.frames; omega, by show 8 + (i_nL I' + 11) + 60 * i_d I' ≤ R.locals; omega⟩)
    ⟨a_Pre.blind, by rw [hci]; exact va_Orecv (hX.2.2.1 k hk).1 hS, fun U hU hW => ⟨rfl, a_Pre.of hX hB hH hS hcl hU hW⟩⟩ rfl (by simpa using hn) (by rw [hL.1]) rfl (by rw [a_cat]; show 2 * 0 + _ ≤ 8; omega) hd ⟨by rw [hroom.2.2.1]; exact hu1, by rw [hroom.2.2.2]; exact hv1⟩
theorem m_cx {ix k n : Nat} {y : MethodName} {I' : a_I} {As : List Value} {v : Option Value} {h' : a_H} (hd : decode (i_cc I) pc = .ok (.invokevirtual ix, 3)) (hc : a_CV (i_own I) ix y I' n) (hM : AD y I' (.ref (5010 + k) :: As) (hS M L dd) (.inl v) h') (hh : h'.1 = false) (hn : As.length = n) (hk : k < 6) (hci : y.cls = "java/lang/String")
    (hz : i_mc I' = 0 ∧ i_ms I' = 0) (hd1 : i_d I' + 1 ≤ i_d I) (hnl : i_nL I' ≤ 40) (hst : (st.map fun v => v.category).sum ≤ 8) (kk : AW I (pc + 3) ls (v.toList ++ st) h' uc us Q) : AW I pc ls (As.reverse ++ .ref (5010 + k) :: st) (hS M L dd) uc us Q := by
  intro V p l e R s m args below meth c9 H locs Gl ws tys lsC hC hR hN hH hS hu hv2 hL
  refine r_callX (Q' := fun o h2 => o = .inl v ∧ h2 = h') hd hc (hM _ ⟨rfl, rfl⟩) hn hk hci ⟨hd1, hnl, hst, by rw [hz.1]; exact hu, by rw [hz.2]; exact hv2⟩ ⟨?_, ?_⟩ V p l e R s m args below meth c9 H locs Gl ws tys lsC hC hR hN hH hS hu hv2 hL
  · rintro v2 h2 ⟨h3, rfl⟩
    cases h3
    refine ⟨fun z => absurd (hh.symm.trans z) (by decide), ?_⟩
    rw [hz.1, hz.2]
    exact kk
  · rintro E h2 ⟨h3, -⟩
    cases h3
theorem m_cx0 {ix k : Nat} {y : MethodName} {I' : a_I} {v : Option Value} {h' : a_H} (hd : decode (i_cc I) pc = .ok (.invokevirtual ix, 3)) (hc : a_CV (i_own I) ix y I' 0) (hM : AD y I' [.ref (5010 + k)] (hS M L dd) (.inl v) h') (hh : h'.1 = false) (hk : k < 6) (hci : y.cls = "java/lang/String")
    (hz : i_mc I' = 0 ∧ i_ms I' = 0) (hd1 : i_d I' + 1 ≤ i_d I) (hnl : i_nL I' ≤ 40) (hst : (st.map fun v => v.category).sum ≤ 8) (kk : AW I (pc + 3) ls (v.toList ++ st) h' uc us Q) : AW I pc ls (.ref (5010 + k) :: st) (hS M L dd) uc us Q := m_cx (As := []) hd hc hM hh rfl hk hci hz hd1 hnl hst kk
theorem m_cx1 {ix k : Nat} {a1 : Value} {y : MethodName} {I' : a_I} {v : Option Value} {h' : a_H} (hd : decode (i_cc I) pc = .ok (.invokevirtual ix, 3)) (hc : a_CV (i_own I) ix y I' 1) (hM : AD y I' [.ref (5010 + k), a1] (hS M L dd) (.inl v) h') (hh : h'.1 = false) (hk : k < 6) (hci : y.cls = "java/lang/String")
    (hz : i_mc I' = 0 ∧ i_ms I' = 0) (hd1 : i_d I' + 1 ≤ i_d I) (hnl : i_nL I' ≤ 40) (hst : (st.map fun v => v.category).sum ≤ 8) (kk : AW I (pc + 3) ls (v.toList ++ st) h' uc us Q) : AW I pc ls (a1 :: .ref (5010 + k) :: st) (hS M L dd) uc us Q := m_cx (As := [a1]) hd hc hM hh rfl hk hci hz hd1 hnl hst kk
theorem c_J0_coder {k : Nat} (hk : k < 6) : AD yJ0_coder_7d493 I_J0_coder [.ref (5010 + k)] (hS M L dd) (.inl (some (.int 0))) (hS M L dd) := by
  intro Q hq
  refine a_met (by decide +kernel) rfl rfl (Nat.le_of_ble_eq_true rfl) (by simp [Value.category]) (by decide) rfl ?_
  show AW I_J0_coder 0 [.ref (5010 + k)] [] (hS M L dd) 0 0 Q
  refine x_cmp dJ0_coder_7d493_0 k_588 ?_
  refine r_if_eq 13 dJ0_coder_7d493_3 (by decide) (fun z => absurd z (by decide)) (fun _ => ?_)
  refine r_aload_n dJ0_coder_7d493_6 rfl ?_
  refine x_cod k dJ0_coder_7d493_7 hk k_1627 ?_
  refine r_goto 14 dJ0_coder_7d493_10 (by decide) ?_
  exact r_ret dJ0_coder_7d493_14 ⟨.byte, rfl, by decide⟩ hq
theorem c_J0_length {k : Nat} (hk : k < 6) : AD yJ0_length_8abf5 I_J0_length [.ref (5010 + k)] (hS M L dd) (.inl (some (.int (nI (kl k))))) (hS M L dd) := by
  intro Q hq
  refine a_met (by decide +kernel) rfl rfl (Nat.le_of_ble_eq_true rfl) (by simp [Value.category]) (by decide) rfl ?_
  show AW I_J0_length 0 [.ref (5010 + k)] [] (hS M L dd) 0 0 Q
  refine r_aload_n dJ0_length_8abf5_0 rfl ?_
  refine x_val k dJ0_length_8abf5_1 hk k_1626 ?_
  refine x_len k dJ0_length_8abf5_4 hk ?_
  refine r_aload_n dJ0_length_8abf5_5 rfl ?_
  refine m_cx0 dJ0_length_8abf5_6 cx_J0_335 (c_J0_coder hk) rfl hk rfl ⟨rfl, rfl⟩ (by decide) (by decide) (Nat.le_of_ble_eq_true rfl) ?_
  refine r_ishr dJ0_length_8abf5_9 ?_
  rw [show nI (kl k) >>> ((0 : Int32) &&& 31) = nI (kl k) from (kl_ok ⟨k, hk⟩).1]
  exact r_iret dJ0_length_8abf5_10 rfl hq
theorem c_J3_checkIndex {j n : Nat} {v : Value} (hv : v = .null ∨ v = .ref 5030) (hj : j < n) (hn : n < 2 ^ 31) : AD yJ3_checkIndex_8e157 I_J3_checkIndex [.int (nI j), .int (nI n), v] (hS M L dd) (.inl (some (.int (nI j)))) (hS M L dd) := by
  intro Q hq
  refine a_met (by decide +kernel) rfl rfl (Nat.le_of_ble_eq_true rfl) (by rcases hv with rfl | rfl <;> simp [Value.category]) (by decide) rfl ?_
  show AW I_J3_checkIndex 0 [.int (nI j), .int (nI n), v] [] (hS M L dd) 0 0 Q
  refine r_iload_n dJ3_checkIndex_8e157_0 rfl ?_
  refine r_if_lt 9 dJ3_checkIndex_8e157_1 (by decide) (fun z => absurd z (nI_pos (by omega))) (fun _ => ?_)
  refine r_iload_n dJ3_checkIndex_8e157_4 rfl ?_
  refine r_iload_n dJ3_checkIndex_8e157_5 rfl ?_
  refine r_icmp_lt 16 dJ3_checkIndex_8e157_6 (by decide) (fun _ => ?_) (fun z => absurd (nI_lt hj hn) z)
  refine r_iload_n dJ3_checkIndex_8e157_16 rfl ?_
  exact r_iret dJ3_checkIndex_8e157_17 rfl hq
theorem c_J0_checkIndex {j n : Nat} (hj : j < n) (hn : n < 2 ^ 31) : AD yJ0_checkIndex_df160 I_J0_checkIndex [.int (nI j), .int (nI n)] (hS M L dd) (.inl none) (hS M L dd) := by
  intro Q hq
  refine a_met (by decide +kernel) rfl rfl (Nat.le_of_ble_eq_true rfl) (by simp [Value.category]) (by decide) rfl ?_
  show AW I_J0_checkIndex 0 [.int (nI j), .int (nI n)] [] (hS M L dd) 0 0 Q
  refine r_iload_n dJ0_checkIndex_df160_0 rfl ?_
  refine r_iload_n dJ0_checkIndex_df160_1 rfl ?_
  refine x_sio dJ0_checkIndex_df160_2 k_604 (fun v hv => ?_)
  refine m_cs (As := [.int (nI j), .int (nI n), v]) dJ0_checkIndex_df160_5 cx_J0_1059 (c_J3_checkIndex hv hj hn) rfl rfl ⟨rfl, rfl⟩ (by decide) (by decide) (Nat.le_of_ble_eq_true rfl) ?_
  refine r_pop dJ0_checkIndex_df160_8 rfl ?_
  exact r_vret dJ0_checkIndex_df160_9 rfl hq
theorem c_J1_charAt {k j : Nat} (hk : k < 6) (hj : j < kl k) : AD yJ1_charAt_3b067 I_J1_charAt [.ref (5020 + k), .int (nI j)] (hS M L dd) (.inl (some (.int (kc k j)))) (hS M L dd) := by
  have h8 : kl k < 8 := (kl_ok ⟨k, hk⟩).2.1
  have hc := kc_ok ⟨k, hk⟩ ⟨j, hj⟩
  intro Q hq
  refine a_met (by decide +kernel) rfl rfl (Nat.le_of_ble_eq_true rfl) (by simp [Value.category]) (by decide) rfl ?_
  show AW I_J1_charAt 0 [.ref (5020 + k), .int (nI j)] [] (hS M L dd) 0 0 Q
  refine r_iload_n dJ1_charAt_3b067_0 rfl ?_
  refine r_aload_n dJ1_charAt_3b067_1 rfl ?_
  refine x_len k dJ1_charAt_3b067_2 hk ?_
  refine m_cs (As := [.int (nI j), .int (nI (kl k))]) dJ1_charAt_3b067_3 cx_J1_9 (c_J0_checkIndex hj (by omega)) rfl rfl ⟨rfl, rfl⟩ (by decide) (by decide) (Nat.le_of_ble_eq_true rfl) ?_
  refine r_aload_n dJ1_charAt_3b067_6 rfl ?_
  refine r_iload_n dJ1_charAt_3b067_7 rfl ?_
  refine x_ald k j dJ1_charAt_3b067_8 hk hj ?_
  refine r_sipush 255 dJ1_charAt_3b067_9 (by decide) ?_
  refine r_iand dJ1_charAt_3b067_12 ?_
  refine r_i2c dJ1_charAt_3b067_13 hc.1 ?_
  exact r_ret dJ1_charAt_3b067_14 ⟨.char, rfl, hc.2.1⟩ hq
theorem c_J0_isLatin1 {k : Nat} (hk : k < 6) : AD yJ0_isLatin1_aae02 I_J0_isLatin1 [.ref (5010 + k)] (hS M L dd) (.inl (some (.int 1))) (hS M L dd) := by
  intro Q hq
  refine a_met (by decide +kernel) rfl rfl (Nat.le_of_ble_eq_true rfl) (by simp [Value.category]) (by decide) rfl ?_
  show AW I_J0_isLatin1 0 [.ref (5010 + k)] [] (hS M L dd) 0 0 Q
  refine x_cmp dJ0_isLatin1_aae02_0 k_588 ?_
  refine r_if_eq 17 dJ0_isLatin1_aae02_3 (by decide) (fun z => absurd z (by decide)) (fun _ => ?_)
  refine r_aload_n dJ0_isLatin1_aae02_6 rfl ?_
  refine x_cod k dJ0_isLatin1_aae02_7 hk k_1627 ?_
  refine r_if_ne 17 dJ0_isLatin1_aae02_10 (by decide) (fun z => absurd rfl z) (fun _ => ?_)
  refine r_iconst_1 dJ0_isLatin1_aae02_13 ?_
  refine r_goto 18 dJ0_isLatin1_aae02_14 (by decide) ?_
  exact r_ret dJ0_isLatin1_aae02_18 ⟨.boolean, rfl, by decide⟩ hq
theorem c_J0_charAt {k j : Nat} (hk : k < 6) (hj : j < kl k) : AD yJ0_charAt_5068e I_J0_charAt [.ref (5010 + k), .int (nI j)] (hS M L dd) (.inl (some (.int (kc k j)))) (hS M L dd) := by
  have hc := kc_ok ⟨k, hk⟩ ⟨j, hj⟩
  intro Q hq
  refine a_met (by decide +kernel) rfl rfl (Nat.le_of_ble_eq_true rfl) (by simp [Value.category]) (by decide) rfl ?_
  show AW I_J0_charAt 0 [.ref (5010 + k), .int (nI j)] [] (hS M L dd) 0 0 Q
  refine r_aload_n dJ0_charAt_5068e_0 rfl ?_
  refine m_cx0 dJ0_charAt_5068e_1 cx_J0_492 (c_J0_isLatin1 hk) rfl hk rfl ⟨rfl, rfl⟩ (by decide) (by decide) (Nat.le_of_ble_eq_true rfl) ?_
  refine r_if_eq 16 dJ0_charAt_5068e_4 (by decide) (fun z => absurd z (by decide)) (fun _ => ?_)
  refine r_aload_n dJ0_charAt_5068e_7 rfl ?_
  refine x_val k dJ0_charAt_5068e_8 hk k_1626 ?_
  refine r_iload_n dJ0_charAt_5068e_11 rfl ?_
  refine m_cs (As := [.ref (5020 + k), .int (nI j)]) dJ0_charAt_5068e_12 cx_J0_495 (c_J1_charAt hk hj) rfl rfl ⟨rfl, rfl⟩ (by decide) (by decide) (Nat.le_of_ble_eq_true rfl) ?_
  exact r_ret dJ0_charAt_5068e_15 ⟨.char, rfl, hc.2.1⟩ hq
end STR
