/-! THE BLOCKS append AND load -/
section BLOCKS4
variable {LL j uc us : Nat} {xs : Nat → Int32} {M : Nat → Nat → Int32} {L : Nat → Nat → Int64} {dd : UInt64} {R : List Row} {Q : a_Q}
theorem b_append (hJ : J M R) (hb : ∀ k : Nat, 1 ≤ k → k ≤ 5 → vp_in (nI j + nI k) LL) (hu : uc + 7 ≤ 601024) (hv : us + 42 ≤ 7293034) (next : BNext LL xs j (uc + 7) (us + 42) Q) : AW (I_L_law LL xs) 172 [.ref 5000, .ref 0, .ref 317, .ref 325, .ref 326, .int (nI j), .null, .null, .null] [] (hS M L dd) uc us Q := by
  obtain ⟨j1, j2, j3, j4, ⟨n, t1, t2, t3, t4, t5⟩, ⟨ws, l1, l2, l3⟩⟩ := hJ
  refine r_aload_n dL_law_172 rfl ?_
  refine r_aload_n dL_law_173 rfl ?_
  refine r_iload dL_law_174 rfl ?_
  refine r_iconst_1 dL_law_176 ?_
  refine r_iadd dL_law_177 ?_
  refine r_sald dL_law_178 rfl (hb 1 (by decide) (by decide)) ?_
  refine r_aload_n dL_law_179 rfl ?_
  refine r_iload dL_law_180 rfl ?_
  refine r_iconst_2 dL_law_182 ?_
  refine r_iadd dL_law_183 ?_
  refine r_sald dL_law_184 rfl (hb 2 (by decide) (by decide)) ?_
  refine r_aload_n dL_law_185 rfl ?_
  refine r_iload dL_law_186 rfl ?_
  refine r_iconst_3 dL_law_188 ?_
  refine r_iadd dL_law_189 ?_
  refine r_sald dL_law_190 rfl (hb 3 (by decide) (by decide)) ?_
  refine r_aload_n dL_law_191 rfl ?_
  refine r_iload dL_law_192 rfl ?_
  refine r_iconst_4 dL_law_194 ?_
  refine r_iadd dL_law_195 ?_
  refine r_sald dL_law_196 rfl (hb 4 (by decide) (by decide)) ?_
  refine r_aload_n dL_law_197 rfl ?_
  refine r_iload dL_law_198 rfl ?_
  refine r_iconst_5 dL_law_200 ?_
  refine r_iadd dL_law_201 ?_
  refine r_sald dL_law_202 rfl (hb 5 (by decide) (by decide)) ?_
  refine r_aload_n dL_law_203 rfl ?_
  refine r_callS (As := [.ref 0, .int (xs (nI j + 1).toNatClampNeg), .int (xs (nI j + 2).toNatClampNeg), .int (xs (nI j + 3).toNatClampNeg), .int (xs (nI j + 4).toNatClampNeg), .int (xs (nI j + 5).toNatClampNeg), .ref 325]) dL_law_204 cs_L_101 (w_append t2 t1) rfl ⟨Nat.le_of_ble_eq_true rfl, Nat.le_of_ble_eq_true rfl, Nat.le_of_ble_eq_true rfl, show uc + 1 ≤ 601024 by omega, show us + 6 ≤ 7293034 by omega⟩ ⟨?_, ?_⟩
  · rintro v9 h2 ⟨M1, L1, e9, rfl, x2⟩
    cases e9
    refine ⟨fun z => (Bool.false_ne_true z).elim, ?_⟩
    refine r_wide (uc' := uc + 7) (us' := us + 42) (show uc + 1 ≤ uc + 7 by omega) (show us + 6 ≤ us + 42 by omega) hu hv ?_
    have f1 : ∀ c, c ≠ 313 → c ≠ 314 → M1 c = M c := fun c k1 k2 => x2.elim (fun z => z.2.2.1 c k1 k2) (fun z => by rw [z.2])
    have k1 : M1 317 7 = nI n := by rw [f1 317 (by decide) (by decide)]; exact t3
    refine s_istore dL_law_207 (Nat.le_of_ble_eq_true rfl) rfl ?_
    refine r_aload_n dL_law_209 rfl ?_
    refine r_aload_n dL_law_210 rfl ?_
    refine r_iload dL_law_211 rfl ?_
    refine r_iconst_1 dL_law_213 ?_
    refine r_iadd dL_law_214 ?_
    refine r_sald dL_law_215 rfl (hb 1 (by decide) (by decide)) ?_
    refine r_aload_n dL_law_216 rfl ?_
    refine r_iload dL_law_217 rfl ?_
    refine r_iconst_2 dL_law_219 ?_
    refine r_iadd dL_law_220 ?_
    refine r_sald dL_law_221 rfl (hb 2 (by decide) (by decide)) ?_
    refine r_aload_n dL_law_222 rfl ?_
    refine r_iload dL_law_223 rfl ?_
    refine r_iconst_3 dL_law_225 ?_
    refine r_iadd dL_law_226 ?_
    refine r_sald dL_law_227 rfl (hb 3 (by decide) (by decide)) ?_
    refine r_aload_n dL_law_228 rfl ?_
    refine r_iload dL_law_229 rfl ?_
    refine r_iconst_4 dL_law_231 ?_
    refine r_iadd dL_law_232 ?_
    refine r_sald dL_law_233 rfl (hb 4 (by decide) (by decide)) ?_
    refine r_aload_n dL_law_234 rfl ?_
    refine r_iload dL_law_235 rfl ?_
    refine r_iconst_5 dL_law_237 ?_
    refine r_iadd dL_law_238 ?_
    refine r_sald dL_law_239 rfl (hb 5 (by decide) (by decide)) ?_
    refine r_callV (As := [.int (xs (nI j + 1).toNatClampNeg), .int (xs (nI j + 2).toNatClampNeg), .int (xs (nI j + 3).toNatClampNeg), .int (xs (nI j + 4).toNatClampNeg), .int (xs (nI j + 5).toNatClampNeg)]) dL_law_240 cv_L_106 (c_X10_append k1 t1) rfl ((hp_at (by decide)).trans rfl) ⟨_, rfl, rfl⟩ ⟨Nat.le_of_ble_eq_true rfl, Nat.le_of_ble_eq_true rfl, Nat.le_of_ble_eq_true rfl, hu, hv⟩ ⟨?_, ?_⟩
    · rintro v8 h3 ⟨x, M2, e8, rfl, y1, y2, y3, y4, y5⟩
      cases e8
      refine ⟨fun z => (Bool.false_ne_true z).elim, ?_⟩
      have e : ∀ c, c ≠ 313 → c ≠ 314 → c ≠ 317 → c ≠ 322 → M2 c = M c := fun c k1 k2 k3 k4 => (y2 c k3 k4).trans (f1 c k1 k2)
      have e17 : ∀ i, i ≠ 5 → i ≠ 7 → M2 317 i = M 317 i := fun i k1 k2 => by rw [y3 i k1 k2, f1 317 (by decide) (by decide)]
      have e18 := e 318 (by decide) (by decide) (by decide) (by decide)
      have fa : Fr 313 315 M M1 := fun c hc => f1 c (by omega) (by omega)
      have fb : Fr 317 323 M1 M2 := fun c hc => y2 c (by omega) (by omega)
      have tb : TB M2 := by
        rcases x2 with ⟨z0, z1, z2, z3, z4, z5⟩ | ⟨z0, z1⟩
        · have hn : n + 20 ≤ 600 := by
            by_cases w : 600 < n + 20
            · exact absurd ((if_pos w : thAp n = 1).symm.trans z0) (by decide)
            · omega
          obtain ⟨w1, w2, w3⟩ := y5 z0
          have e13 := y2 313 (by decide) (by decide)
          have e14 := y2 314 (by decide) (by decide)
          refine ⟨n + 20, hn, by rw [e13]; exact z4, w2, fun k hk => ?_, by rw [e13, z3 2 (by decide), e17 15 (by decide) (by decide)]; exact t5⟩
          rw [e14, w3 k, z5 k]
          by_cases w : n ≤ k ∧ k < n + 20
          · rw [if_pos w, if_pos w]; exact ug_and _
          · rw [if_neg w, if_neg w, f1 322 (by decide) (by decide)]; exact t4 k (by omega)
        · subst z1
          obtain ⟨w1, w2⟩ := y4 z0
          exact ⟨n, t1, by rw [y2 313 (by decide) (by decide)]; exact t2, w1, brd_c t4 w2 (y2 314 (by decide) (by decide)), by rw [y2 313 (by decide) (by decide), e17 15 (by decide) (by decide)]; exact t5⟩
      have hJ2 : J M2 R := ⟨by rw [e18]; exact j1, j2, by rw [e18]; exact cs_hi fb (by omega) (cs_hi fa (by omega) j3), ⟨j4.1, by rw [e17 4 (by decide) (by decide)]; exact j4.2.1, fun r b hb t ht => by rw [e 321 (by decide) (by decide) (by decide) (by decide)]; exact j4.2.2 r b hb t ht⟩, tb, ⟨ws, l1, ⟨by rw [e17 19 (by decide) (by decide)]; exact l2.1, fun k c hk => by rw [e 324 (by decide) (by decide) (by decide) (by decide)]; exact l2.2 k c hk⟩, ⟨by rw [e 315 (by decide) (by decide) (by decide) (by decide)]; exact l3.1, fun k c hk => by rw [e 316 (by decide) (by decide) (by decide) (by decide)]; exact l3.2 k c hk⟩⟩⟩
      refine s_istore dL_law_243 (Nat.le_of_ble_eq_true rfl) rfl ?_
      refine r_aload_n dL_law_245 rfl ?_
      refine m_cv0 dL_law_246 cv_L_107 (c_X10_thrown) rfl ob_model ⟨_, rfl, rfl⟩ ⟨rfl, rfl⟩ (Nat.le_of_ble_eq_true rfl) (Nat.le_of_ble_eq_true rfl) (Nat.le_of_ble_eq_true rfl) ?_
      refine r_iload dL_law_249 rfl ?_
      rw [y1]
      refine r_icmp_eq 256 dL_law_251 (by decide) (fun _ => ?_) (fun z => absurd rfl z)
      refine r_iload dL_law_256 rfl ?_
      refine r_if_ne 273 dL_law_258 (by decide) (fun h258 => ?_) (fun h258 => ?_)
      · refine r_goto 1797 dL_law_273 (by decide) ?_
        exact m_sub (next M2 L1 dd R hJ2) (by simp [a_sub])
      · have q3 := (y5 h258).1
        have q2 := x2.elim (fun z => z.2.1) (fun z => absurd h258 z.1)
        refine r_aload_n dL_law_261 rfl ?_
        refine r_iconst_0 dL_law_262 ?_
        refine m_lald 0 dL_law_263 al_out rfl (by omega) (by first | decide | assumption) ?_
        refine r_iload dL_law_264 rfl ?_
        refine r_i2l dL_law_266 ?_
        refine r_lcmp dL_law_267 ?_
        refine r_if_eq 273 dL_law_268 (by decide) (fun _ => ?_) (fun z => absurd (lg_eq0.mpr (by rw [q2, q3])) z)
        refine r_goto 1797 dL_law_273 (by decide) ?_
        exact m_sub (next M2 L1 dd R hJ2) (by simp [a_sub])
    · rintro E h3 ⟨x, M2, e8, rfl, y⟩
      cases e8
  · rintro E h2 ⟨M1, L1, e9, rfl, x2⟩
    cases e9
theorem b_load (hJ : J M R) (hb : ∀ k : Nat, 1 ≤ k → k ≤ 5 → vp_in (nI j + nI k) LL) (hu : uc + 7 ≤ 601024) (hv : us + 42 ≤ 7293034) (next : BNext LL xs j (uc + 7) (us + 42) Q) : AW (I_L_law LL xs) 276 [.ref 5000, .ref 0, .ref 317, .ref 325, .ref 326, .int (nI j), .null, .null, .null] [] (hS M L dd) uc us Q := by
  obtain ⟨j1, j2, j3, j4, ⟨n, t1, t2, t3, t4, t5⟩, ⟨ws, l1, l2, l3⟩⟩ := hJ
  refine r_aload_n dL_law_276 rfl ?_
  refine r_aload_n dL_law_277 rfl ?_
  refine r_iload dL_law_278 rfl ?_
  refine r_iconst_1 dL_law_280 ?_
  refine r_iadd dL_law_281 ?_
  refine r_sald dL_law_282 rfl (hb 1 (by decide) (by decide)) ?_
  refine r_aload_n dL_law_283 rfl ?_
  refine r_callS (As := [.ref 0, .int (xs (nI j + 1).toNatClampNeg), .ref 325]) dL_law_284 cs_L_110 (w_load (r0 := iniA (M 318)) ini_re j3 j1.1 t2 t1) rfl ⟨Nat.le_of_ble_eq_true rfl, Nat.le_of_ble_eq_true rfl, Nat.le_of_ble_eq_true rfl, show uc + 1 ≤ 601024 by omega, show us + 6 ≤ 7293034 by omega⟩ ⟨?_, ?_⟩
  · rintro v9 h2 ⟨M1, L1, e9, rfl, x2⟩
    cases e9
    refine ⟨fun z => (Bool.false_ne_true z).elim, ?_⟩
    refine r_wide (uc' := uc + 7) (us' := us + 42) (show uc + 1 ≤ uc + 7 by omega) (show us + 6 ≤ us + 42 by omega) hu hv ?_
    have f1 : ∀ c, 314 ≤ c → M1 c = M c := fun c k1 => x2.elim (fun z => by obtain ⟨-, n2, -, -, z2⟩ := z; exact z2.1 c k1) (fun z => by rw [z.2])
    have g17 := f1 317 (by decide)
    have hR1 : MH M1 R := ⟨j4.1, by rw [g17]; exact j4.2.1, fun r b hb t ht => by rw [f1 321 (by decide)]; exact j4.2.2 r b hb t ht⟩
    refine s_istore dL_law_287 (Nat.le_of_ble_eq_true rfl) rfl ?_
    refine r_aload_n dL_law_289 rfl ?_
    refine r_aload_n dL_law_290 rfl ?_
    refine r_iload dL_law_291 rfl ?_
    refine r_iconst_1 dL_law_293 ?_
    refine r_iadd dL_law_294 ?_
    refine r_sald dL_law_295 rfl (hb 1 (by decide) (by decide)) ?_
    refine r_callV (As := [.int (xs (nI j + 1).toNatClampNeg)]) dL_law_296 cv_L_113 (c_X10_load (a := M 318) (g := M 314) (f1 318 (by decide)) hR1 (by rw [g17]; exact t3) t1 (brd_c t4 (f1 322 (by decide)) rfl)) rfl ((hp_at (by decide)).trans rfl) ⟨_, rfl, rfl⟩ ⟨Nat.le_of_ble_eq_true rfl, Nat.le_of_ble_eq_true rfl, Nat.le_of_ble_eq_true rfl, hu, hv⟩ ⟨?_, ?_⟩
    · rintro v8 h3 ⟨x, M2, L2, e8, rfl, rfl, y⟩
      cases e8
      refine ⟨fun z => (Bool.false_ne_true z).elim, ?_⟩
      have key : M2 317 5 = thLd (xs (nI j + 1).toNatClampNeg) n ∧ (∃ R2, J M2 R2) ∧ (thLd (xs (nI j + 1).toNatClampNeg) n = 0 → L2 325 0 = x.toInt64) := by
        rcases x2 with ⟨z0, n2, z1, z2, w1, w2, w3, w4⟩ | ⟨z0, z1⟩
        · rcases y with ⟨y0, -⟩ | ⟨n3, y1, y2, y3, y4, y5, y6, y7, y8⟩
          · exact absurd ⟨by rw [z2]; exact nI_pos' (by omega), by rw [z2]; exact nI_le z1 (by omega)⟩ y0
          · have en : n3 = n2 := (nI_eq (by omega) (by omega)).mp (y2.symm.trans z2)
            subst en
            have hpi : PI n3 (ldP (M 314) n3 (iniA (M 318))) := ld_pi ini_re
            have hea : (ldP (M 314) n3 (iniA (M 318))).er = 0 → (ldP (M 314) n3 (iniA (M 318))).ea = -1 := fun z => prs_ea _ _ z
            generalize ldP (M 314) n3 (iniA (M 318)) = P at *
            have fr : Fr 317 324 M1 M2 := fun c hc => y3 c (by omega) (by omega) (by omega) (by omega) (by omega) (by omega)
            have e13 : M2 313 = M1 313 := fr 313 (by omega)
            have tb : TB M2 := ⟨0, by decide, by rw [e13]; exact w2, y6, fun k hk => by omega, by
              rw [e13, w3, y7]
              by_cases z : P.er = 0
              · rw [if_pos z]; exact hea z
              · rw [if_neg z]⟩
            have wb : WB M2 := ⟨ws, l1, ⟨by rw [y4, g17]; exact l2.1, fun k c hk => by rw [fr 324 (by omega), f1 324 (by decide)]; exact l2.2 k c hk⟩, ⟨by rw [fr 315 (by omega), f1 315 (by decide)]; exact l3.1, fun k c hk => by rw [fr 316 (by omega), f1 316 (by decide)]; exact l3.2 k c hk⟩⟩
            refine ⟨by rw [y5, z0], ?_, fun _ => ?_⟩
            · rcases y8 with ⟨a1, a2, a3, a4⟩ | ⟨a1, a2, a3, a4⟩
              · have c1 := w4.elim (fun z => z.2.2) (fun z => absurd z.1 a1)
                have c2 := cs_hi fr (by omega) c1
                exact ⟨R, ok_re a4 j1, j2, ⟨qp_re a4 j1.1 c2.1, c2.2⟩, a3, tb, wb⟩
              · have c1 := w4.elim (fun z => absurd a1 z.1) (fun z => z.2.2)
                have c2 := cs_hi fr (by omega) c1
                have w9 : OK9 (fiS P.ra) := ⟨wf_fi hpi.2.1, wv_fi 30 _ hpi.2.1 hpi.2.2.1⟩
                exact ⟨pushR R (M 318), ok_re a4 w9, fun b hb => ok_push j2 j1 hb, ⟨qp_re a4 w9.1 c2.1, c2.2⟩, a3, tb, wb⟩
            · rcases y8 with ⟨a1, a2, a3, a4⟩ | ⟨a1, a2, a3, a4⟩
              · rw [a2]; exact w4.elim (fun z => z.2.1) (fun z => absurd z.1 a1)
              · rw [a2]; exact w4.elim (fun z => absurd a1 z.1) (fun z => z.2.1)
        · rcases y with ⟨y0, y1, y2, y3⟩ | ⟨n3, y1, y2, y3⟩
          · subst z1
            have e18 := y2 318 (by decide)
            have fr : Fr 317 318 M1 M2 := fun c hc => y2 c (by omega)
            refine ⟨by rw [y1, z0], ⟨R, by rw [e18]; exact j1, j2, by rw [e18]; exact cs_hi fr (by omega) j3, ⟨j4.1, by rw [y3 4 (by decide)]; exact j4.2.1, fun r b hb t ht => by rw [y2 321 (by decide)]; exact j4.2.2 r b hb t ht⟩, ⟨n, t1, by rw [y2 313 (by decide)]; exact t2, by rw [y3 7 (by decide)]; exact t3, brd_c t4 (y2 322 (by decide)) (y2 314 (by decide)), by rw [y2 313 (by decide), y3 15 (by decide)]; exact t5⟩, ⟨ws, l1, ⟨by rw [y3 19 (by decide)]; exact l2.1, fun k c hk => by rw [y2 324 (by decide)]; exact l2.2 k c hk⟩, ⟨by rw [y2 315 (by decide)]; exact l3.1, fun k c hk => by rw [y2 316 (by decide)]; exact l3.2 k c hk⟩⟩⟩, fun z => absurd (z0.symm.trans z) (by decide)⟩
          · exact absurd ((if_pos ⟨by rw [y2]; exact nI_pos' (by omega), by rw [y2]; exact nI_le y1 (by omega)⟩ : thLd (xs (nI j + 1).toNatClampNeg) n = 0).symm.trans z0) (by decide)
      obtain ⟨y1, ⟨R2, hJ2⟩, y5⟩ := key
      refine s_istore dL_law_299 (Nat.le_of_ble_eq_true rfl) rfl ?_
      refine r_aload_n dL_law_301 rfl ?_
      refine m_cv0 dL_law_302 cv_L_107 (c_X10_thrown) rfl ob_model ⟨_, rfl, rfl⟩ ⟨rfl, rfl⟩ (Nat.le_of_ble_eq_true rfl) (Nat.le_of_ble_eq_true rfl) (Nat.le_of_ble_eq_true rfl) ?_
      refine r_iload dL_law_305 rfl ?_
      rw [y1]
      refine r_icmp_eq 312 dL_law_307 (by decide) (fun _ => ?_) (fun z => absurd rfl z)
      refine r_iload dL_law_312 rfl ?_
      refine r_if_ne 329 dL_law_314 (by decide) (fun h314 => ?_) (fun h314 => ?_)
      · refine r_goto 1797 dL_law_329 (by decide) ?_
        exact m_sub (next M2 L2 dd R2 hJ2) (by simp [a_sub])
      · have q2 := y5 h314
        refine r_aload_n dL_law_317 rfl ?_
        refine r_iconst_0 dL_law_318 ?_
        refine m_lald 0 dL_law_319 al_out rfl (by omega) (by first | decide | assumption) ?_
        refine r_iload dL_law_320 rfl ?_
        refine r_i2l dL_law_322 ?_
        refine r_lcmp dL_law_323 ?_
        refine r_if_eq 329 dL_law_324 (by decide) (fun _ => ?_) (fun z => absurd (lg_eq0.mpr q2) z)
        refine r_goto 1797 dL_law_329 (by decide) ?_
        exact m_sub (next M2 L2 dd R2 hJ2) (by simp [a_sub])
    · rintro E h3 ⟨x, M2, L2, e8, rfl, rfl, y⟩
      cases e8
  · rintro E h2 ⟨M1, L1, e9, rfl, x2⟩
    cases e9
end BLOCKS4
