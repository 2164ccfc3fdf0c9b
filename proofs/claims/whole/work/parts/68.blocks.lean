/-! THE LAW'S BLOCKS -/
theorem mh_g {M M1 : Nat → Nat → Int32} {R : List Row} (h : Gx M M1) (hR : MH M R) : MH M1 R := ⟨hR.1, by rw [h 317 (by decide)]; exact hR.2.1, fun r b hb t ht => by rw [h 321 (by decide)]; exact hR.2.2 r b hb t ht⟩
section BLOCKS
variable {LL j uc us : Nat} {xs : Nat → Int32} {M : Nat → Nat → Int32} {L : Nat → Nat → Int64} {dd : UInt64} {R : List Row} {Q : a_Q}
def BNext (LL : Nat) (xs : Nat → Int32) (j uc us : Nat) (Q : a_Q) : Prop := ∀ (M' : Nat → Nat → Int32) (L' : Nat → Nat → Int64) (dd' : UInt64) (R' : List Row), J M' R' → AW (I_L_law LL xs) 1797 [.ref 5000, .ref 0, .ref 317, .ref 325, .ref 326, .int (nI j), .null, .null, .null] [] (hS M' L' dd') uc us Q
theorem b_count (hJ : J M R) (hb : ∀ k : Nat, 1 ≤ k → k ≤ 5 → vp_in (nI j + nI k) LL) (hu : uc + 7 ≤ 601024) (hv : us + 42 ≤ 7293034) (next : BNext LL xs j (uc + 7) (us + 42) Q) : AW (I_L_law LL xs) 345 [.ref 5000, .ref 0, .ref 317, .ref 325, .ref 326, .int (nI j), .null, .null, .null] [] (hS M L dd) uc us Q := by
  have hW := hJ.1.1
  have hV := hJ.1.2
  have hC := hJ.2.2.1
  refine r_aload_n dL_law_345 rfl ?_
  refine r_aload_n dL_law_346 rfl ?_
  refine r_iload dL_law_347 rfl ?_
  refine r_iconst_1 dL_law_349 ?_
  refine r_iadd dL_law_350 ?_
  refine r_sald dL_law_351 rfl (hb 1 (by decide) (by decide)) ?_
  refine r_aload_n dL_law_352 rfl ?_
  refine m_lw (As := [.ref 0, .int (xs (nI j + 1).toNatClampNeg), .ref 325]) dL_law_353 cs_L_118 (w_count ht_count (fun _ => hv_eq) (c_X9_count hC hW)) rfl (Nat.le_of_ble_eq_true rfl) (Nat.le_of_ble_eq_true rfl) (Nat.le_of_ble_eq_true rfl) (Nat.le_of_ble_eq_true rfl) (Nat.le_of_ble_eq_true rfl) hu hv rfl (fun M1 L1 x1 x2 => ?_)
  have hA1 : M1 318 = M 318 := x1 318 (by decide)
  have hR1 : MH M1 R := mh_g x1 hJ.2.2.2.1
  refine s_istore dL_law_356 (Nat.le_of_ble_eq_true rfl) rfl ?_
  refine r_aload_n dL_law_358 rfl ?_
  refine r_aload_n dL_law_359 rfl ?_
  refine r_iload dL_law_360 rfl ?_
  refine r_iconst_1 dL_law_362 ?_
  refine r_iadd dL_law_363 ?_
  refine r_sald dL_law_364 rfl (hb 1 (by decide) (by decide)) ?_
  refine m_lm (As := [.int (xs (nI j + 1).toNatClampNeg)]) dL_law_365 cv_L_120 (c_X10_count hA1 hR1 hW) rfl ob_model ⟨_, rfl, rfl⟩ ⟨rfl, rfl⟩ (Nat.le_of_ble_eq_true rfl) (Nat.le_of_ble_eq_true rfl) (Nat.le_of_ble_eq_true rfl) hu hv (fun x M2 y0 y1 y2 y3 y4 y5 => ?_)
  obtain ⟨v, rfl⟩ := tr_int y0
  obtain ⟨R2, hJ2⟩ := j_step hJ rfl x1 y3 (x2.imp (fun z => ⟨z.1, z.2.2⟩) id) y4 y5 (fun z => ⟨hJ.1, hJ.2.1⟩)
  refine s_istore dL_law_368 (Nat.le_of_ble_eq_true rfl) rfl ?_
  refine r_aload_n dL_law_370 rfl ?_
  refine m_cv0 dL_law_371 cv_L_107 (c_X10_thrown) rfl ob_model ⟨_, rfl, rfl⟩ ⟨rfl, rfl⟩ (Nat.le_of_ble_eq_true rfl) (Nat.le_of_ble_eq_true rfl) (Nat.le_of_ble_eq_true rfl) ?_
  refine r_iload dL_law_374 rfl ?_
  rw [y1]
  refine r_icmp_eq 381 dL_law_376 (by decide) (fun _ => ?_) (fun z => absurd rfl z)
  refine r_iload dL_law_381 rfl ?_
  refine r_if_ne 398 dL_law_383 (by decide) (fun h383 => ?_) (fun h383 => ?_)
  · refine r_goto 1797 dL_law_398 (by decide) ?_
    exact m_sub (next M2 L1 dd R2 hJ2) (by simp [a_sub])
  · have q1 := y2 h383
    have q3 := Value.int.inj q1
    have q2 := x2.elim (fun z => z.2.1 _ (fun _ h => h)) (fun z => absurd h383 z.1)
    refine r_aload_n dL_law_386 rfl ?_
    refine r_iconst_0 dL_law_387 ?_
    refine m_lald 0 dL_law_388 al_out rfl (by omega) (by first | decide | assumption) ?_
    refine r_iload dL_law_389 rfl ?_
    refine r_i2l dL_law_391 ?_
    refine r_lcmp dL_law_392 ?_
    refine r_if_eq 398 dL_law_393 (by decide) (fun _ => ?_) (fun z => absurd (lg_eq0.mpr (by rw [q2, q3])) z)
    refine r_goto 1797 dL_law_398 (by decide) ?_
    exact m_sub (next M2 L1 dd R2 hJ2) (by simp [a_sub])
theorem b_user (hJ : J M R) (hb : ∀ k : Nat, 1 ≤ k → k ≤ 5 → vp_in (nI j + nI k) LL) (hu : uc + 7 ≤ 601024) (hv : us + 42 ≤ 7293034) (next : BNext LL xs j (uc + 7) (us + 42) Q) : AW (I_L_law LL xs) 401 [.ref 5000, .ref 0, .ref 317, .ref 325, .ref 326, .int (nI j), .null, .null, .null] [] (hS M L dd) uc us Q := by
  have hW := hJ.1.1
  have hV := hJ.1.2
  have hC := hJ.2.2.1
  refine r_aload_n dL_law_401 rfl ?_
  refine r_aload_n dL_law_402 rfl ?_
  refine r_iload dL_law_403 rfl ?_
  refine r_iconst_1 dL_law_405 ?_
  refine r_iadd dL_law_406 ?_
  refine r_sald dL_law_407 rfl (hb 1 (by decide) (by decide)) ?_
  refine r_aload_n dL_law_408 rfl ?_
  refine r_iload dL_law_409 rfl ?_
  refine r_iconst_2 dL_law_411 ?_
  refine r_iadd dL_law_412 ?_
  refine r_sald dL_law_413 rfl (hb 2 (by decide) (by decide)) ?_
  refine r_aload_n dL_law_414 rfl ?_
  refine m_lw (As := [.ref 0, .int (xs (nI j + 1).toNatClampNeg), .int (xs (nI j + 2).toNatClampNeg), .ref 325]) dL_law_415 cs_L_121 (w_user ht_user (fun z => hv_user hW z) (c_X9_user hC hW)) rfl (Nat.le_of_ble_eq_true rfl) (Nat.le_of_ble_eq_true rfl) (Nat.le_of_ble_eq_true rfl) (Nat.le_of_ble_eq_true rfl) (Nat.le_of_ble_eq_true rfl) hu hv rfl (fun M1 L1 x1 x2 => ?_)
  have hA1 : M1 318 = M 318 := x1 318 (by decide)
  have hR1 : MH M1 R := mh_g x1 hJ.2.2.2.1
  refine s_istore dL_law_418 (Nat.le_of_ble_eq_true rfl) rfl ?_
  refine r_aload_n dL_law_420 rfl ?_
  refine r_aload_n dL_law_421 rfl ?_
  refine r_iload dL_law_422 rfl ?_
  refine r_iconst_1 dL_law_424 ?_
  refine r_iadd dL_law_425 ?_
  refine r_sald dL_law_426 rfl (hb 1 (by decide) (by decide)) ?_
  refine r_aload_n dL_law_427 rfl ?_
  refine r_iload dL_law_428 rfl ?_
  refine r_iconst_2 dL_law_430 ?_
  refine r_iadd dL_law_431 ?_
  refine r_sald dL_law_432 rfl (hb 2 (by decide) (by decide)) ?_
  refine m_lm (As := [.int (xs (nI j + 1).toNatClampNeg), .int (xs (nI j + 2).toNatClampNeg)]) dL_law_433 cv_L_124 (c_X10_user hA1 hR1 hW) rfl ob_model ⟨_, rfl, rfl⟩ ⟨rfl, rfl⟩ (Nat.le_of_ble_eq_true rfl) (Nat.le_of_ble_eq_true rfl) (Nat.le_of_ble_eq_true rfl) hu hv (fun x M2 y0 y1 y2 y3 y4 y5 => ?_)
  obtain ⟨v, rfl⟩ := tr_int y0
  obtain ⟨R2, hJ2⟩ := j_step hJ rfl x1 y3 (x2.imp (fun z => ⟨z.1, z.2.2⟩) id) y4 y5 (fun z => ⟨hJ.1, hJ.2.1⟩)
  refine s_istore dL_law_436 (Nat.le_of_ble_eq_true rfl) rfl ?_
  refine r_aload_n dL_law_438 rfl ?_
  refine m_cv0 dL_law_439 cv_L_107 (c_X10_thrown) rfl ob_model ⟨_, rfl, rfl⟩ ⟨rfl, rfl⟩ (Nat.le_of_ble_eq_true rfl) (Nat.le_of_ble_eq_true rfl) (Nat.le_of_ble_eq_true rfl) ?_
  refine r_iload dL_law_442 rfl ?_
  rw [y1]
  refine r_icmp_eq 449 dL_law_444 (by decide) (fun _ => ?_) (fun z => absurd rfl z)
  refine r_iload dL_law_449 rfl ?_
  refine r_if_ne 466 dL_law_451 (by decide) (fun h451 => ?_) (fun h451 => ?_)
  · refine r_goto 1797 dL_law_466 (by decide) ?_
    exact m_sub (next M2 L1 dd R2 hJ2) (by simp [a_sub])
  · obtain ⟨e, he⟩ := (fun z => hv_user hW z) h451
    have q1 := he _ (y2 h451)
    have q3 := Value.int.inj q1
    have q2 := x2.elim (fun z => z.2.1 _ he) (fun z => absurd h451 z.1)
    refine r_aload_n dL_law_454 rfl ?_
    refine r_iconst_0 dL_law_455 ?_
    refine m_lald 0 dL_law_456 al_out rfl (by omega) (by first | decide | assumption) ?_
    refine r_iload dL_law_457 rfl ?_
    refine r_i2l dL_law_459 ?_
    refine r_lcmp dL_law_460 ?_
    refine r_if_eq 466 dL_law_461 (by decide) (fun _ => ?_) (fun z => absurd (lg_eq0.mpr (by rw [q2, q3])) z)
    refine r_goto 1797 dL_law_466 (by decide) ?_
    exact m_sub (next M2 L1 dd R2 hJ2) (by simp [a_sub])
theorem b_addUser (hJ : J M R) (hb : ∀ k : Nat, 1 ≤ k → k ≤ 5 → vp_in (nI j + nI k) LL) (hu : uc + 7 ≤ 601024) (hv : us + 42 ≤ 7293034) (next : BNext LL xs j (uc + 7) (us + 42) Q) : AW (I_L_law LL xs) 469 [.ref 5000, .ref 0, .ref 317, .ref 325, .ref 326, .int (nI j), .null, .null, .null] [] (hS M L dd) uc us Q := by
  have hW := hJ.1.1
  have hV := hJ.1.2
  have hC := hJ.2.2.1
  refine r_aload_n dL_law_469 rfl ?_
  refine r_aload_n dL_law_470 rfl ?_
  refine r_iload dL_law_471 rfl ?_
  refine r_iconst_1 dL_law_473 ?_
  refine r_iadd dL_law_474 ?_
  refine r_sald dL_law_475 rfl (hb 1 (by decide) (by decide)) ?_
  refine r_aload_n dL_law_476 rfl ?_
  refine r_iload dL_law_477 rfl ?_
  refine r_iconst_2 dL_law_479 ?_
  refine r_iadd dL_law_480 ?_
  refine r_sald dL_law_481 rfl (hb 2 (by decide) (by decide)) ?_
  refine r_aload_n dL_law_482 rfl ?_
  refine m_lw (As := [.ref 0, .int (xs (nI j + 1).toNatClampNeg), .int (xs (nI j + 2).toNatClampNeg), .ref 325]) dL_law_483 cs_L_125 (w_addUser ht_addUser (fun _ => hv_eq) (c_X9_addUser hC hW)) rfl (Nat.le_of_ble_eq_true rfl) (Nat.le_of_ble_eq_true rfl) (Nat.le_of_ble_eq_true rfl) (Nat.le_of_ble_eq_true rfl) (Nat.le_of_ble_eq_true rfl) hu hv rfl (fun M1 L1 x1 x2 => ?_)
  have hA1 : M1 318 = M 318 := x1 318 (by decide)
  have hR1 : MH M1 R := mh_g x1 hJ.2.2.2.1
  refine s_istore dL_law_486 (Nat.le_of_ble_eq_true rfl) rfl ?_
  refine r_aload_n dL_law_488 rfl ?_
  refine r_aload_n dL_law_489 rfl ?_
  refine r_iload dL_law_490 rfl ?_
  refine r_iconst_1 dL_law_492 ?_
  refine r_iadd dL_law_493 ?_
  refine r_sald dL_law_494 rfl (hb 1 (by decide) (by decide)) ?_
  refine r_aload_n dL_law_495 rfl ?_
  refine r_iload dL_law_496 rfl ?_
  refine r_iconst_2 dL_law_498 ?_
  refine r_iadd dL_law_499 ?_
  refine r_sald dL_law_500 rfl (hb 2 (by decide) (by decide)) ?_
  refine m_lm (As := [.int (xs (nI j + 1).toNatClampNeg), .int (xs (nI j + 2).toNatClampNeg)]) dL_law_501 cv_L_127 (c_X10_addUser hA1 hR1 hW) rfl ob_model ⟨_, rfl, rfl⟩ ⟨rfl, rfl⟩ (Nat.le_of_ble_eq_true rfl) (Nat.le_of_ble_eq_true rfl) (Nat.le_of_ble_eq_true rfl) hu hv (fun x M2 y0 y1 y2 y3 y4 y5 => ?_)
  obtain ⟨v, rfl⟩ := tr_int y0
  obtain ⟨R2, hJ2⟩ := j_step hJ rfl x1 y3 (x2.imp (fun z => ⟨z.1, z.2.2⟩) id) y4 y5 (fun z => ⟨ok_addUser hJ.1 z, fun b hb => ok_push hJ.2.1 hJ.1 hb⟩)
  refine s_istore dL_law_504 (Nat.le_of_ble_eq_true rfl) rfl ?_
  refine r_aload_n dL_law_506 rfl ?_
  refine m_cv0 dL_law_507 cv_L_107 (c_X10_thrown) rfl ob_model ⟨_, rfl, rfl⟩ ⟨rfl, rfl⟩ (Nat.le_of_ble_eq_true rfl) (Nat.le_of_ble_eq_true rfl) (Nat.le_of_ble_eq_true rfl) ?_
  refine r_iload dL_law_510 rfl ?_
  rw [y1]
  refine r_icmp_eq 517 dL_law_512 (by decide) (fun _ => ?_) (fun z => absurd rfl z)
  refine r_iload dL_law_517 rfl ?_
  refine r_if_ne 534 dL_law_519 (by decide) (fun h519 => ?_) (fun h519 => ?_)
  · refine r_goto 1797 dL_law_534 (by decide) ?_
    exact m_sub (next M2 L1 dd R2 hJ2) (by simp [a_sub])
  · have q1 := y2 h519
    have q3 := Value.int.inj q1
    have q2 := x2.elim (fun z => z.2.1 _ (fun _ h => h)) (fun z => absurd h519 z.1)
    refine r_aload_n dL_law_522 rfl ?_
    refine r_iconst_0 dL_law_523 ?_
    refine m_lald 0 dL_law_524 al_out rfl (by omega) (by first | decide | assumption) ?_
    refine r_iload dL_law_525 rfl ?_
    refine r_i2l dL_law_527 ?_
    refine r_lcmp dL_law_528 ?_
    refine r_if_eq 534 dL_law_529 (by decide) (fun _ => ?_) (fun z => absurd (lg_eq0.mpr (by rw [q2, q3])) z)
    refine r_goto 1797 dL_law_534 (by decide) ?_
    exact m_sub (next M2 L1 dd R2 hJ2) (by simp [a_sub])
theorem b_setShares (hJ : J M R) (hb : ∀ k : Nat, 1 ≤ k → k ≤ 5 → vp_in (nI j + nI k) LL) (hu : uc + 7 ≤ 601024) (hv : us + 42 ≤ 7293034) (next : BNext LL xs j (uc + 7) (us + 42) Q) : AW (I_L_law LL xs) 537 [.ref 5000, .ref 0, .ref 317, .ref 325, .ref 326, .int (nI j), .null, .null, .null] [] (hS M L dd) uc us Q := by
  have hW := hJ.1.1
  have hV := hJ.1.2
  have hC := hJ.2.2.1
  refine r_aload_n dL_law_537 rfl ?_
  refine r_aload_n dL_law_538 rfl ?_
  refine r_iload dL_law_539 rfl ?_
  refine r_iconst_1 dL_law_541 ?_
  refine r_iadd dL_law_542 ?_
  refine r_sald dL_law_543 rfl (hb 1 (by decide) (by decide)) ?_
  refine r_aload_n dL_law_544 rfl ?_
  refine r_iload dL_law_545 rfl ?_
  refine r_iconst_2 dL_law_547 ?_
  refine r_iadd dL_law_548 ?_
  refine r_sald dL_law_549 rfl (hb 2 (by decide) (by decide)) ?_
  refine r_aload_n dL_law_550 rfl ?_
  refine m_lw (As := [.ref 0, .int (xs (nI j + 1).toNatClampNeg), .int (xs (nI j + 2).toNatClampNeg), .ref 325]) dL_law_551 cs_L_128 (w_setShares ht_setShares (fun z => hv_setShares hW z) (c_X9_setShares hC hW)) rfl (Nat.le_of_ble_eq_true rfl) (Nat.le_of_ble_eq_true rfl) (Nat.le_of_ble_eq_true rfl) (Nat.le_of_ble_eq_true rfl) (Nat.le_of_ble_eq_true rfl) hu hv rfl (fun M1 L1 x1 x2 => ?_)
  have hA1 : M1 318 = M 318 := x1 318 (by decide)
  have hR1 : MH M1 R := mh_g x1 hJ.2.2.2.1
  refine s_istore dL_law_554 (Nat.le_of_ble_eq_true rfl) rfl ?_
  refine r_aload_n dL_law_556 rfl ?_
  refine r_aload_n dL_law_557 rfl ?_
  refine r_iload dL_law_558 rfl ?_
  refine r_iconst_1 dL_law_560 ?_
  refine r_iadd dL_law_561 ?_
  refine r_sald dL_law_562 rfl (hb 1 (by decide) (by decide)) ?_
  refine r_aload_n dL_law_563 rfl ?_
  refine r_iload dL_law_564 rfl ?_
  refine r_iconst_2 dL_law_566 ?_
  refine r_iadd dL_law_567 ?_
  refine r_sald dL_law_568 rfl (hb 2 (by decide) (by decide)) ?_
  refine m_lm (As := [.int (xs (nI j + 1).toNatClampNeg), .int (xs (nI j + 2).toNatClampNeg)]) dL_law_569 cv_L_130 (c_X10_setShares hA1 hR1 hW) rfl ob_model ⟨_, rfl, rfl⟩ ⟨rfl, rfl⟩ (Nat.le_of_ble_eq_true rfl) (Nat.le_of_ble_eq_true rfl) (Nat.le_of_ble_eq_true rfl) hu hv (fun x M2 y0 y1 y2 y3 y4 y5 => ?_)
  obtain ⟨v, rfl⟩ := tr_int y0
  obtain ⟨R2, hJ2⟩ := j_step hJ rfl x1 y3 (x2.imp (fun z => ⟨z.1, z.2.2⟩) id) y4 y5 (fun z => ⟨ok_setShares hJ.1 z, fun b hb => ok_push hJ.2.1 hJ.1 hb⟩)
  refine s_istore dL_law_572 (Nat.le_of_ble_eq_true rfl) rfl ?_
  refine r_aload_n dL_law_574 rfl ?_
  refine m_cv0 dL_law_575 cv_L_107 (c_X10_thrown) rfl ob_model ⟨_, rfl, rfl⟩ ⟨rfl, rfl⟩ (Nat.le_of_ble_eq_true rfl) (Nat.le_of_ble_eq_true rfl) (Nat.le_of_ble_eq_true rfl) ?_
  refine r_iload dL_law_578 rfl ?_
  rw [y1]
  refine r_icmp_eq 585 dL_law_580 (by decide) (fun _ => ?_) (fun z => absurd rfl z)
  refine r_iload dL_law_585 rfl ?_
  refine r_if_ne 602 dL_law_587 (by decide) (fun h587 => ?_) (fun h587 => ?_)
  · refine r_goto 1797 dL_law_602 (by decide) ?_
    exact m_sub (next M2 L1 dd R2 hJ2) (by simp [a_sub])
  · obtain ⟨e, he⟩ := (fun z => hv_setShares hW z) h587
    have q1 := he _ (y2 h587)
    have q3 := Value.int.inj q1
    have q2 := x2.elim (fun z => z.2.1 _ he) (fun z => absurd h587 z.1)
    refine r_aload_n dL_law_590 rfl ?_
    refine r_iconst_0 dL_law_591 ?_
    refine m_lald 0 dL_law_592 al_out rfl (by omega) (by first | decide | assumption) ?_
    refine r_iload dL_law_593 rfl ?_
    refine r_i2l dL_law_595 ?_
    refine r_lcmp dL_law_596 ?_
    refine r_if_eq 602 dL_law_597 (by decide) (fun _ => ?_) (fun z => absurd (lg_eq0.mpr (by rw [q2, q3])) z)
    refine r_goto 1797 dL_law_602 (by decide) ?_
    exact m_sub (next M2 L1 dd R2 hJ2) (by simp [a_sub])
theorem b_lend (hJ : J M R) (hb : ∀ k : Nat, 1 ≤ k → k ≤ 5 → vp_in (nI j + nI k) LL) (hu : uc + 7 ≤ 601024) (hv : us + 42 ≤ 7293034) (next : BNext LL xs j (uc + 7) (us + 42) Q) : AW (I_L_law LL xs) 605 [.ref 5000, .ref 0, .ref 317, .ref 325, .ref 326, .int (nI j), .null, .null, .null] [] (hS M L dd) uc us Q := by
  have hW := hJ.1.1
  have hV := hJ.1.2
  have hC := hJ.2.2.1
  refine r_aload_n dL_law_605 rfl ?_
  refine r_aload_n dL_law_606 rfl ?_
  refine r_iload dL_law_607 rfl ?_
  refine r_iconst_1 dL_law_609 ?_
  refine r_iadd dL_law_610 ?_
  refine r_sald dL_law_611 rfl (hb 1 (by decide) (by decide)) ?_
  refine r_aload_n dL_law_612 rfl ?_
  refine r_iload dL_law_613 rfl ?_
  refine r_iconst_2 dL_law_615 ?_
  refine r_iadd dL_law_616 ?_
  refine r_sald dL_law_617 rfl (hb 2 (by decide) (by decide)) ?_
  refine r_aload_n dL_law_618 rfl ?_
  refine r_iload dL_law_619 rfl ?_
  refine r_iconst_3 dL_law_621 ?_
  refine r_iadd dL_law_622 ?_
  refine r_sald dL_law_623 rfl (hb 3 (by decide) (by decide)) ?_
  refine r_aload_n dL_law_624 rfl ?_
  refine r_iload dL_law_625 rfl ?_
  refine r_iconst_4 dL_law_627 ?_
  refine r_iadd dL_law_628 ?_
  refine r_sald dL_law_629 rfl (hb 4 (by decide) (by decide)) ?_
  refine r_aload_n dL_law_630 rfl ?_
  refine m_lw (As := [.ref 0, .int (xs (nI j + 1).toNatClampNeg), .int (xs (nI j + 2).toNatClampNeg), .int (xs (nI j + 3).toNatClampNeg), .int (xs (nI j + 4).toNatClampNeg), .ref 325]) dL_law_631 cs_L_131 (w_lend ht_lend (fun _ => hv_eq) (c_X9_lend hC hW)) rfl (Nat.le_of_ble_eq_true rfl) (Nat.le_of_ble_eq_true rfl) (Nat.le_of_ble_eq_true rfl) (Nat.le_of_ble_eq_true rfl) (Nat.le_of_ble_eq_true rfl) hu hv rfl (fun M1 L1 x1 x2 => ?_)
  have hA1 : M1 318 = M 318 := x1 318 (by decide)
  have hR1 : MH M1 R := mh_g x1 hJ.2.2.2.1
  refine s_istore dL_law_634 (Nat.le_of_ble_eq_true rfl) rfl ?_
  refine r_aload_n dL_law_636 rfl ?_
  refine r_aload_n dL_law_637 rfl ?_
  refine r_iload dL_law_638 rfl ?_
  refine r_iconst_1 dL_law_640 ?_
  refine r_iadd dL_law_641 ?_
  refine r_sald dL_law_642 rfl (hb 1 (by decide) (by decide)) ?_
  refine r_aload_n dL_law_643 rfl ?_
  refine r_iload dL_law_644 rfl ?_
  refine r_iconst_2 dL_law_646 ?_
  refine r_iadd dL_law_647 ?_
  refine r_sald dL_law_648 rfl (hb 2 (by decide) (by decide)) ?_
  refine r_aload_n dL_law_649 rfl ?_
  refine r_iload dL_law_650 rfl ?_
  refine r_iconst_3 dL_law_652 ?_
  refine r_iadd dL_law_653 ?_
  refine r_sald dL_law_654 rfl (hb 3 (by decide) (by decide)) ?_
  refine r_aload_n dL_law_655 rfl ?_
  refine r_iload dL_law_656 rfl ?_
  refine r_iconst_4 dL_law_658 ?_
  refine r_iadd dL_law_659 ?_
  refine r_sald dL_law_660 rfl (hb 4 (by decide) (by decide)) ?_
  refine m_lm (As := [.int (xs (nI j + 1).toNatClampNeg), .int (xs (nI j + 2).toNatClampNeg), .int (xs (nI j + 3).toNatClampNeg), .int (xs (nI j + 4).toNatClampNeg)]) dL_law_661 cv_L_134 (c_X10_lend hA1 hR1 hW) rfl ob_model ⟨_, rfl, rfl⟩ ⟨rfl, rfl⟩ (Nat.le_of_ble_eq_true rfl) (Nat.le_of_ble_eq_true rfl) (Nat.le_of_ble_eq_true rfl) hu hv (fun x M2 y0 y1 y2 y3 y4 y5 => ?_)
  obtain ⟨v, rfl⟩ := tr_int y0
  obtain ⟨R2, hJ2⟩ := j_step hJ rfl x1 y3 (x2.imp (fun z => ⟨z.1, z.2.2⟩) id) y4 y5 (fun z => ⟨ok_lend hJ.1 z, fun b hb => ok_push hJ.2.1 hJ.1 hb⟩)
  refine s_istore dL_law_664 (Nat.le_of_ble_eq_true rfl) rfl ?_
  refine r_aload_n dL_law_666 rfl ?_
  refine m_cv0 dL_law_667 cv_L_107 (c_X10_thrown) rfl ob_model ⟨_, rfl, rfl⟩ ⟨rfl, rfl⟩ (Nat.le_of_ble_eq_true rfl) (Nat.le_of_ble_eq_true rfl) (Nat.le_of_ble_eq_true rfl) ?_
  refine r_iload dL_law_670 rfl ?_
  rw [y1]
  refine r_icmp_eq 677 dL_law_672 (by decide) (fun _ => ?_) (fun z => absurd rfl z)
  refine r_iload dL_law_677 rfl ?_
  refine r_if_ne 694 dL_law_679 (by decide) (fun h679 => ?_) (fun h679 => ?_)
  · refine r_goto 1797 dL_law_694 (by decide) ?_
    exact m_sub (next M2 L1 dd R2 hJ2) (by simp [a_sub])
  · have q1 := y2 h679
    have q3 := Value.int.inj q1
    have q2 := x2.elim (fun z => z.2.1 _ (fun _ h => h)) (fun z => absurd h679 z.1)
    refine r_aload_n dL_law_682 rfl ?_
    refine r_iconst_0 dL_law_683 ?_
    refine m_lald 0 dL_law_684 al_out rfl (by omega) (by first | decide | assumption) ?_
    refine r_iload dL_law_685 rfl ?_
    refine r_i2l dL_law_687 ?_
    refine r_lcmp dL_law_688 ?_
    refine r_if_eq 694 dL_law_689 (by decide) (fun _ => ?_) (fun z => absurd (lg_eq0.mpr (by rw [q2, q3])) z)
    refine r_goto 1797 dL_law_694 (by decide) ?_
    exact m_sub (next M2 L1 dd R2 hJ2) (by simp [a_sub])
theorem b_loan (hJ : J M R) (hb : ∀ k : Nat, 1 ≤ k → k ≤ 5 → vp_in (nI j + nI k) LL) (hu : uc + 7 ≤ 601024) (hv : us + 42 ≤ 7293034) (next : BNext LL xs j (uc + 7) (us + 42) Q) : AW (I_L_law LL xs) 697 [.ref 5000, .ref 0, .ref 317, .ref 325, .ref 326, .int (nI j), .null, .null, .null] [] (hS M L dd) uc us Q := by
  have hW := hJ.1.1
  have hV := hJ.1.2
  have hC := hJ.2.2.1
  refine r_aload_n dL_law_697 rfl ?_
  refine r_aload_n dL_law_698 rfl ?_
  refine r_iload dL_law_699 rfl ?_
  refine r_iconst_1 dL_law_701 ?_
  refine r_iadd dL_law_702 ?_
  refine r_sald dL_law_703 rfl (hb 1 (by decide) (by decide)) ?_
  refine r_aload_n dL_law_704 rfl ?_
  refine r_iload dL_law_705 rfl ?_
  refine r_iconst_2 dL_law_707 ?_
  refine r_iadd dL_law_708 ?_
  refine r_sald dL_law_709 rfl (hb 2 (by decide) (by decide)) ?_
  refine r_aload_n dL_law_710 rfl ?_
  refine m_lw (As := [.ref 0, .int (xs (nI j + 1).toNatClampNeg), .int (xs (nI j + 2).toNatClampNeg), .ref 325]) dL_law_711 cs_L_135 (w_loan ht_loan (fun z => hv_loan hW z) (c_X9_loan hC hW)) rfl (Nat.le_of_ble_eq_true rfl) (Nat.le_of_ble_eq_true rfl) (Nat.le_of_ble_eq_true rfl) (Nat.le_of_ble_eq_true rfl) (Nat.le_of_ble_eq_true rfl) hu hv rfl (fun M1 L1 x1 x2 => ?_)
  have hA1 : M1 318 = M 318 := x1 318 (by decide)
  have hR1 : MH M1 R := mh_g x1 hJ.2.2.2.1
  refine s_istore dL_law_714 (Nat.le_of_ble_eq_true rfl) rfl ?_
  refine r_aload_n dL_law_716 rfl ?_
  refine r_aload_n dL_law_717 rfl ?_
  refine r_iload dL_law_718 rfl ?_
  refine r_iconst_1 dL_law_720 ?_
  refine r_iadd dL_law_721 ?_
  refine r_sald dL_law_722 rfl (hb 1 (by decide) (by decide)) ?_
  refine r_aload_n dL_law_723 rfl ?_
  refine r_iload dL_law_724 rfl ?_
  refine r_iconst_2 dL_law_726 ?_
  refine r_iadd dL_law_727 ?_
  refine r_sald dL_law_728 rfl (hb 2 (by decide) (by decide)) ?_
  refine m_lm (As := [.int (xs (nI j + 1).toNatClampNeg), .int (xs (nI j + 2).toNatClampNeg)]) dL_law_729 cv_L_137 (c_X10_loan hA1 hR1 hW) rfl ob_model ⟨_, rfl, rfl⟩ ⟨rfl, rfl⟩ (Nat.le_of_ble_eq_true rfl) (Nat.le_of_ble_eq_true rfl) (Nat.le_of_ble_eq_true rfl) hu hv (fun x M2 y0 y1 y2 y3 y4 y5 => ?_)
  obtain ⟨v, rfl⟩ := tr_int y0
  obtain ⟨R2, hJ2⟩ := j_step hJ rfl x1 y3 (x2.imp (fun z => ⟨z.1, z.2.2⟩) id) y4 y5 (fun z => ⟨hJ.1, hJ.2.1⟩)
  refine s_istore dL_law_732 (Nat.le_of_ble_eq_true rfl) rfl ?_
  refine r_aload_n dL_law_734 rfl ?_
  refine m_cv0 dL_law_735 cv_L_107 (c_X10_thrown) rfl ob_model ⟨_, rfl, rfl⟩ ⟨rfl, rfl⟩ (Nat.le_of_ble_eq_true rfl) (Nat.le_of_ble_eq_true rfl) (Nat.le_of_ble_eq_true rfl) ?_
  refine r_iload dL_law_738 rfl ?_
  rw [y1]
  refine r_icmp_eq 745 dL_law_740 (by decide) (fun _ => ?_) (fun z => absurd rfl z)
  refine r_iload dL_law_745 rfl ?_
  refine r_if_ne 762 dL_law_747 (by decide) (fun h747 => ?_) (fun h747 => ?_)
  · refine r_goto 1797 dL_law_762 (by decide) ?_
    exact m_sub (next M2 L1 dd R2 hJ2) (by simp [a_sub])
  · obtain ⟨e, he⟩ := (fun z => hv_loan hW z) h747
    have q1 := he _ (y2 h747)
    have q3 := Value.int.inj q1
    have q2 := x2.elim (fun z => z.2.1 _ he) (fun z => absurd h747 z.1)
    refine r_aload_n dL_law_750 rfl ?_
    refine r_iconst_0 dL_law_751 ?_
    refine m_lald 0 dL_law_752 al_out rfl (by omega) (by first | decide | assumption) ?_
    refine r_iload dL_law_753 rfl ?_
    refine r_i2l dL_law_755 ?_
    refine r_lcmp dL_law_756 ?_
    refine r_if_eq 762 dL_law_757 (by decide) (fun _ => ?_) (fun z => absurd (lg_eq0.mpr (by rw [q2, q3])) z)
    refine r_goto 1797 dL_law_762 (by decide) ?_
    exact m_sub (next M2 L1 dd R2 hJ2) (by simp [a_sub])
theorem b_balance (hJ : J M R) (hb : ∀ k : Nat, 1 ≤ k → k ≤ 5 → vp_in (nI j + nI k) LL) (hu : uc + 7 ≤ 601024) (hv : us + 42 ≤ 7293034) (next : BNext LL xs j (uc + 7) (us + 42) Q) : AW (I_L_law LL xs) 765 [.ref 5000, .ref 0, .ref 317, .ref 325, .ref 326, .int (nI j), .null, .null, .null] [] (hS M L dd) uc us Q := by
  have hW := hJ.1.1
  have hV := hJ.1.2
  have hC := hJ.2.2.1
  refine r_aload_n dL_law_765 rfl ?_
  refine r_aload_n dL_law_766 rfl ?_
  refine r_iload dL_law_767 rfl ?_
  refine r_iconst_1 dL_law_769 ?_
  refine r_iadd dL_law_770 ?_
  refine r_sald dL_law_771 rfl (hb 1 (by decide) (by decide)) ?_
  refine r_aload_n dL_law_772 rfl ?_
  refine m_lw (As := [.ref 0, .int (xs (nI j + 1).toNatClampNeg), .ref 325]) dL_law_773 cs_L_138 (w_balance ht_balance (fun _ => hv_eq) (c_X9_balance hC hW)) rfl (Nat.le_of_ble_eq_true rfl) (Nat.le_of_ble_eq_true rfl) (Nat.le_of_ble_eq_true rfl) (Nat.le_of_ble_eq_true rfl) (Nat.le_of_ble_eq_true rfl) hu hv rfl (fun M1 L1 x1 x2 => ?_)
  have hA1 : M1 318 = M 318 := x1 318 (by decide)
  have hR1 : MH M1 R := mh_g x1 hJ.2.2.2.1
  refine s_istore dL_law_776 (Nat.le_of_ble_eq_true rfl) rfl ?_
  refine r_aload_n dL_law_778 rfl ?_
  refine r_aload_n dL_law_779 rfl ?_
  refine r_iload dL_law_780 rfl ?_
  refine r_iconst_1 dL_law_782 ?_
  refine r_iadd dL_law_783 ?_
  refine r_sald dL_law_784 rfl (hb 1 (by decide) (by decide)) ?_
  refine m_lm (As := [.int (xs (nI j + 1).toNatClampNeg)]) dL_law_785 cv_L_140 (c_X10_balance hA1 hR1 hW) rfl ob_model ⟨_, rfl, rfl⟩ ⟨rfl, rfl⟩ (Nat.le_of_ble_eq_true rfl) (Nat.le_of_ble_eq_true rfl) (Nat.le_of_ble_eq_true rfl) hu hv (fun x M2 y0 y1 y2 y3 y4 y5 => ?_)
  obtain ⟨v, rfl⟩ := tr_int y0
  obtain ⟨R2, hJ2⟩ := j_step hJ rfl x1 y3 (x2.imp (fun z => ⟨z.1, z.2.2⟩) id) y4 y5 (fun z => ⟨hJ.1, hJ.2.1⟩)
  refine s_istore dL_law_788 (Nat.le_of_ble_eq_true rfl) rfl ?_
  refine r_aload_n dL_law_790 rfl ?_
  refine m_cv0 dL_law_791 cv_L_107 (c_X10_thrown) rfl ob_model ⟨_, rfl, rfl⟩ ⟨rfl, rfl⟩ (Nat.le_of_ble_eq_true rfl) (Nat.le_of_ble_eq_true rfl) (Nat.le_of_ble_eq_true rfl) ?_
  refine r_iload dL_law_794 rfl ?_
  rw [y1]
  refine r_icmp_eq 801 dL_law_796 (by decide) (fun _ => ?_) (fun z => absurd rfl z)
  refine r_iload dL_law_801 rfl ?_
  refine r_if_ne 818 dL_law_803 (by decide) (fun h803 => ?_) (fun h803 => ?_)
  · refine r_goto 1797 dL_law_818 (by decide) ?_
    exact m_sub (next M2 L1 dd R2 hJ2) (by simp [a_sub])
  · have q1 := y2 h803
    have q3 := Value.int.inj q1
    have q2 := x2.elim (fun z => z.2.1 _ (fun _ h => h)) (fun z => absurd h803 z.1)
    refine r_aload_n dL_law_806 rfl ?_
    refine r_iconst_0 dL_law_807 ?_
    refine m_lald 0 dL_law_808 al_out rfl (by omega) (by first | decide | assumption) ?_
    refine r_iload dL_law_809 rfl ?_
    refine r_i2l dL_law_811 ?_
    refine r_lcmp dL_law_812 ?_
    refine r_if_eq 818 dL_law_813 (by decide) (fun _ => ?_) (fun z => absurd (lg_eq0.mpr (by rw [q2, q3])) z)
    refine r_goto 1797 dL_law_818 (by decide) ?_
    exact m_sub (next M2 L1 dd R2 hJ2) (by simp [a_sub])
theorem b_ranked (hJ : J M R) (hb : ∀ k : Nat, 1 ≤ k → k ≤ 5 → vp_in (nI j + nI k) LL) (hu : uc + 7 ≤ 601024) (hv : us + 42 ≤ 7293034) (next : BNext LL xs j (uc + 7) (us + 42) Q) : AW (I_L_law LL xs) 821 [.ref 5000, .ref 0, .ref 317, .ref 325, .ref 326, .int (nI j), .null, .null, .null] [] (hS M L dd) uc us Q := by
  have hW := hJ.1.1
  have hV := hJ.1.2
  have hC := hJ.2.2.1
  refine r_aload_n dL_law_821 rfl ?_
  refine r_aload_n dL_law_822 rfl ?_
  refine r_iload dL_law_823 rfl ?_
  refine r_iconst_1 dL_law_825 ?_
  refine r_iadd dL_law_826 ?_
  refine r_sald dL_law_827 rfl (hb 1 (by decide) (by decide)) ?_
  refine r_aload_n dL_law_828 rfl ?_
  refine m_lw (As := [.ref 0, .int (xs (nI j + 1).toNatClampNeg), .ref 325]) dL_law_829 cs_L_141 (w_ranked ht_ranked (fun _ => hv_eq) (c_X9_ranked hC hW)) rfl (Nat.le_of_ble_eq_true rfl) (Nat.le_of_ble_eq_true rfl) (Nat.le_of_ble_eq_true rfl) (Nat.le_of_ble_eq_true rfl) (Nat.le_of_ble_eq_true rfl) hu hv rfl (fun M1 L1 x1 x2 => ?_)
  have hA1 : M1 318 = M 318 := x1 318 (by decide)
  have hR1 : MH M1 R := mh_g x1 hJ.2.2.2.1
  refine s_istore dL_law_832 (Nat.le_of_ble_eq_true rfl) rfl ?_
  refine r_aload_n dL_law_834 rfl ?_
  refine r_aload_n dL_law_835 rfl ?_
  refine r_iload dL_law_836 rfl ?_
  refine r_iconst_1 dL_law_838 ?_
  refine r_iadd dL_law_839 ?_
  refine r_sald dL_law_840 rfl (hb 1 (by decide) (by decide)) ?_
  refine m_lm (As := [.int (xs (nI j + 1).toNatClampNeg)]) dL_law_841 cv_L_143 (c_X10_ranked hA1 hR1 hW) rfl ob_model ⟨_, rfl, rfl⟩ ⟨rfl, rfl⟩ (Nat.le_of_ble_eq_true rfl) (Nat.le_of_ble_eq_true rfl) (Nat.le_of_ble_eq_true rfl) hu hv (fun x M2 y0 y1 y2 y3 y4 y5 => ?_)
  obtain ⟨v, rfl⟩ := tr_int y0
  obtain ⟨R2, hJ2⟩ := j_step hJ rfl x1 y3 (x2.imp (fun z => ⟨z.1, z.2.2⟩) id) y4 y5 (fun z => ⟨hJ.1, hJ.2.1⟩)
  refine s_istore dL_law_844 (Nat.le_of_ble_eq_true rfl) rfl ?_
  refine r_aload_n dL_law_846 rfl ?_
  refine m_cv0 dL_law_847 cv_L_107 (c_X10_thrown) rfl ob_model ⟨_, rfl, rfl⟩ ⟨rfl, rfl⟩ (Nat.le_of_ble_eq_true rfl) (Nat.le_of_ble_eq_true rfl) (Nat.le_of_ble_eq_true rfl) ?_
  refine r_iload dL_law_850 rfl ?_
  rw [y1]
  refine r_icmp_eq 857 dL_law_852 (by decide) (fun _ => ?_) (fun z => absurd rfl z)
  refine r_iload dL_law_857 rfl ?_
  refine r_if_ne 874 dL_law_859 (by decide) (fun h859 => ?_) (fun h859 => ?_)
  · refine r_goto 1797 dL_law_874 (by decide) ?_
    exact m_sub (next M2 L1 dd R2 hJ2) (by simp [a_sub])
  · have q1 := y2 h859
    have q3 := Value.int.inj q1
    have q2 := x2.elim (fun z => z.2.1 _ (fun _ h => h)) (fun z => absurd h859 z.1)
    refine r_aload_n dL_law_862 rfl ?_
    refine r_iconst_0 dL_law_863 ?_
    refine m_lald 0 dL_law_864 al_out rfl (by omega) (by first | decide | assumption) ?_
    refine r_iload dL_law_865 rfl ?_
    refine r_i2l dL_law_867 ?_
    refine r_lcmp dL_law_868 ?_
    refine r_if_eq 874 dL_law_869 (by decide) (fun _ => ?_) (fun z => absurd (lg_eq0.mpr (by rw [q2, q3])) z)
    refine r_goto 1797 dL_law_874 (by decide) ?_
    exact m_sub (next M2 L1 dd R2 hJ2) (by simp [a_sub])
theorem b_worth (hJ : J M R) (hb : ∀ k : Nat, 1 ≤ k → k ≤ 5 → vp_in (nI j + nI k) LL) (hu : uc + 7 ≤ 601024) (hv : us + 42 ≤ 7293034) (next : BNext LL xs j (uc + 7) (us + 42) Q) : AW (I_L_law LL xs) 877 [.ref 5000, .ref 0, .ref 317, .ref 325, .ref 326, .int (nI j), .null, .null, .null] [] (hS M L dd) uc us Q := by
  have hW := hJ.1.1
  have hV := hJ.1.2
  have hC := hJ.2.2.1
  refine r_aload_n dL_law_877 rfl ?_
  refine r_aload_n dL_law_878 rfl ?_
  refine r_iload dL_law_879 rfl ?_
  refine r_iconst_1 dL_law_881 ?_
  refine r_iadd dL_law_882 ?_
  refine r_sald dL_law_883 rfl (hb 1 (by decide) (by decide)) ?_
  refine r_aload_n dL_law_884 rfl ?_
  refine r_iload dL_law_885 rfl ?_
  refine r_iconst_2 dL_law_887 ?_
  refine r_iadd dL_law_888 ?_
  refine r_sald dL_law_889 rfl (hb 2 (by decide) (by decide)) ?_
  refine r_aload_n dL_law_890 rfl ?_
  refine m_lw (As := [.ref 0, .int (xs (nI j + 1).toNatClampNeg), .int (xs (nI j + 2).toNatClampNeg), .ref 325]) dL_law_891 cs_L_144 (w_worth ht_worth (fun z => hv_worth hW z) (c_X9_worth hC hW)) rfl (Nat.le_of_ble_eq_true rfl) (Nat.le_of_ble_eq_true rfl) (Nat.le_of_ble_eq_true rfl) (Nat.le_of_ble_eq_true rfl) (Nat.le_of_ble_eq_true rfl) hu hv rfl (fun M1 L1 x1 x2 => ?_)
  have hA1 : M1 318 = M 318 := x1 318 (by decide)
  have hR1 : MH M1 R := mh_g x1 hJ.2.2.2.1
  refine s_istore dL_law_894 (Nat.le_of_ble_eq_true rfl) rfl ?_
  refine r_aload_n dL_law_896 rfl ?_
  refine r_aload_n dL_law_897 rfl ?_
  refine r_iload dL_law_898 rfl ?_
  refine r_iconst_1 dL_law_900 ?_
  refine r_iadd dL_law_901 ?_
  refine r_sald dL_law_902 rfl (hb 1 (by decide) (by decide)) ?_
  refine r_aload_n dL_law_903 rfl ?_
  refine r_iload dL_law_904 rfl ?_
  refine r_iconst_2 dL_law_906 ?_
  refine r_iadd dL_law_907 ?_
  refine r_sald dL_law_908 rfl (hb 2 (by decide) (by decide)) ?_
  refine m_lm (As := [.int (xs (nI j + 1).toNatClampNeg), .int (xs (nI j + 2).toNatClampNeg)]) dL_law_909 cv_L_146 (c_X10_worth hA1 hR1 hW) rfl ob_model ⟨_, rfl, rfl⟩ ⟨rfl, rfl⟩ (Nat.le_of_ble_eq_true rfl) (Nat.le_of_ble_eq_true rfl) (Nat.le_of_ble_eq_true rfl) hu hv (fun x M2 y0 y1 y2 y3 y4 y5 => ?_)
  obtain ⟨v, rfl⟩ := tr_long y0
  obtain ⟨R2, hJ2⟩ := j_step hJ rfl x1 y3 (x2.imp (fun z => ⟨z.1, z.2.2⟩) id) y4 y5 (fun z => ⟨hJ.1, hJ.2.1⟩)
  refine s_lstore dL_law_912 (Nat.le_of_ble_eq_true rfl) rfl ?_
  refine r_aload_n dL_law_914 rfl ?_
  refine m_cv0 dL_law_915 cv_L_107 (c_X10_thrown) rfl ob_model ⟨_, rfl, rfl⟩ ⟨rfl, rfl⟩ (Nat.le_of_ble_eq_true rfl) (Nat.le_of_ble_eq_true rfl) (Nat.le_of_ble_eq_true rfl) ?_
  refine r_iload dL_law_918 rfl ?_
  rw [y1]
  refine r_icmp_eq 925 dL_law_920 (by decide) (fun _ => ?_) (fun z => absurd rfl z)
  refine r_iload dL_law_925 rfl ?_
  refine r_if_ne 941 dL_law_927 (by decide) (fun h927 => ?_) (fun h927 => ?_)
  · refine r_goto 1797 dL_law_941 (by decide) ?_
    exact m_sub (next M2 L1 dd R2 hJ2) (by simp [a_sub])
  · obtain ⟨e, he⟩ := (fun z => hv_worth hW z) h927
    have q1 := he _ (y2 h927)
    have q3 := Value.long.inj q1
    have q2 := x2.elim (fun z => z.2.1 _ he) (fun z => absurd h927 z.1)
    refine r_aload_n dL_law_930 rfl ?_
    refine r_iconst_0 dL_law_931 ?_
    refine m_lald 0 dL_law_932 al_out rfl (by omega) (by first | decide | assumption) ?_
    refine r_lload dL_law_933 rfl ?_
    refine r_lcmp dL_law_935 ?_
    refine r_if_eq 941 dL_law_936 (by decide) (fun _ => ?_) (fun z => absurd (lg_eq0.mpr (by rw [q2, q3])) z)
    refine r_goto 1797 dL_law_941 (by decide) ?_
    exact m_sub (next M2 L1 dd R2 hJ2) (by simp [a_sub])
theorem b_machine (hJ : J M R) (hb : ∀ k : Nat, 1 ≤ k → k ≤ 5 → vp_in (nI j + nI k) LL) (hu : uc + 7 ≤ 601024) (hv : us + 42 ≤ 7293034) (next : BNext LL xs j (uc + 7) (us + 42) Q) : AW (I_L_law LL xs) 944 [.ref 5000, .ref 0, .ref 317, .ref 325, .ref 326, .int (nI j), .null, .null, .null] [] (hS M L dd) uc us Q := by
  have hW := hJ.1.1
  have hV := hJ.1.2
  have hC := hJ.2.2.1
  refine r_aload_n dL_law_944 rfl ?_
  refine r_aload_n dL_law_945 rfl ?_
  refine r_iload dL_law_946 rfl ?_
  refine r_iconst_1 dL_law_948 ?_
  refine r_iadd dL_law_949 ?_
  refine r_sald dL_law_950 rfl (hb 1 (by decide) (by decide)) ?_
  refine r_aload_n dL_law_951 rfl ?_
  refine r_iload dL_law_952 rfl ?_
  refine r_iconst_2 dL_law_954 ?_
  refine r_iadd dL_law_955 ?_
  refine r_sald dL_law_956 rfl (hb 2 (by decide) (by decide)) ?_
  refine r_aload_n dL_law_957 rfl ?_
  refine m_lw (As := [.ref 0, .int (xs (nI j + 1).toNatClampNeg), .int (xs (nI j + 2).toNatClampNeg), .ref 325]) dL_law_958 cs_L_147 (w_machine ht_machine (fun z => hv_machine hW z) (c_X9_machine hC hW)) rfl (Nat.le_of_ble_eq_true rfl) (Nat.le_of_ble_eq_true rfl) (Nat.le_of_ble_eq_true rfl) (Nat.le_of_ble_eq_true rfl) (Nat.le_of_ble_eq_true rfl) hu hv rfl (fun M1 L1 x1 x2 => ?_)
  have hA1 : M1 318 = M 318 := x1 318 (by decide)
  have hR1 : MH M1 R := mh_g x1 hJ.2.2.2.1
  refine s_istore dL_law_961 (Nat.le_of_ble_eq_true rfl) rfl ?_
  refine r_aload_n dL_law_963 rfl ?_
  refine r_aload_n dL_law_964 rfl ?_
  refine r_iload dL_law_965 rfl ?_
  refine r_iconst_1 dL_law_967 ?_
  refine r_iadd dL_law_968 ?_
  refine r_sald dL_law_969 rfl (hb 1 (by decide) (by decide)) ?_
  refine r_aload_n dL_law_970 rfl ?_
  refine r_iload dL_law_971 rfl ?_
  refine r_iconst_2 dL_law_973 ?_
  refine r_iadd dL_law_974 ?_
  refine r_sald dL_law_975 rfl (hb 2 (by decide) (by decide)) ?_
  refine m_lm (As := [.int (xs (nI j + 1).toNatClampNeg), .int (xs (nI j + 2).toNatClampNeg)]) dL_law_976 cv_L_149 (c_X10_machine hA1 hR1 hW) rfl ob_model ⟨_, rfl, rfl⟩ ⟨rfl, rfl⟩ (Nat.le_of_ble_eq_true rfl) (Nat.le_of_ble_eq_true rfl) (Nat.le_of_ble_eq_true rfl) hu hv (fun x M2 y0 y1 y2 y3 y4 y5 => ?_)
  obtain ⟨v, rfl⟩ := tr_int y0
  obtain ⟨R2, hJ2⟩ := j_step hJ rfl x1 y3 (x2.imp (fun z => ⟨z.1, z.2.2⟩) id) y4 y5 (fun z => ⟨hJ.1, hJ.2.1⟩)
  refine s_istore dL_law_979 (Nat.le_of_ble_eq_true rfl) rfl ?_
  refine r_aload_n dL_law_981 rfl ?_
  refine m_cv0 dL_law_982 cv_L_107 (c_X10_thrown) rfl ob_model ⟨_, rfl, rfl⟩ ⟨rfl, rfl⟩ (Nat.le_of_ble_eq_true rfl) (Nat.le_of_ble_eq_true rfl) (Nat.le_of_ble_eq_true rfl) ?_
  refine r_iload dL_law_985 rfl ?_
  rw [y1]
  refine r_icmp_eq 992 dL_law_987 (by decide) (fun _ => ?_) (fun z => absurd rfl z)
  refine r_iload dL_law_992 rfl ?_
  refine r_if_ne 1009 dL_law_994 (by decide) (fun h994 => ?_) (fun h994 => ?_)
  · refine r_goto 1797 dL_law_1009 (by decide) ?_
    exact m_sub (next M2 L1 dd R2 hJ2) (by simp [a_sub])
  · obtain ⟨e, he⟩ := (fun z => hv_machine hW z) h994
    have q1 := he _ (y2 h994)
    have q3 := Value.int.inj q1
    have q2 := x2.elim (fun z => z.2.1 _ he) (fun z => absurd h994 z.1)
    refine r_aload_n dL_law_997 rfl ?_
    refine r_iconst_0 dL_law_998 ?_
    refine m_lald 0 dL_law_999 al_out rfl (by omega) (by first | decide | assumption) ?_
    refine r_iload dL_law_1000 rfl ?_
    refine r_i2l dL_law_1002 ?_
    refine r_lcmp dL_law_1003 ?_
    refine r_if_eq 1009 dL_law_1004 (by decide) (fun _ => ?_) (fun z => absurd (lg_eq0.mpr (by rw [q2, q3])) z)
    refine r_goto 1797 dL_law_1009 (by decide) ?_
    exact m_sub (next M2 L1 dd R2 hJ2) (by simp [a_sub])
theorem b_job (hJ : J M R) (hb : ∀ k : Nat, 1 ≤ k → k ≤ 5 → vp_in (nI j + nI k) LL) (hu : uc + 7 ≤ 601024) (hv : us + 42 ≤ 7293034) (next : BNext LL xs j (uc + 7) (us + 42) Q) : AW (I_L_law LL xs) 1012 [.ref 5000, .ref 0, .ref 317, .ref 325, .ref 326, .int (nI j), .null, .null, .null] [] (hS M L dd) uc us Q := by
  have hW := hJ.1.1
  have hV := hJ.1.2
  have hC := hJ.2.2.1
  refine r_aload_n dL_law_1012 rfl ?_
  refine r_aload_n dL_law_1013 rfl ?_
  refine r_iload dL_law_1014 rfl ?_
  refine r_iconst_1 dL_law_1016 ?_
  refine r_iadd dL_law_1017 ?_
  refine r_sald dL_law_1018 rfl (hb 1 (by decide) (by decide)) ?_
  refine r_aload_n dL_law_1019 rfl ?_
  refine r_iload dL_law_1020 rfl ?_
  refine r_iconst_2 dL_law_1022 ?_
  refine r_iadd dL_law_1023 ?_
  refine r_sald dL_law_1024 rfl (hb 2 (by decide) (by decide)) ?_
  refine r_aload_n dL_law_1025 rfl ?_
  refine m_lw (As := [.ref 0, .int (xs (nI j + 1).toNatClampNeg), .int (xs (nI j + 2).toNatClampNeg), .ref 325]) dL_law_1026 cs_L_150 (w_job ht_job (fun z => hv_job hW z) (c_X9_job hC hW)) rfl (Nat.le_of_ble_eq_true rfl) (Nat.le_of_ble_eq_true rfl) (Nat.le_of_ble_eq_true rfl) (Nat.le_of_ble_eq_true rfl) (Nat.le_of_ble_eq_true rfl) hu hv rfl (fun M1 L1 x1 x2 => ?_)
  have hA1 : M1 318 = M 318 := x1 318 (by decide)
  have hR1 : MH M1 R := mh_g x1 hJ.2.2.2.1
  refine s_istore dL_law_1029 (Nat.le_of_ble_eq_true rfl) rfl ?_
  refine r_aload_n dL_law_1031 rfl ?_
  refine r_aload_n dL_law_1032 rfl ?_
  refine r_iload dL_law_1033 rfl ?_
  refine r_iconst_1 dL_law_1035 ?_
  refine r_iadd dL_law_1036 ?_
  refine r_sald dL_law_1037 rfl (hb 1 (by decide) (by decide)) ?_
  refine r_aload_n dL_law_1038 rfl ?_
  refine r_iload dL_law_1039 rfl ?_
  refine r_iconst_2 dL_law_1041 ?_
  refine r_iadd dL_law_1042 ?_
  refine r_sald dL_law_1043 rfl (hb 2 (by decide) (by decide)) ?_
  refine m_lm (As := [.int (xs (nI j + 1).toNatClampNeg), .int (xs (nI j + 2).toNatClampNeg)]) dL_law_1044 cv_L_152 (c_X10_job hA1 hR1 hW) rfl ob_model ⟨_, rfl, rfl⟩ ⟨rfl, rfl⟩ (Nat.le_of_ble_eq_true rfl) (Nat.le_of_ble_eq_true rfl) (Nat.le_of_ble_eq_true rfl) hu hv (fun x M2 y0 y1 y2 y3 y4 y5 => ?_)
  obtain ⟨v, rfl⟩ := tr_int y0
  obtain ⟨R2, hJ2⟩ := j_step hJ rfl x1 y3 (x2.imp (fun z => ⟨z.1, z.2.2⟩) id) y4 y5 (fun z => ⟨hJ.1, hJ.2.1⟩)
  refine s_istore dL_law_1047 (Nat.le_of_ble_eq_true rfl) rfl ?_
  refine r_aload_n dL_law_1049 rfl ?_
  refine m_cv0 dL_law_1050 cv_L_107 (c_X10_thrown) rfl ob_model ⟨_, rfl, rfl⟩ ⟨rfl, rfl⟩ (Nat.le_of_ble_eq_true rfl) (Nat.le_of_ble_eq_true rfl) (Nat.le_of_ble_eq_true rfl) ?_
  refine r_iload dL_law_1053 rfl ?_
  rw [y1]
  refine r_icmp_eq 1060 dL_law_1055 (by decide) (fun _ => ?_) (fun z => absurd rfl z)
  refine r_iload dL_law_1060 rfl ?_
  refine r_if_ne 1077 dL_law_1062 (by decide) (fun h1062 => ?_) (fun h1062 => ?_)
  · refine r_goto 1797 dL_law_1077 (by decide) ?_
    exact m_sub (next M2 L1 dd R2 hJ2) (by simp [a_sub])
  · obtain ⟨e, he⟩ := (fun z => hv_job hW z) h1062
    have q1 := he _ (y2 h1062)
    have q3 := Value.int.inj q1
    have q2 := x2.elim (fun z => z.2.1 _ he) (fun z => absurd h1062 z.1)
    refine r_aload_n dL_law_1065 rfl ?_
    refine r_iconst_0 dL_law_1066 ?_
    refine m_lald 0 dL_law_1067 al_out rfl (by omega) (by first | decide | assumption) ?_
    refine r_iload dL_law_1068 rfl ?_
    refine r_i2l dL_law_1070 ?_
    refine r_lcmp dL_law_1071 ?_
    refine r_if_eq 1077 dL_law_1072 (by decide) (fun _ => ?_) (fun z => absurd (lg_eq0.mpr (by rw [q2, q3])) z)
    refine r_goto 1797 dL_law_1077 (by decide) ?_
    exact m_sub (next M2 L1 dd R2 hJ2) (by simp [a_sub])
theorem b_first (hJ : J M R) (hb : ∀ k : Nat, 1 ≤ k → k ≤ 5 → vp_in (nI j + nI k) LL) (hu : uc + 7 ≤ 601024) (hv : us + 42 ≤ 7293034) (next : BNext LL xs j (uc + 7) (us + 42) Q) : AW (I_L_law LL xs) 1080 [.ref 5000, .ref 0, .ref 317, .ref 325, .ref 326, .int (nI j), .null, .null, .null] [] (hS M L dd) uc us Q := by
  have hW := hJ.1.1
  have hV := hJ.1.2
  have hC := hJ.2.2.1
  refine r_aload_n dL_law_1080 rfl ?_
  refine r_aload_n dL_law_1081 rfl ?_
  refine m_lw (As := [.ref 0, .ref 325]) dL_law_1082 cs_L_153 (w_first ht_first (fun _ => hv_eq) (c_X9_first hC hW)) rfl (Nat.le_of_ble_eq_true rfl) (Nat.le_of_ble_eq_true rfl) (Nat.le_of_ble_eq_true rfl) (Nat.le_of_ble_eq_true rfl) (Nat.le_of_ble_eq_true rfl) hu hv rfl (fun M1 L1 x1 x2 => ?_)
  have hA1 : M1 318 = M 318 := x1 318 (by decide)
  have hR1 : MH M1 R := mh_g x1 hJ.2.2.2.1
  refine s_istore dL_law_1085 (Nat.le_of_ble_eq_true rfl) rfl ?_
  refine r_aload_n dL_law_1087 rfl ?_
  refine m_lm (As := []) dL_law_1088 cv_L_156 (c_X10_first hA1 hR1 hW) rfl ob_model ⟨_, rfl, rfl⟩ ⟨rfl, rfl⟩ (Nat.le_of_ble_eq_true rfl) (Nat.le_of_ble_eq_true rfl) (Nat.le_of_ble_eq_true rfl) hu hv (fun x M2 y0 y1 y2 y3 y4 y5 => ?_)
  obtain ⟨v, rfl⟩ := tr_int y0
  obtain ⟨R2, hJ2⟩ := j_step hJ rfl x1 y3 (x2.imp (fun z => ⟨z.1, z.2.2⟩) id) y4 y5 (fun z => ⟨hJ.1, hJ.2.1⟩)
  refine s_istore dL_law_1091 (Nat.le_of_ble_eq_true rfl) rfl ?_
  refine r_aload_n dL_law_1093 rfl ?_
  refine m_cv0 dL_law_1094 cv_L_107 (c_X10_thrown) rfl ob_model ⟨_, rfl, rfl⟩ ⟨rfl, rfl⟩ (Nat.le_of_ble_eq_true rfl) (Nat.le_of_ble_eq_true rfl) (Nat.le_of_ble_eq_true rfl) ?_
  refine r_iload dL_law_1097 rfl ?_
  rw [y1]
  refine r_icmp_eq 1104 dL_law_1099 (by decide) (fun _ => ?_) (fun z => absurd rfl z)
  refine r_iload dL_law_1104 rfl ?_
  refine r_if_ne 1121 dL_law_1106 (by decide) (fun h1106 => ?_) (fun h1106 => ?_)
  · refine r_goto 1797 dL_law_1121 (by decide) ?_
    exact m_sub (next M2 L1 dd R2 hJ2) (by simp [a_sub])
  · have q1 := y2 h1106
    have q3 := Value.int.inj q1
    have q2 := x2.elim (fun z => z.2.1 _ (fun _ h => h)) (fun z => absurd h1106 z.1)
    refine r_aload_n dL_law_1109 rfl ?_
    refine r_iconst_0 dL_law_1110 ?_
    refine m_lald 0 dL_law_1111 al_out rfl (by omega) (by first | decide | assumption) ?_
    refine r_iload dL_law_1112 rfl ?_
    refine r_i2l dL_law_1114 ?_
    refine r_lcmp dL_law_1115 ?_
    refine r_if_eq 1121 dL_law_1116 (by decide) (fun _ => ?_) (fun z => absurd (lg_eq0.mpr (by rw [q2, q3])) z)
    refine r_goto 1797 dL_law_1121 (by decide) ?_
    exact m_sub (next M2 L1 dd R2 hJ2) (by simp [a_sub])
theorem b_submit (hJ : J M R) (hb : ∀ k : Nat, 1 ≤ k → k ≤ 5 → vp_in (nI j + nI k) LL) (hu : uc + 7 ≤ 601024) (hv : us + 42 ≤ 7293034) (next : BNext LL xs j (uc + 7) (us + 42) Q) : AW (I_L_law LL xs) 1124 [.ref 5000, .ref 0, .ref 317, .ref 325, .ref 326, .int (nI j), .null, .null, .null] [] (hS M L dd) uc us Q := by
  have hW := hJ.1.1
  have hV := hJ.1.2
  have hC := hJ.2.2.1
  refine r_aload_n dL_law_1124 rfl ?_
  refine r_aload_n dL_law_1125 rfl ?_
  refine r_iload dL_law_1126 rfl ?_
  refine r_iconst_1 dL_law_1128 ?_
  refine r_iadd dL_law_1129 ?_
  refine r_sald dL_law_1130 rfl (hb 1 (by decide) (by decide)) ?_
  refine r_aload_n dL_law_1131 rfl ?_
  refine r_iload dL_law_1132 rfl ?_
  refine r_iconst_2 dL_law_1134 ?_
  refine r_iadd dL_law_1135 ?_
  refine r_sald dL_law_1136 rfl (hb 2 (by decide) (by decide)) ?_
  refine r_aload_n dL_law_1137 rfl ?_
  refine m_lw (As := [.ref 0, .int (xs (nI j + 1).toNatClampNeg), .int (xs (nI j + 2).toNatClampNeg), .ref 325]) dL_law_1138 cs_L_157 (w_submit ht_submit (fun _ => hv_eq) (c_X9_submit hC hW)) rfl (Nat.le_of_ble_eq_true rfl) (Nat.le_of_ble_eq_true rfl) (Nat.le_of_ble_eq_true rfl) (Nat.le_of_ble_eq_true rfl) (Nat.le_of_ble_eq_true rfl) hu hv rfl (fun M1 L1 x1 x2 => ?_)
  have hA1 : M1 318 = M 318 := x1 318 (by decide)
  have hR1 : MH M1 R := mh_g x1 hJ.2.2.2.1
  refine s_istore dL_law_1141 (Nat.le_of_ble_eq_true rfl) rfl ?_
  refine r_aload_n dL_law_1143 rfl ?_
  refine r_aload_n dL_law_1144 rfl ?_
  refine r_iload dL_law_1145 rfl ?_
  refine r_iconst_1 dL_law_1147 ?_
  refine r_iadd dL_law_1148 ?_
  refine r_sald dL_law_1149 rfl (hb 1 (by decide) (by decide)) ?_
  refine r_aload_n dL_law_1150 rfl ?_
  refine r_iload dL_law_1151 rfl ?_
  refine r_iconst_2 dL_law_1153 ?_
  refine r_iadd dL_law_1154 ?_
  refine r_sald dL_law_1155 rfl (hb 2 (by decide) (by decide)) ?_
  refine m_lm (As := [.int (xs (nI j + 1).toNatClampNeg), .int (xs (nI j + 2).toNatClampNeg)]) dL_law_1156 cv_L_159 (c_X10_submit hA1 hR1 hW) rfl ob_model ⟨_, rfl, rfl⟩ ⟨rfl, rfl⟩ (Nat.le_of_ble_eq_true rfl) (Nat.le_of_ble_eq_true rfl) (Nat.le_of_ble_eq_true rfl) hu hv (fun x M2 y0 y1 y2 y3 y4 y5 => ?_)
  obtain ⟨v, rfl⟩ := tr_int y0
  obtain ⟨R2, hJ2⟩ := j_step hJ rfl x1 y3 (x2.imp (fun z => ⟨z.1, z.2.2⟩) id) y4 y5 (fun z => ⟨ok_submit hJ.1 z, fun b hb => ok_push hJ.2.1 hJ.1 hb⟩)
  refine s_istore dL_law_1159 (Nat.le_of_ble_eq_true rfl) rfl ?_
  refine r_aload_n dL_law_1161 rfl ?_
  refine m_cv0 dL_law_1162 cv_L_107 (c_X10_thrown) rfl ob_model ⟨_, rfl, rfl⟩ ⟨rfl, rfl⟩ (Nat.le_of_ble_eq_true rfl) (Nat.le_of_ble_eq_true rfl) (Nat.le_of_ble_eq_true rfl) ?_
  refine r_iload dL_law_1165 rfl ?_
  rw [y1]
  refine r_icmp_eq 1172 dL_law_1167 (by decide) (fun _ => ?_) (fun z => absurd rfl z)
  refine r_iload dL_law_1172 rfl ?_
  refine r_if_ne 1189 dL_law_1174 (by decide) (fun h1174 => ?_) (fun h1174 => ?_)
  · refine r_goto 1797 dL_law_1189 (by decide) ?_
    exact m_sub (next M2 L1 dd R2 hJ2) (by simp [a_sub])
  · have q1 := y2 h1174
    have q3 := Value.int.inj q1
    have q2 := x2.elim (fun z => z.2.1 _ (fun _ h => h)) (fun z => absurd h1174 z.1)
    refine r_aload_n dL_law_1177 rfl ?_
    refine r_iconst_0 dL_law_1178 ?_
    refine m_lald 0 dL_law_1179 al_out rfl (by omega) (by first | decide | assumption) ?_
    refine r_iload dL_law_1180 rfl ?_
    refine r_i2l dL_law_1182 ?_
    refine r_lcmp dL_law_1183 ?_
    refine r_if_eq 1189 dL_law_1184 (by decide) (fun _ => ?_) (fun z => absurd (lg_eq0.mpr (by rw [q2, q3])) z)
    refine r_goto 1797 dL_law_1189 (by decide) ?_
    exact m_sub (next M2 L1 dd R2 hJ2) (by simp [a_sub])
theorem b_cancel (hJ : J M R) (hb : ∀ k : Nat, 1 ≤ k → k ≤ 5 → vp_in (nI j + nI k) LL) (hu : uc + 7 ≤ 601024) (hv : us + 42 ≤ 7293034) (next : BNext LL xs j (uc + 7) (us + 42) Q) : AW (I_L_law LL xs) 1192 [.ref 5000, .ref 0, .ref 317, .ref 325, .ref 326, .int (nI j), .null, .null, .null] [] (hS M L dd) uc us Q := by
  have hW := hJ.1.1
  have hV := hJ.1.2
  have hC := hJ.2.2.1
  refine r_aload_n dL_law_1192 rfl ?_
  refine r_aload_n dL_law_1193 rfl ?_
  refine r_iload dL_law_1194 rfl ?_
  refine r_iconst_1 dL_law_1196 ?_
  refine r_iadd dL_law_1197 ?_
  refine r_sald dL_law_1198 rfl (hb 1 (by decide) (by decide)) ?_
  refine r_aload_n dL_law_1199 rfl ?_
  refine m_lw (As := [.ref 0, .int (xs (nI j + 1).toNatClampNeg), .ref 325]) dL_law_1200 cs_L_160 (w_cancel ht_cancel (fun _ => hv_eq) (c_X9_cancel hC hW)) rfl (Nat.le_of_ble_eq_true rfl) (Nat.le_of_ble_eq_true rfl) (Nat.le_of_ble_eq_true rfl) (Nat.le_of_ble_eq_true rfl) (Nat.le_of_ble_eq_true rfl) hu hv rfl (fun M1 L1 x1 x2 => ?_)
  have hA1 : M1 318 = M 318 := x1 318 (by decide)
  have hR1 : MH M1 R := mh_g x1 hJ.2.2.2.1
  refine s_istore dL_law_1203 (Nat.le_of_ble_eq_true rfl) rfl ?_
  refine r_aload_n dL_law_1205 rfl ?_
  refine r_aload_n dL_law_1206 rfl ?_
  refine r_iload dL_law_1207 rfl ?_
  refine r_iconst_1 dL_law_1209 ?_
  refine r_iadd dL_law_1210 ?_
  refine r_sald dL_law_1211 rfl (hb 1 (by decide) (by decide)) ?_
  refine m_lm (As := [.int (xs (nI j + 1).toNatClampNeg)]) dL_law_1212 cv_L_162 (c_X10_cancel hA1 hR1 hW) rfl ob_model ⟨_, rfl, rfl⟩ ⟨rfl, rfl⟩ (Nat.le_of_ble_eq_true rfl) (Nat.le_of_ble_eq_true rfl) (Nat.le_of_ble_eq_true rfl) hu hv (fun x M2 y0 y1 y2 y3 y4 y5 => ?_)
  obtain ⟨v, rfl⟩ := tr_int y0
  obtain ⟨R2, hJ2⟩ := j_step hJ rfl x1 y3 (x2.imp (fun z => ⟨z.1, z.2.2⟩) id) y4 y5 (fun z => ⟨ok_cancel hJ.1 z, fun b hb => ok_push hJ.2.1 hJ.1 hb⟩)
  refine s_istore dL_law_1215 (Nat.le_of_ble_eq_true rfl) rfl ?_
  refine r_aload_n dL_law_1217 rfl ?_
  refine m_cv0 dL_law_1218 cv_L_107 (c_X10_thrown) rfl ob_model ⟨_, rfl, rfl⟩ ⟨rfl, rfl⟩ (Nat.le_of_ble_eq_true rfl) (Nat.le_of_ble_eq_true rfl) (Nat.le_of_ble_eq_true rfl) ?_
  refine r_iload dL_law_1221 rfl ?_
  rw [y1]
  refine r_icmp_eq 1228 dL_law_1223 (by decide) (fun _ => ?_) (fun z => absurd rfl z)
  refine r_iload dL_law_1228 rfl ?_
  refine r_if_ne 1245 dL_law_1230 (by decide) (fun h1230 => ?_) (fun h1230 => ?_)
  · refine r_goto 1797 dL_law_1245 (by decide) ?_
    exact m_sub (next M2 L1 dd R2 hJ2) (by simp [a_sub])
  · have q1 := y2 h1230
    have q3 := Value.int.inj q1
    have q2 := x2.elim (fun z => z.2.1 _ (fun _ h => h)) (fun z => absurd h1230 z.1)
    refine r_aload_n dL_law_1233 rfl ?_
    refine r_iconst_0 dL_law_1234 ?_
    refine m_lald 0 dL_law_1235 al_out rfl (by omega) (by first | decide | assumption) ?_
    refine r_iload dL_law_1236 rfl ?_
    refine r_i2l dL_law_1238 ?_
    refine r_lcmp dL_law_1239 ?_
    refine r_if_eq 1245 dL_law_1240 (by decide) (fun _ => ?_) (fun z => absurd (lg_eq0.mpr (by rw [q2, q3])) z)
    refine r_goto 1797 dL_law_1245 (by decide) ?_
    exact m_sub (next M2 L1 dd R2 hJ2) (by simp [a_sub])
theorem b_setUp (hJ : J M R) (hb : ∀ k : Nat, 1 ≤ k → k ≤ 5 → vp_in (nI j + nI k) LL) (hu : uc + 7 ≤ 601024) (hv : us + 42 ≤ 7293034) (next : BNext LL xs j (uc + 7) (us + 42) Q) : AW (I_L_law LL xs) 1248 [.ref 5000, .ref 0, .ref 317, .ref 325, .ref 326, .int (nI j), .null, .null, .null] [] (hS M L dd) uc us Q := by
  have hW := hJ.1.1
  have hV := hJ.1.2
  have hC := hJ.2.2.1
  by_cases h2 : xs (nI j + 2).toNatClampNeg = 0
  · skip
    refine r_aload_n dL_law_1248 rfl ?_
    refine r_aload_n dL_law_1249 rfl ?_
    refine r_iload dL_law_1250 rfl ?_
    refine r_iconst_1 dL_law_1252 ?_
    refine r_iadd dL_law_1253 ?_
    refine r_sald dL_law_1254 rfl (hb 1 (by decide) (by decide)) ?_
    refine r_aload_n dL_law_1255 rfl ?_
    refine r_iload dL_law_1256 rfl ?_
    refine r_iconst_2 dL_law_1258 ?_
    refine r_iadd dL_law_1259 ?_
    refine r_sald dL_law_1260 rfl (hb 2 (by decide) (by decide)) ?_
    refine r_if_eq 1268 dL_law_1261 (by decide) (fun _ => ?_) (fun z => absurd h2 z)
    refine r_iconst_0 dL_law_1268 ?_
    refine r_aload_n dL_law_1269 rfl ?_
    refine m_lw (As := [.ref 0, .int (xs (nI j + 1).toNatClampNeg), .int 0, .ref 325]) dL_law_1270 cs_L_163 (w_setUp ht_setUp (fun _ => hv_eq) (c_X9_setUp hC hW)) rfl (Nat.le_of_ble_eq_true rfl) (Nat.le_of_ble_eq_true rfl) (Nat.le_of_ble_eq_true rfl) (Nat.le_of_ble_eq_true rfl) (Nat.le_of_ble_eq_true rfl) hu hv rfl (fun M1 L1 x1 x2 => ?_)
    have hA1 : M1 318 = M 318 := x1 318 (by decide)
    have hR1 : MH M1 R := mh_g x1 hJ.2.2.2.1
    refine s_istore dL_law_1273 (Nat.le_of_ble_eq_true rfl) rfl ?_
    refine r_aload_n dL_law_1275 rfl ?_
    refine r_aload_n dL_law_1276 rfl ?_
    refine r_iload dL_law_1277 rfl ?_
    refine r_iconst_1 dL_law_1279 ?_
    refine r_iadd dL_law_1280 ?_
    refine r_sald dL_law_1281 rfl (hb 1 (by decide) (by decide)) ?_
    refine r_aload_n dL_law_1282 rfl ?_
    refine r_iload dL_law_1283 rfl ?_
    refine r_iconst_2 dL_law_1285 ?_
    refine r_iadd dL_law_1286 ?_
    refine r_sald dL_law_1287 rfl (hb 2 (by decide) (by decide)) ?_
    refine r_if_eq 1295 dL_law_1288 (by decide) (fun _ => ?_) (fun z => absurd h2 z)
    refine r_iconst_0 dL_law_1295 ?_
    refine m_lm (As := [.int (xs (nI j + 1).toNatClampNeg), .int 0]) dL_law_1296 cv_L_166 (c_X10_setUp hA1 hR1 hW) rfl ob_model ⟨_, rfl, rfl⟩ ⟨rfl, rfl⟩ (Nat.le_of_ble_eq_true rfl) (Nat.le_of_ble_eq_true rfl) (Nat.le_of_ble_eq_true rfl) hu hv (fun x M2 y0 y1 y2 y3 y4 y5 => ?_)
    obtain ⟨v, rfl⟩ := tr_int y0
    obtain ⟨R2, hJ2⟩ := j_step hJ rfl x1 y3 (x2.imp (fun z => ⟨z.1, z.2.2⟩) id) y4 y5 (fun z => ⟨ok_setUp hJ.1 z, fun b hb => ok_push hJ.2.1 hJ.1 hb⟩)
    refine s_istore dL_law_1299 (Nat.le_of_ble_eq_true rfl) rfl ?_
    refine r_aload_n dL_law_1301 rfl ?_
    refine m_cv0 dL_law_1302 cv_L_107 (c_X10_thrown) rfl ob_model ⟨_, rfl, rfl⟩ ⟨rfl, rfl⟩ (Nat.le_of_ble_eq_true rfl) (Nat.le_of_ble_eq_true rfl) (Nat.le_of_ble_eq_true rfl) ?_
    refine r_iload dL_law_1305 rfl ?_
    rw [y1]
    refine r_icmp_eq 1312 dL_law_1307 (by decide) (fun _ => ?_) (fun z => absurd rfl z)
    refine r_iload dL_law_1312 rfl ?_
    refine r_if_ne 1329 dL_law_1314 (by decide) (fun h1314 => ?_) (fun h1314 => ?_)
    · refine r_goto 1797 dL_law_1329 (by decide) ?_
      exact m_sub (next M2 L1 dd R2 hJ2) (by simp [a_sub])
    · have q1 := y2 h1314
      have q3 := Value.int.inj q1
      have q2 := x2.elim (fun z => z.2.1 _ (fun _ h => h)) (fun z => absurd h1314 z.1)
      refine r_aload_n dL_law_1317 rfl ?_
      refine r_iconst_0 dL_law_1318 ?_
      refine m_lald 0 dL_law_1319 al_out rfl (by omega) (by first | decide | assumption) ?_
      refine r_iload dL_law_1320 rfl ?_
      refine r_i2l dL_law_1322 ?_
      refine r_lcmp dL_law_1323 ?_
      refine r_if_eq 1329 dL_law_1324 (by decide) (fun _ => ?_) (fun z => absurd (lg_eq0.mpr (by rw [q2, q3])) z)
      refine r_goto 1797 dL_law_1329 (by decide) ?_
      exact m_sub (next M2 L1 dd R2 hJ2) (by simp [a_sub])
  · skip
    refine r_aload_n dL_law_1248 rfl ?_
    refine r_aload_n dL_law_1249 rfl ?_
    refine r_iload dL_law_1250 rfl ?_
    refine r_iconst_1 dL_law_1252 ?_
    refine r_iadd dL_law_1253 ?_
    refine r_sald dL_law_1254 rfl (hb 1 (by decide) (by decide)) ?_
    refine r_aload_n dL_law_1255 rfl ?_
    refine r_iload dL_law_1256 rfl ?_
    refine r_iconst_2 dL_law_1258 ?_
    refine r_iadd dL_law_1259 ?_
    refine r_sald dL_law_1260 rfl (hb 2 (by decide) (by decide)) ?_
    refine r_if_eq 1268 dL_law_1261 (by decide) (fun z => absurd z h2) (fun _ => ?_)
    refine r_iconst_1 dL_law_1264 ?_
    refine r_goto 1269 dL_law_1265 (by decide) ?_
    refine r_aload_n dL_law_1269 rfl ?_
    refine m_lw (As := [.ref 0, .int (xs (nI j + 1).toNatClampNeg), .int 1, .ref 325]) dL_law_1270 cs_L_163 (w_setUp ht_setUp (fun _ => hv_eq) (c_X9_setUp hC hW)) rfl (Nat.le_of_ble_eq_true rfl) (Nat.le_of_ble_eq_true rfl) (Nat.le_of_ble_eq_true rfl) (Nat.le_of_ble_eq_true rfl) (Nat.le_of_ble_eq_true rfl) hu hv rfl (fun M1 L1 x1 x2 => ?_)
    have hA1 : M1 318 = M 318 := x1 318 (by decide)
    have hR1 : MH M1 R := mh_g x1 hJ.2.2.2.1
    refine s_istore dL_law_1273 (Nat.le_of_ble_eq_true rfl) rfl ?_
    refine r_aload_n dL_law_1275 rfl ?_
    refine r_aload_n dL_law_1276 rfl ?_
    refine r_iload dL_law_1277 rfl ?_
    refine r_iconst_1 dL_law_1279 ?_
    refine r_iadd dL_law_1280 ?_
    refine r_sald dL_law_1281 rfl (hb 1 (by decide) (by decide)) ?_
    refine r_aload_n dL_law_1282 rfl ?_
    refine r_iload dL_law_1283 rfl ?_
    refine r_iconst_2 dL_law_1285 ?_
    refine r_iadd dL_law_1286 ?_
    refine r_sald dL_law_1287 rfl (hb 2 (by decide) (by decide)) ?_
    refine r_if_eq 1295 dL_law_1288 (by decide) (fun z => absurd z h2) (fun _ => ?_)
    refine r_iconst_1 dL_law_1291 ?_
    refine r_goto 1296 dL_law_1292 (by decide) ?_
    refine m_lm (As := [.int (xs (nI j + 1).toNatClampNeg), .int 1]) dL_law_1296 cv_L_166 (c_X10_setUp hA1 hR1 hW) rfl ob_model ⟨_, rfl, rfl⟩ ⟨rfl, rfl⟩ (Nat.le_of_ble_eq_true rfl) (Nat.le_of_ble_eq_true rfl) (Nat.le_of_ble_eq_true rfl) hu hv (fun x M2 y0 y1 y2 y3 y4 y5 => ?_)
    obtain ⟨v, rfl⟩ := tr_int y0
    obtain ⟨R2, hJ2⟩ := j_step hJ rfl x1 y3 (x2.imp (fun z => ⟨z.1, z.2.2⟩) id) y4 y5 (fun z => ⟨ok_setUp hJ.1 z, fun b hb => ok_push hJ.2.1 hJ.1 hb⟩)
    refine s_istore dL_law_1299 (Nat.le_of_ble_eq_true rfl) rfl ?_
    refine r_aload_n dL_law_1301 rfl ?_
    refine m_cv0 dL_law_1302 cv_L_107 (c_X10_thrown) rfl ob_model ⟨_, rfl, rfl⟩ ⟨rfl, rfl⟩ (Nat.le_of_ble_eq_true rfl) (Nat.le_of_ble_eq_true rfl) (Nat.le_of_ble_eq_true rfl) ?_
    refine r_iload dL_law_1305 rfl ?_
    rw [y1]
    refine r_icmp_eq 1312 dL_law_1307 (by decide) (fun _ => ?_) (fun z => absurd rfl z)
    refine r_iload dL_law_1312 rfl ?_
    refine r_if_ne 1329 dL_law_1314 (by decide) (fun h1314 => ?_) (fun h1314 => ?_)
    · refine r_goto 1797 dL_law_1329 (by decide) ?_
      exact m_sub (next M2 L1 dd R2 hJ2) (by simp [a_sub])
    · have q1 := y2 h1314
      have q3 := Value.int.inj q1
      have q2 := x2.elim (fun z => z.2.1 _ (fun _ h => h)) (fun z => absurd h1314 z.1)
      refine r_aload_n dL_law_1317 rfl ?_
      refine r_iconst_0 dL_law_1318 ?_
      refine m_lald 0 dL_law_1319 al_out rfl (by omega) (by first | decide | assumption) ?_
      refine r_iload dL_law_1320 rfl ?_
      refine r_i2l dL_law_1322 ?_
      refine r_lcmp dL_law_1323 ?_
      refine r_if_eq 1329 dL_law_1324 (by decide) (fun _ => ?_) (fun z => absurd (lg_eq0.mpr (by rw [q2, q3])) z)
      refine r_goto 1797 dL_law_1329 (by decide) ?_
      exact m_sub (next M2 L1 dd R2 hJ2) (by simp [a_sub])
theorem b_set (hJ : J M R) (hb : ∀ k : Nat, 1 ≤ k → k ≤ 5 → vp_in (nI j + nI k) LL) (hu : uc + 7 ≤ 601024) (hv : us + 42 ≤ 7293034) (next : BNext LL xs j (uc + 7) (us + 42) Q) : AW (I_L_law LL xs) 1332 [.ref 5000, .ref 0, .ref 317, .ref 325, .ref 326, .int (nI j), .null, .null, .null] [] (hS M L dd) uc us Q := by
  have hW := hJ.1.1
  have hV := hJ.1.2
  have hC := hJ.2.2.1
  refine r_aload_n dL_law_1332 rfl ?_
  refine r_aload_n dL_law_1333 rfl ?_
  refine r_iload dL_law_1334 rfl ?_
  refine r_iconst_1 dL_law_1336 ?_
  refine r_iadd dL_law_1337 ?_
  refine r_sald dL_law_1338 rfl (hb 1 (by decide) (by decide)) ?_
  refine r_aload_n dL_law_1339 rfl ?_
  refine r_iload dL_law_1340 rfl ?_
  refine r_iconst_2 dL_law_1342 ?_
  refine r_iadd dL_law_1343 ?_
  refine r_sald dL_law_1344 rfl (hb 2 (by decide) (by decide)) ?_
  refine r_aload_n dL_law_1345 rfl ?_
  refine m_lw (As := [.ref 0, .int (xs (nI j + 1).toNatClampNeg), .int (xs (nI j + 2).toNatClampNeg), .ref 325]) dL_law_1346 cs_L_167 (w_set ht_set (fun z => hv_set z) (c_X9_set hC hW)) rfl (Nat.le_of_ble_eq_true rfl) (Nat.le_of_ble_eq_true rfl) (Nat.le_of_ble_eq_true rfl) (Nat.le_of_ble_eq_true rfl) (Nat.le_of_ble_eq_true rfl) hu hv rfl (fun M1 L1 x1 x2 => ?_)
  have hA1 : M1 318 = M 318 := x1 318 (by decide)
  have hR1 : MH M1 R := mh_g x1 hJ.2.2.2.1
  refine s_istore dL_law_1349 (Nat.le_of_ble_eq_true rfl) rfl ?_
  refine r_aload_n dL_law_1351 rfl ?_
  refine r_aload_n dL_law_1352 rfl ?_
  refine r_iload dL_law_1353 rfl ?_
  refine r_iconst_1 dL_law_1355 ?_
  refine r_iadd dL_law_1356 ?_
  refine r_sald dL_law_1357 rfl (hb 1 (by decide) (by decide)) ?_
  refine r_aload_n dL_law_1358 rfl ?_
  refine r_iload dL_law_1359 rfl ?_
  refine r_iconst_2 dL_law_1361 ?_
  refine r_iadd dL_law_1362 ?_
  refine r_sald dL_law_1363 rfl (hb 2 (by decide) (by decide)) ?_
  refine m_lm (As := [.int (xs (nI j + 1).toNatClampNeg), .int (xs (nI j + 2).toNatClampNeg)]) dL_law_1364 cv_L_169 (c_X10_set hA1 hR1 hW) rfl ob_model ⟨_, rfl, rfl⟩ ⟨rfl, rfl⟩ (Nat.le_of_ble_eq_true rfl) (Nat.le_of_ble_eq_true rfl) (Nat.le_of_ble_eq_true rfl) hu hv (fun x M2 y0 y1 y2 y3 y4 y5 => ?_)
  obtain ⟨v, rfl⟩ := tr_int y0
  obtain ⟨R2, hJ2⟩ := j_step hJ rfl x1 y3 (x2.imp (fun z => ⟨z.1, z.2.2⟩) id) y4 y5 (fun z => ⟨ok_set hJ.1 z, fun b hb => ok_push hJ.2.1 hJ.1 hb⟩)
  refine s_istore dL_law_1367 (Nat.le_of_ble_eq_true rfl) rfl ?_
  refine r_aload_n dL_law_1369 rfl ?_
  refine m_cv0 dL_law_1370 cv_L_107 (c_X10_thrown) rfl ob_model ⟨_, rfl, rfl⟩ ⟨rfl, rfl⟩ (Nat.le_of_ble_eq_true rfl) (Nat.le_of_ble_eq_true rfl) (Nat.le_of_ble_eq_true rfl) ?_
  refine r_iload dL_law_1373 rfl ?_
  rw [y1]
  refine r_icmp_eq 1380 dL_law_1375 (by decide) (fun _ => ?_) (fun z => absurd rfl z)
  refine r_iload dL_law_1380 rfl ?_
  refine r_if_ne 1397 dL_law_1382 (by decide) (fun h1382 => ?_) (fun h1382 => ?_)
  · refine r_goto 1797 dL_law_1397 (by decide) ?_
    exact m_sub (next M2 L1 dd R2 hJ2) (by simp [a_sub])
  · obtain ⟨e, he⟩ := (fun z => hv_set z) h1382
    have q1 := he _ (y2 h1382)
    have q3 := Value.int.inj q1
    have q2 := x2.elim (fun z => z.2.1 _ he) (fun z => absurd h1382 z.1)
    refine r_aload_n dL_law_1385 rfl ?_
    refine r_iconst_0 dL_law_1386 ?_
    refine m_lald 0 dL_law_1387 al_out rfl (by omega) (by first | decide | assumption) ?_
    refine r_iload dL_law_1388 rfl ?_
    refine r_i2l dL_law_1390 ?_
    refine r_lcmp dL_law_1391 ?_
    refine r_if_eq 1397 dL_law_1392 (by decide) (fun _ => ?_) (fun z => absurd (lg_eq0.mpr (by rw [q2, q3])) z)
    refine r_goto 1797 dL_law_1397 (by decide) ?_
    exact m_sub (next M2 L1 dd R2 hJ2) (by simp [a_sub])
theorem b_tick (hJ : J M R) (hb : ∀ k : Nat, 1 ≤ k → k ≤ 5 → vp_in (nI j + nI k) LL) (hu : uc + 7 ≤ 601024) (hv : us + 42 ≤ 7293034) (next : BNext LL xs j (uc + 7) (us + 42) Q) : AW (I_L_law LL xs) 1400 [.ref 5000, .ref 0, .ref 317, .ref 325, .ref 326, .int (nI j), .null, .null, .null] [] (hS M L dd) uc us Q := by
  have hW := hJ.1.1
  have hV := hJ.1.2
  have hC := hJ.2.2.1
  refine r_aload_n dL_law_1400 rfl ?_
  refine r_aload_n dL_law_1401 rfl ?_
  refine r_iload dL_law_1402 rfl ?_
  refine r_iconst_1 dL_law_1404 ?_
  refine r_iadd dL_law_1405 ?_
  refine r_sald dL_law_1406 rfl (hb 1 (by decide) (by decide)) ?_
  refine r_aload_n dL_law_1407 rfl ?_
  refine m_lw (As := [.ref 0, .int (xs (nI j + 1).toNatClampNeg), .ref 325]) dL_law_1408 cs_L_170 (w_tick ht_tick (fun _ => hv_eq) (c_X9_tick hC hW hV)) rfl (Nat.le_of_ble_eq_true rfl) (Nat.le_of_ble_eq_true rfl) (Nat.le_of_ble_eq_true rfl) (Nat.le_of_ble_eq_true rfl) (Nat.le_of_ble_eq_true rfl) hu hv rfl (fun M1 L1 x1 x2 => ?_)
  have hA1 : M1 318 = M 318 := x1 318 (by decide)
  have hR1 : MH M1 R := mh_g x1 hJ.2.2.2.1
  refine s_istore dL_law_1411 (Nat.le_of_ble_eq_true rfl) rfl ?_
  refine r_aload_n dL_law_1413 rfl ?_
  refine r_aload_n dL_law_1414 rfl ?_
  refine r_iload dL_law_1415 rfl ?_
  refine r_iconst_1 dL_law_1417 ?_
  refine r_iadd dL_law_1418 ?_
  refine r_sald dL_law_1419 rfl (hb 1 (by decide) (by decide)) ?_
  refine m_lm (As := [.int (xs (nI j + 1).toNatClampNeg)]) dL_law_1420 cv_L_172 (c_X10_tick hA1 hR1 hW hV) rfl ob_model ⟨_, rfl, rfl⟩ ⟨rfl, rfl⟩ (Nat.le_of_ble_eq_true rfl) (Nat.le_of_ble_eq_true rfl) (Nat.le_of_ble_eq_true rfl) hu hv (fun x M2 y0 y1 y2 y3 y4 y5 => ?_)
  obtain ⟨v, rfl⟩ := tr_int y0
  obtain ⟨R2, hJ2⟩ := j_step hJ rfl x1 y3 (x2.imp (fun z => ⟨z.1, z.2.2⟩) id) y4 y5 (fun z => ⟨ok_tick hJ.1 z, fun b hb => ok_push hJ.2.1 hJ.1 hb⟩)
  refine s_istore dL_law_1423 (Nat.le_of_ble_eq_true rfl) rfl ?_
  refine r_aload_n dL_law_1425 rfl ?_
  refine m_cv0 dL_law_1426 cv_L_107 (c_X10_thrown) rfl ob_model ⟨_, rfl, rfl⟩ ⟨rfl, rfl⟩ (Nat.le_of_ble_eq_true rfl) (Nat.le_of_ble_eq_true rfl) (Nat.le_of_ble_eq_true rfl) ?_
  refine r_iload dL_law_1429 rfl ?_
  rw [y1]
  refine r_icmp_eq 1436 dL_law_1431 (by decide) (fun _ => ?_) (fun z => absurd rfl z)
  refine r_iload dL_law_1436 rfl ?_
  refine r_if_ne 1453 dL_law_1438 (by decide) (fun h1438 => ?_) (fun h1438 => ?_)
  · refine r_goto 1797 dL_law_1453 (by decide) ?_
    exact m_sub (next M2 L1 dd R2 hJ2) (by simp [a_sub])
  · have q1 := y2 h1438
    have q3 := Value.int.inj q1
    have q2 := x2.elim (fun z => z.2.1 _ (fun _ h => h)) (fun z => absurd h1438 z.1)
    refine r_aload_n dL_law_1441 rfl ?_
    refine r_iconst_0 dL_law_1442 ?_
    refine m_lald 0 dL_law_1443 al_out rfl (by omega) (by first | decide | assumption) ?_
    refine r_iload dL_law_1444 rfl ?_
    refine r_i2l dL_law_1446 ?_
    refine r_lcmp dL_law_1447 ?_
    refine r_if_eq 1453 dL_law_1448 (by decide) (fun _ => ?_) (fun z => absurd (lg_eq0.mpr (by rw [q2, q3])) z)
    refine r_goto 1797 dL_law_1453 (by decide) ?_
    exact m_sub (next M2 L1 dd R2 hJ2) (by simp [a_sub])
theorem b_finishedIn (hJ : J M R) (hb : ∀ k : Nat, 1 ≤ k → k ≤ 5 → vp_in (nI j + nI k) LL) (hu : uc + 7 ≤ 601024) (hv : us + 42 ≤ 7293034) (next : BNext LL xs j (uc + 7) (us + 42) Q) : AW (I_L_law LL xs) 1456 [.ref 5000, .ref 0, .ref 317, .ref 325, .ref 326, .int (nI j), .null, .null, .null] [] (hS M L dd) uc us Q := by
  have hW := hJ.1.1
  have hV := hJ.1.2
  have hC := hJ.2.2.1
  refine r_aload_n dL_law_1456 rfl ?_
  refine r_aload_n dL_law_1457 rfl ?_
  refine r_iload dL_law_1458 rfl ?_
  refine r_iconst_1 dL_law_1460 ?_
  refine r_iadd dL_law_1461 ?_
  refine r_sald dL_law_1462 rfl (hb 1 (by decide) (by decide)) ?_
  refine r_aload_n dL_law_1463 rfl ?_
  refine m_lw (As := [.ref 0, .int (xs (nI j + 1).toNatClampNeg), .ref 325]) dL_law_1464 cs_L_173 (w_finishedIn ht_cancel (fun _ => hv_eq) (c_X9_finishedIn hC hW hV)) rfl (Nat.le_of_ble_eq_true rfl) (Nat.le_of_ble_eq_true rfl) (Nat.le_of_ble_eq_true rfl) (Nat.le_of_ble_eq_true rfl) (Nat.le_of_ble_eq_true rfl) hu hv rfl (fun M1 L1 x1 x2 => ?_)
  have hA1 : M1 318 = M 318 := x1 318 (by decide)
  have hR1 : MH M1 R := mh_g x1 hJ.2.2.2.1
  refine s_istore dL_law_1467 (Nat.le_of_ble_eq_true rfl) rfl ?_
  refine r_aload_n dL_law_1469 rfl ?_
  refine r_aload_n dL_law_1470 rfl ?_
  refine r_iload dL_law_1471 rfl ?_
  refine r_iconst_1 dL_law_1473 ?_
  refine r_iadd dL_law_1474 ?_
  refine r_sald dL_law_1475 rfl (hb 1 (by decide) (by decide)) ?_
  refine m_lm (As := [.int (xs (nI j + 1).toNatClampNeg)]) dL_law_1476 cv_L_175 (c_X10_finishedIn hA1 hR1 hW hV) rfl ob_model ⟨_, rfl, rfl⟩ ⟨rfl, rfl⟩ (Nat.le_of_ble_eq_true rfl) (Nat.le_of_ble_eq_true rfl) (Nat.le_of_ble_eq_true rfl) hu hv (fun x M2 y0 y1 y2 y3 y4 y5 => ?_)
  obtain ⟨v, rfl⟩ := tr_int y0
  obtain ⟨R2, hJ2⟩ := j_step hJ rfl x1 y3 (x2.imp (fun z => ⟨z.1, z.2.2⟩) id) y4 y5 (fun z => ⟨hJ.1, hJ.2.1⟩)
  refine s_istore dL_law_1479 (Nat.le_of_ble_eq_true rfl) rfl ?_
  refine r_aload_n dL_law_1481 rfl ?_
  refine m_cv0 dL_law_1482 cv_L_107 (c_X10_thrown) rfl ob_model ⟨_, rfl, rfl⟩ ⟨rfl, rfl⟩ (Nat.le_of_ble_eq_true rfl) (Nat.le_of_ble_eq_true rfl) (Nat.le_of_ble_eq_true rfl) ?_
  refine r_iload dL_law_1485 rfl ?_
  rw [y1]
  refine r_icmp_eq 1492 dL_law_1487 (by decide) (fun _ => ?_) (fun z => absurd rfl z)
  refine r_iload dL_law_1492 rfl ?_
  refine r_if_ne 1509 dL_law_1494 (by decide) (fun h1494 => ?_) (fun h1494 => ?_)
  · refine r_goto 1797 dL_law_1509 (by decide) ?_
    exact m_sub (next M2 L1 dd R2 hJ2) (by simp [a_sub])
  · have q1 := y2 h1494
    have q3 := Value.int.inj q1
    have q2 := x2.elim (fun z => z.2.1 _ (fun _ h => h)) (fun z => absurd h1494 z.1)
    refine r_aload_n dL_law_1497 rfl ?_
    refine r_iconst_0 dL_law_1498 ?_
    refine m_lald 0 dL_law_1499 al_out rfl (by omega) (by first | decide | assumption) ?_
    refine r_iload dL_law_1500 rfl ?_
    refine r_i2l dL_law_1502 ?_
    refine r_lcmp dL_law_1503 ?_
    refine r_if_eq 1509 dL_law_1504 (by decide) (fun _ => ?_) (fun z => absurd (lg_eq0.mpr (by rw [q2, q3])) z)
    refine r_goto 1797 dL_law_1509 (by decide) ?_
    exact m_sub (next M2 L1 dd R2 hJ2) (by simp [a_sub])
theorem b_ahead (hJ : J M R) (hb : ∀ k : Nat, 1 ≤ k → k ≤ 5 → vp_in (nI j + nI k) LL) (hu : uc + 7 ≤ 601024) (hv : us + 42 ≤ 7293034) (next : BNext LL xs j (uc + 7) (us + 42) Q) : AW (I_L_law LL xs) 1512 [.ref 5000, .ref 0, .ref 317, .ref 325, .ref 326, .int (nI j), .null, .null, .null] [] (hS M L dd) uc us Q := by
  have hW := hJ.1.1
  have hV := hJ.1.2
  have hC := hJ.2.2.1
  refine r_aload_n dL_law_1512 rfl ?_
  refine r_aload_n dL_law_1513 rfl ?_
  refine r_iload dL_law_1514 rfl ?_
  refine r_iconst_1 dL_law_1516 ?_
  refine r_iadd dL_law_1517 ?_
  refine r_sald dL_law_1518 rfl (hb 1 (by decide) (by decide)) ?_
  refine r_aload_n dL_law_1519 rfl ?_
  refine r_iload dL_law_1520 rfl ?_
  refine r_iconst_2 dL_law_1522 ?_
  refine r_iadd dL_law_1523 ?_
  refine r_sald dL_law_1524 rfl (hb 2 (by decide) (by decide)) ?_
  refine r_aload_n dL_law_1525 rfl ?_
  refine m_lw (As := [.ref 0, .int (xs (nI j + 1).toNatClampNeg), .int (xs (nI j + 2).toNatClampNeg), .ref 325]) dL_law_1526 cs_L_176 (w_ahead ht_ahead (fun _ => hv_eq) (c_X9_ahead hC hW hV)) rfl (Nat.le_of_ble_eq_true rfl) (Nat.le_of_ble_eq_true rfl) (Nat.le_of_ble_eq_true rfl) (Nat.le_of_ble_eq_true rfl) (Nat.le_of_ble_eq_true rfl) hu hv rfl (fun M1 L1 x1 x2 => ?_)
  have hA1 : M1 318 = M 318 := x1 318 (by decide)
  have hR1 : MH M1 R := mh_g x1 hJ.2.2.2.1
  refine s_istore dL_law_1529 (Nat.le_of_ble_eq_true rfl) rfl ?_
  refine r_aload_n dL_law_1531 rfl ?_
  refine r_aload_n dL_law_1532 rfl ?_
  refine r_iload dL_law_1533 rfl ?_
  refine r_iconst_1 dL_law_1535 ?_
  refine r_iadd dL_law_1536 ?_
  refine r_sald dL_law_1537 rfl (hb 1 (by decide) (by decide)) ?_
  refine r_aload_n dL_law_1538 rfl ?_
  refine r_iload dL_law_1539 rfl ?_
  refine r_iconst_2 dL_law_1541 ?_
  refine r_iadd dL_law_1542 ?_
  refine r_sald dL_law_1543 rfl (hb 2 (by decide) (by decide)) ?_
  refine m_lm (As := [.int (xs (nI j + 1).toNatClampNeg), .int (xs (nI j + 2).toNatClampNeg)]) dL_law_1544 cv_L_178 (c_X10_ahead hA1 hR1 hW hV) rfl ob_model ⟨_, rfl, rfl⟩ ⟨rfl, rfl⟩ (Nat.le_of_ble_eq_true rfl) (Nat.le_of_ble_eq_true rfl) (Nat.le_of_ble_eq_true rfl) hu hv (fun x M2 y0 y1 y2 y3 y4 y5 => ?_)
  obtain ⟨v, rfl⟩ := tr_int y0
  obtain ⟨R2, hJ2⟩ := j_step hJ rfl x1 y3 (x2.imp (fun z => ⟨z.1, z.2.2⟩) id) y4 y5 (fun z => ⟨hJ.1, hJ.2.1⟩)
  refine s_istore dL_law_1547 (Nat.le_of_ble_eq_true rfl) rfl ?_
  refine r_aload_n dL_law_1549 rfl ?_
  refine m_cv0 dL_law_1550 cv_L_107 (c_X10_thrown) rfl ob_model ⟨_, rfl, rfl⟩ ⟨rfl, rfl⟩ (Nat.le_of_ble_eq_true rfl) (Nat.le_of_ble_eq_true rfl) (Nat.le_of_ble_eq_true rfl) ?_
  refine r_iload dL_law_1553 rfl ?_
  rw [y1]
  refine r_icmp_eq 1560 dL_law_1555 (by decide) (fun _ => ?_) (fun z => absurd rfl z)
  refine r_iload dL_law_1560 rfl ?_
  refine r_if_ne 1577 dL_law_1562 (by decide) (fun h1562 => ?_) (fun h1562 => ?_)
  · refine r_goto 1797 dL_law_1577 (by decide) ?_
    exact m_sub (next M2 L1 dd R2 hJ2) (by simp [a_sub])
  · have q1 := y2 h1562
    have q3 := Value.int.inj q1
    have q2 := x2.elim (fun z => z.2.1 _ (fun _ h => h)) (fun z => absurd h1562 z.1)
    refine r_aload_n dL_law_1565 rfl ?_
    refine r_iconst_0 dL_law_1566 ?_
    refine m_lald 0 dL_law_1567 al_out rfl (by omega) (by first | decide | assumption) ?_
    refine r_iload dL_law_1568 rfl ?_
    refine r_i2l dL_law_1570 ?_
    refine r_lcmp dL_law_1571 ?_
    refine r_if_eq 1577 dL_law_1572 (by decide) (fun _ => ?_) (fun z => absurd (lg_eq0.mpr (by rw [q2, q3])) z)
    refine r_goto 1797 dL_law_1577 (by decide) ?_
    exact m_sub (next M2 L1 dd R2 hJ2) (by simp [a_sub])
end BLOCKS
