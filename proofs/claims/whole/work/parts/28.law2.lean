/-! the law, call by call -/
set_option maxRecDepth 100000 in
set_option maxHeartbeats 4000000 in
/-- the call toReceiver -/
theorem st_toReceiver {l : Launch} (hl : l.stackTraces = false) (D : va_G) (e0 : Nat) {b Ls : Nat} {xs : Nat → Int32} {G : xGt} {X : xXt} (B0 : xL l D e0 b Ls xs G X) {ad am : Nat → Nat} {oa i t k n : Nat} (hi : i + 3 ≤ Ls) (hLs : Ls ≤ 1536) (ht9 : t < 512) (hk : k ≤ 4000) (hn : n ≤ 300000) (K : lTo G D e0 ad am oa b i (t + 1) (k + 4) (n + 300) 1137) : lTo G D e0 ad am oa b i t k n 396 := by
  intro da hs ht gf gb om L S N qf qb up op tr tq tf tt bf bt tg bg td th f hg
  obtain ⟨hI, ⟨hok, hot, hq, hqb⟩, ⟨hmf, hmb, htd⟩, htt, hbt⟩ := hg
  obtain ⟨hup, hop, hL, hN, hS, hF, hB, hPhi, hlen, hdn⟩ := id hI
  have hT := tq_len hI
  have hin := tq_in hS
  have hin60 : ∀ i, i < tq.length → tq.getD i 0 < 60 := fun i h => Nat.lt_of_lt_of_le (hin i h) hN
  have hl4 : ∀ d, d < N → ∃ j, j < 4 ∧ S 4 d = nI j := fun d hd => (hS.2.1 d hd).1
  have h69 : ∀ d, d < N → ∃ m, m ≤ 4 ∧ S 6 d = nI m := fun d hd => (hS.2.1 d hd).2.1
  have h79 : ∀ d, d < N → S 7 d = 0 ∨ S 7 d = 1 := fun d hd => (hS.2.1 d hd).2.2.1
  have h99 : ∀ d, d < N → S 9 d = 0 ∨ S 9 d = 1 ∨ S 9 d = 2 ∨ S 9 d = 3 ∨ S 9 d = 4 := fun d hd => (hS.2.1 d hd).2.2.2.1
  have hfe := hmf.1
  have hbe := hmb.1
  obtain ⟨hh, B⟩ := B0.base
  show G 396 [(4, .int (nI i)), (3, .ref oa), (2, .ref (am 0)), (1, .ref (ad 0)), (0, .ref b)] [] [xoW ad up op tr, lkW D ad L, alW D e0 (ad 2) hs N, rwW D (ad 3) (ad 10) (ad 11) (ad 12) gf qf.length, rwW D (ad 4) (ad 13) (ad 14) (ad 15) gb qb.length, alW D e0 (ad 5) ht tq.length, dvW da N S om, moW am N tf tt bf bt up op tr tq.length th, mlW D am L, mdW D am S, rtW D am tg, rbW D am bg, tdW D am td, [(oa, .inl (D.1 12, 1, .inr (.inl f)))]] k n
  refine x_aload_n B (pc := 396) 3 dL_law_396 rfl rfl ?_
  refine x_aload_n B (pc := 397) 4 dL_law_397 rfl rfl ?_
  refine x_iload B (pc := 398) 0 dL_law_398 rfl ?_
  refine x_iconst B (pc := 400) 1 dL_law_400 (by decide) ?_
  refine x_iadd B (pc := 401) dL_law_401 ?_
  refine x_val B (y := nI (i + 1)) (nI_add i 1) ?_
  refine x_sldN B0 (pc := 402) (d := (i + 1)) (by omega) (by omega) dL_law_402 ?_
  refine x_aload_n B (pc := 403) 1 dL_law_403 rfl rfl ?_
  refine x_callSX B (pc := 404) (As := [.ref (ad 0), .int (xs (i + 1)), .ref oa]) (c_L_toReceiver hl D e0 hok hN hq hF hl4) tm446 tm447 tm0 tm448 md_L_toReceiver ⟨Nat.le_of_ble_eq_true rfl, Nat.le_of_ble_eq_true rfl⟩ [0, 1, 2, 3, 6, 13] rfl rfl rfl (Nat.le_of_ble_eq_true rfl) (by show k + 1 ≤ (601024 : Nat); omega) (by show n + 6 ≤ (7293034 : Nat); omega) dL_law_404 (fun E hE => False.elim hE) (fun v cs1 hp => ?_)
  rcases hp with ⟨hc, rfl, g1, hf0, rfl⟩ | ⟨hc, rfl, rfl⟩
  · show G 407 [(4, .int (nI i)), (3, .ref oa), (2, .ref (am 0)), (1, .ref (ad 0)), (0, .ref b)] [.int 0] [xoW ad up op tr, lkW D ad ((rcvN (ix (xs (i + 1))) L S qf 0).1), alW D e0 (ad 2) hs N, rwW D (ad 3) (ad 10) (ad 11) (ad 12) g1 (((rcvN (ix (xs (i + 1))) L S qf 0).2.2.1).length), rwW D (ad 4) (ad 13) (ad 14) (ad 15) gb qb.length, alW D e0 (ad 5) ht tq.length, dvW da N ((rcvN (ix (xs (i + 1))) L S qf 0).2.1) om, moW am N tf tt bf bt up op tr tq.length th, mlW D am L, mdW D am S, rtW D am tg, rbW D am bg, tdW D am td, [(oa, .inl (D.1 12, 1, .inr (.inl (vp_updL f 0 (((rcvN (ix (xs (i + 1))) L S qf 0).2.2.2).toInt64)))))]] (k + 1) (n + 6)
    refine x_istore B (pc := 407) [(5, .int 0), (4, .int (nI i)), (3, .ref oa), (2, .ref (am 0)), (1, .ref (ad 0)), (0, .ref b)] dL_law_407 (by decide) rfl ?_
    refine x_aload_n B (pc := 409) 3 dL_law_409 rfl rfl ?_
    refine x_aload_n B (pc := 410) 5 dL_law_410 rfl rfl ?_
    refine x_iload B (pc := 411) 1 dL_law_411 rfl ?_
    refine x_iconst B (pc := 413) 1 dL_law_413 (by decide) ?_
    refine x_iadd B (pc := 414) dL_law_414 ?_
    refine x_val B (y := nI (i + 1)) (nI_add i 1) ?_
    refine x_sldN B0 (pc := 415) (d := (i + 1)) (by omega) (by omega) dL_law_415 ?_
    refine x_callV B (pc := 416) (As := [.int (xs (i + 1))]) (c_X4_toReceiver hl D e0 hL hN hmf (by omega) hF hS.1 hl4) xcl_M rfl 0 0 rfl rfl tm770 tm771 tm772 tm7 tm773 md_X4_toReceiver ⟨Nat.le_of_ble_eq_true rfl, Nat.le_of_ble_eq_true rfl⟩ [7, 8, 9, 10] rfl rfl rfl (Nat.le_of_ble_eq_true rfl) (by show k + 1 ≤ (601024 : Nat); omega) (by show n + 6 ≤ (7293034 : Nat); omega) dL_law_416 (fun E hE => False.elim hE) (fun v cs1 hp => ?_)
    rcases hp with ⟨hc2, rfl, tf1, mf0, rfl⟩ | ⟨hc2, hz2⟩
    · show G 419 [(5, .int 0), (4, .int (nI i)), (3, .ref oa), (2, .ref (am 0)), (1, .ref (ad 0)), (0, .ref b)] [.int ((rcvN (ix (xs (i + 1))) L S qf 0).2.2.2)] [xoW ad up op tr, lkW D ad ((rcvN (ix (xs (i + 1))) L S qf 0).1), alW D e0 (ad 2) hs N, rwW D (ad 3) (ad 10) (ad 11) (ad 12) g1 (((rcvN (ix (xs (i + 1))) L S qf 0).2.2.1).length), rwW D (ad 4) (ad 13) (ad 14) (ad 15) gb qb.length, alW D e0 (ad 5) ht tq.length, dvW da N ((rcvN (ix (xs (i + 1))) L S qf 0).2.1) om, moW am N tf1 tt bf bt up op tr tq.length 0, mlW D am ((rcvN (ix (xs (i + 1))) L S qf 0).1), mdW D am ((rcvN (ix (xs (i + 1))) L S qf 0).2.1), rtW D am tg, rbW D am bg, tdW D am td, [(oa, .inl (D.1 12, 1, .inr (.inl (vp_updL f 0 (((rcvN (ix (xs (i + 1))) L S qf 0).2.2.2).toInt64)))))]] (k + 1) (n + 6)
      refine x_istore B (pc := 419) [(6, .int ((rcvN (ix (xs (i + 1))) L S qf 0).2.2.2)), (5, .int 0), (4, .int (nI i)), (3, .ref oa), (2, .ref (am 0)), (1, .ref (ad 0)), (0, .ref b)] dL_law_419 (by decide) rfl ?_
      refine x_aload_n B (pc := 421) 4 dL_law_421 rfl rfl ?_
      refine x_callV B (pc := 422) (As := []) (c_X4_thrown hl D e0 ) xcl_M rfl 0 0 rfl rfl tm716 tm717 tm718 tm7 tm719 md_X4_thrown ⟨Nat.le_of_ble_eq_true rfl, Nat.le_of_ble_eq_true rfl⟩ [7] rfl rfl rfl (Nat.le_of_ble_eq_true rfl) (by show k + 1 ≤ (601024 : Nat); omega) (by show n + 6 ≤ (7293034 : Nat); omega) dL_law_422 (fun E hE => False.elim hE) (fun v cs1 hp => ?_)
      obtain ⟨rfl, rfl⟩ := hp
      show G 425 [(6, .int ((rcvN (ix (xs (i + 1))) L S qf 0).2.2.2)), (5, .int 0), (4, .int (nI i)), (3, .ref oa), (2, .ref (am 0)), (1, .ref (ad 0)), (0, .ref b)] [.int 0] [xoW ad up op tr, lkW D ad ((rcvN (ix (xs (i + 1))) L S qf 0).1), alW D e0 (ad 2) hs N, rwW D (ad 3) (ad 10) (ad 11) (ad 12) g1 (((rcvN (ix (xs (i + 1))) L S qf 0).2.2.1).length), rwW D (ad 4) (ad 13) (ad 14) (ad 15) gb qb.length, alW D e0 (ad 5) ht tq.length, dvW da N ((rcvN (ix (xs (i + 1))) L S qf 0).2.1) om, moW am N tf1 tt bf bt up op tr tq.length 0, mlW D am ((rcvN (ix (xs (i + 1))) L S qf 0).1), mdW D am ((rcvN (ix (xs (i + 1))) L S qf 0).2.1), rtW D am tg, rbW D am bg, tdW D am td, [(oa, .inl (D.1 12, 1, .inr (.inl (vp_updL f 0 (((rcvN (ix (xs (i + 1))) L S qf 0).2.2.2).toInt64)))))]] (k + 1) (n + 6)
      refine x_iload B (pc := 425) 1 dL_law_425 rfl ?_
      refine x_icmp_eq B (pc := 427) 432 dL_law_427 (by decide) (fun h427 => ?_) (fun h427 => absurd (by decide) h427)
      refine x_iload B (pc := 432) 1 dL_law_432 rfl ?_
      refine x_if_ne B (pc := 434) 449 dL_law_434 (by decide) (fun h434 => absurd (by decide) h434) (fun h434 => ?_)
      refine x_aload_n B (pc := 437) 3 dL_law_437 rfl rfl ?_
      refine x_iconst B (pc := 438) 0 dL_law_438 (by decide) ?_
      refine x_val B (y := nI 0) rfl ?_
      refine x_laldN B (pc := 439) 0 13 0 (by decide) (by decide) rfl rfl dL_law_439 ?_
      refine x_iload B (pc := 440) 0 dL_law_440 rfl ?_
      refine x_i2l B (pc := 442) dL_law_442 ?_
      refine x_lcmp B (pc := 443) dL_law_443 ?_
      refine x_val B (y := 0) out_cmp ?_
      refine x_if_eq B (pc := 444) 449 dL_law_444 (by decide) (fun h444 => ?_) (fun h444 => absurd (by decide) h444)
      refine x_goto B (pc := 449) 1137 dL_law_449 (by decide) ?_
      refine x_lv B [2, 3, 4, 5, 6] [(4, .int (nI i)), (3, .ref oa), (2, .ref (am 0)), (1, .ref (ad 0)), (0, .ref b)] rfl ?_
      refine x_wid B (k + 4) (n + 300) (by omega) (by omega) ?_
      exact K da hs ht g1 gb om ((rcvN (ix (xs (i + 1))) L S qf 0).1) ((rcvN (ix (xs (i + 1))) L S qf 0).2.1) N ((rcvN (ix (xs (i + 1))) L S qf 0).2.2.1) qb up op tr tq tf1 tt bf bt tg bg td 0 (vp_updL f 0 (((rcvN (ix (xs (i + 1))) L S qf 0).2.2.2).toInt64)) ⟨aInv_more (aInv_rcv (ix (xs (i + 1))) L S qf 0 hI) (by omega), ⟨hok, hot, hf0, hqb⟩, ⟨mf0, hmb, htd⟩, (by omega), (by omega)⟩
    · exact absurd hc hc2
  · show G 407 [(4, .int (nI i)), (3, .ref oa), (2, .ref (am 0)), (1, .ref (ad 0)), (0, .ref b)] [.int (nI (cod (xinB 1 100 (xs (i + 1))) true true))] [xoW ad up op tr, lkW D ad L, alW D e0 (ad 2) hs N, rwW D (ad 3) (ad 10) (ad 11) (ad 12) gf qf.length, rwW D (ad 4) (ad 13) (ad 14) (ad 15) gb qb.length, alW D e0 (ad 5) ht tq.length, dvW da N S om, moW am N tf tt bf bt up op tr tq.length th, mlW D am L, mdW D am S, rtW D am tg, rbW D am bg, tdW D am td, [(oa, .inl (D.1 12, 1, .inr (.inl f)))]] (k + 1) (n + 6)
    refine x_istore B (pc := 407) [(5, .int (nI (cod (xinB 1 100 (xs (i + 1))) true true))), (4, .int (nI i)), (3, .ref oa), (2, .ref (am 0)), (1, .ref (ad 0)), (0, .ref b)] dL_law_407 (by decide) rfl ?_
    refine x_aload_n B (pc := 409) 3 dL_law_409 rfl rfl ?_
    refine x_aload_n B (pc := 410) 5 dL_law_410 rfl rfl ?_
    refine x_iload B (pc := 411) 1 dL_law_411 rfl ?_
    refine x_iconst B (pc := 413) 1 dL_law_413 (by decide) ?_
    refine x_iadd B (pc := 414) dL_law_414 ?_
    refine x_val B (y := nI (i + 1)) (nI_add i 1) ?_
    refine x_sldN B0 (pc := 415) (d := (i + 1)) (by omega) (by omega) dL_law_415 ?_
    refine x_callV B (pc := 416) (As := [.int (xs (i + 1))]) (c_X4_toReceiver hl D e0 hL hN hmf (by omega) hF hS.1 hl4) xcl_M rfl 0 0 rfl rfl tm770 tm771 tm772 tm7 tm773 md_X4_toReceiver ⟨Nat.le_of_ble_eq_true rfl, Nat.le_of_ble_eq_true rfl⟩ [7, 8, 9, 10] rfl rfl rfl (Nat.le_of_ble_eq_true rfl) (by show k + 1 ≤ (601024 : Nat); omega) (by show n + 6 ≤ (7293034 : Nat); omega) dL_law_416 (fun E hE => False.elim hE) (fun v cs1 hp => ?_)
    rcases hp with ⟨hc2, hz2⟩ | ⟨hc2, ⟨z9, rfl⟩, rfl⟩
    · exact absurd hc2 hc
    · show G 419 [(5, .int (nI (cod (xinB 1 100 (xs (i + 1))) true true))), (4, .int (nI i)), (3, .ref oa), (2, .ref (am 0)), (1, .ref (ad 0)), (0, .ref b)] [.int z9] [xoW ad up op tr, lkW D ad L, alW D e0 (ad 2) hs N, rwW D (ad 3) (ad 10) (ad 11) (ad 12) gf qf.length, rwW D (ad 4) (ad 13) (ad 14) (ad 15) gb qb.length, alW D e0 (ad 5) ht tq.length, dvW da N S om, moW am N tf tt bf bt up op tr tq.length (nI (cod (xinB 1 100 (xs (i + 1))) true true)), mlW D am L, mdW D am S, rtW D am tg, rbW D am bg, tdW D am td, [(oa, .inl (D.1 12, 1, .inr (.inl f)))]] (k + 1) (n + 6)
      refine x_istore B (pc := 419) [(6, .int z9), (5, .int (nI (cod (xinB 1 100 (xs (i + 1))) true true))), (4, .int (nI i)), (3, .ref oa), (2, .ref (am 0)), (1, .ref (ad 0)), (0, .ref b)] dL_law_419 (by decide) rfl ?_
      refine x_aload_n B (pc := 421) 4 dL_law_421 rfl rfl ?_
      refine x_callV B (pc := 422) (As := []) (c_X4_thrown hl D e0 ) xcl_M rfl 0 0 rfl rfl tm716 tm717 tm718 tm7 tm719 md_X4_thrown ⟨Nat.le_of_ble_eq_true rfl, Nat.le_of_ble_eq_true rfl⟩ [7] rfl rfl rfl (Nat.le_of_ble_eq_true rfl) (by show k + 1 ≤ (601024 : Nat); omega) (by show n + 6 ≤ (7293034 : Nat); omega) dL_law_422 (fun E hE => False.elim hE) (fun v cs1 hp => ?_)
      obtain ⟨rfl, rfl⟩ := hp
      show G 425 [(6, .int z9), (5, .int (nI (cod (xinB 1 100 (xs (i + 1))) true true))), (4, .int (nI i)), (3, .ref oa), (2, .ref (am 0)), (1, .ref (ad 0)), (0, .ref b)] [.int (nI (cod (xinB 1 100 (xs (i + 1))) true true))] [xoW ad up op tr, lkW D ad L, alW D e0 (ad 2) hs N, rwW D (ad 3) (ad 10) (ad 11) (ad 12) gf qf.length, rwW D (ad 4) (ad 13) (ad 14) (ad 15) gb qb.length, alW D e0 (ad 5) ht tq.length, dvW da N S om, moW am N tf tt bf bt up op tr tq.length (nI (cod (xinB 1 100 (xs (i + 1))) true true)), mlW D am L, mdW D am S, rtW D am tg, rbW D am bg, tdW D am td, [(oa, .inl (D.1 12, 1, .inr (.inl f)))]] (k + 1) (n + 6)
      refine x_iload B (pc := 425) 1 dL_law_425 rfl ?_
      refine x_icmp_eq B (pc := 427) 432 dL_law_427 (by decide) (fun h427 => ?_) (fun h427 => absurd rfl h427)
      refine x_iload B (pc := 432) 1 dL_law_432 rfl ?_
      refine x_if_ne B (pc := 434) 449 dL_law_434 (by decide) (fun h434 => ?_) (fun h434 => absurd h434 (cod_nz hc))
      refine x_goto B (pc := 449) 1137 dL_law_449 (by decide) ?_
      refine x_lv B [2, 3, 4, 5, 6] [(4, .int (nI i)), (3, .ref oa), (2, .ref (am 0)), (1, .ref (ad 0)), (0, .ref b)] rfl ?_
      refine x_wid B (k + 4) (n + 300) (by omega) (by omega) ?_
      exact K da hs ht gf gb om L S N qf qb up op tr tq tf tt bf bt tg bg td (nI (cod (xinB 1 100 (xs (i + 1))) true true)) f ⟨aInv_more (hI) (by omega), ⟨hok, hot, hq, hqb⟩, ⟨hmf, hmb, htd⟩, (by omega), (by omega)⟩

set_option maxRecDepth 100000 in
set_option maxHeartbeats 4000000 in
/-- the call toSender -/
theorem st_toSender {l : Launch} (hl : l.stackTraces = false) (D : va_G) (e0 : Nat) {b Ls : Nat} {xs : Nat → Int32} {G : xGt} {X : xXt} (B0 : xL l D e0 b Ls xs G X) {ad am : Nat → Nat} {oa i t k n : Nat} (hi : i + 3 ≤ Ls) (hLs : Ls ≤ 1536) (ht9 : t < 512) (hk : k ≤ 4000) (hn : n ≤ 300000) (K : lTo G D e0 ad am oa b i (t + 1) (k + 4) (n + 300) 1137) : lTo G D e0 ad am oa b i t k n 452 := by
  intro da hs ht gf gb om L S N qf qb up op tr tq tf tt bf bt tg bg td th f hg
  obtain ⟨hI, ⟨hok, hot, hq, hqb⟩, ⟨hmf, hmb, htd⟩, htt, hbt⟩ := hg
  obtain ⟨hup, hop, hL, hN, hS, hF, hB, hPhi, hlen, hdn⟩ := id hI
  have hT := tq_len hI
  have hin := tq_in hS
  have hin60 : ∀ i, i < tq.length → tq.getD i 0 < 60 := fun i h => Nat.lt_of_lt_of_le (hin i h) hN
  have hl4 : ∀ d, d < N → ∃ j, j < 4 ∧ S 4 d = nI j := fun d hd => (hS.2.1 d hd).1
  have h69 : ∀ d, d < N → ∃ m, m ≤ 4 ∧ S 6 d = nI m := fun d hd => (hS.2.1 d hd).2.1
  have h79 : ∀ d, d < N → S 7 d = 0 ∨ S 7 d = 1 := fun d hd => (hS.2.1 d hd).2.2.1
  have h99 : ∀ d, d < N → S 9 d = 0 ∨ S 9 d = 1 ∨ S 9 d = 2 ∨ S 9 d = 3 ∨ S 9 d = 4 := fun d hd => (hS.2.1 d hd).2.2.2.1
  have hfe := hmf.1
  have hbe := hmb.1
  obtain ⟨hh, B⟩ := B0.base
  show G 452 [(4, .int (nI i)), (3, .ref oa), (2, .ref (am 0)), (1, .ref (ad 0)), (0, .ref b)] [] [xoW ad up op tr, lkW D ad L, alW D e0 (ad 2) hs N, rwW D (ad 3) (ad 10) (ad 11) (ad 12) gf qf.length, rwW D (ad 4) (ad 13) (ad 14) (ad 15) gb qb.length, alW D e0 (ad 5) ht tq.length, dvW da N S om, moW am N tf tt bf bt up op tr tq.length th, mlW D am L, mdW D am S, rtW D am tg, rbW D am bg, tdW D am td, [(oa, .inl (D.1 12, 1, .inr (.inl f)))]] k n
  refine x_aload_n B (pc := 452) 3 dL_law_452 rfl rfl ?_
  refine x_aload_n B (pc := 453) 4 dL_law_453 rfl rfl ?_
  refine x_iload B (pc := 454) 0 dL_law_454 rfl ?_
  refine x_iconst B (pc := 456) 1 dL_law_456 (by decide) ?_
  refine x_iadd B (pc := 457) dL_law_457 ?_
  refine x_val B (y := nI (i + 1)) (nI_add i 1) ?_
  refine x_sldN B0 (pc := 458) (d := (i + 1)) (by omega) (by omega) dL_law_458 ?_
  refine x_aload_n B (pc := 459) 1 dL_law_459 rfl rfl ?_
  refine x_callSX B (pc := 460) (As := [.ref (ad 0), .int (xs (i + 1)), .ref oa]) (c_L_toSender hl D e0 hok hN hq hqb (fun x hx => by rcases hB x hx with e | e; exact Or.inl ⟨e.1, e.2.1⟩; exact Or.inr ⟨e.1, e.2.1⟩) (by omega)) tm494 tm495 tm0 tm496 md_L_toSender ⟨Nat.le_of_ble_eq_true rfl, Nat.le_of_ble_eq_true rfl⟩ [0, 1, 2, 3, 4, 6, 13] rfl rfl rfl (Nat.le_of_ble_eq_true rfl) (by show k + 1 ≤ (601024 : Nat); omega) (by show n + 6 ≤ (7293034 : Nat); omega) dL_law_460 (fun E hE => False.elim hE) (fun v cs1 hp => ?_)
  rcases hp with ⟨hc, rfl, g1, g2, hf0, hf1, rfl⟩ | ⟨hc, rfl, rfl⟩
  · show G 463 [(4, .int (nI i)), (3, .ref oa), (2, .ref (am 0)), (1, .ref (ad 0)), (0, .ref b)] [.int 0] [xoW ad up op tr, lkW D ad ((sndN (ix (xs (i + 1))) L S qf qb 0).1), alW D e0 (ad 2) hs N, rwW D (ad 3) (ad 10) (ad 11) (ad 12) g1 (((sndN (ix (xs (i + 1))) L S qf qb 0).2.2.1).length), rwW D (ad 4) (ad 13) (ad 14) (ad 15) g2 (((sndN (ix (xs (i + 1))) L S qf qb 0).2.2.2.1).length), alW D e0 (ad 5) ht tq.length, dvW da N ((sndN (ix (xs (i + 1))) L S qf qb 0).2.1) om, moW am N tf tt bf bt up op tr tq.length th, mlW D am L, mdW D am S, rtW D am tg, rbW D am bg, tdW D am td, [(oa, .inl (D.1 12, 1, .inr (.inl (vp_updL f 0 (((sndN (ix (xs (i + 1))) L S qf qb 0).2.2.2.2).toInt64)))))]] (k + 1) (n + 6)
    refine x_istore B (pc := 463) [(5, .int 0), (4, .int (nI i)), (3, .ref oa), (2, .ref (am 0)), (1, .ref (ad 0)), (0, .ref b)] dL_law_463 (by decide) rfl ?_
    refine x_aload_n B (pc := 465) 3 dL_law_465 rfl rfl ?_
    refine x_aload_n B (pc := 466) 5 dL_law_466 rfl rfl ?_
    refine x_iload B (pc := 467) 1 dL_law_467 rfl ?_
    refine x_iconst B (pc := 469) 1 dL_law_469 (by decide) ?_
    refine x_iadd B (pc := 470) dL_law_470 ?_
    refine x_val B (y := nI (i + 1)) (nI_add i 1) ?_
    refine x_sldN B0 (pc := 471) (d := (i + 1)) (by omega) (by omega) dL_law_471 ?_
    refine x_callV B (pc := 472) (As := [.int (xs (i + 1))]) (c_X4_toSender hl D e0 hN hmf hmb (by omega) (by omega) hB (by omega)) xcl_M rfl 0 0 rfl rfl tm778 tm779 tm780 tm7 tm781 md_X4_toSender ⟨Nat.le_of_ble_eq_true rfl, Nat.le_of_ble_eq_true rfl⟩ [7, 8, 9, 10, 11] rfl rfl rfl (Nat.le_of_ble_eq_true rfl) (by show k + 1 ≤ (601024 : Nat); omega) (by show n + 6 ≤ (7293034 : Nat); omega) dL_law_472 (fun E hE => False.elim hE) (fun v cs1 hp => ?_)
    rcases hp with ⟨hc2, rfl, bf1, tt1, tg1, mf0, mf1, mf2, rfl⟩ | ⟨hc2, hz2⟩
    · show G 475 [(5, .int 0), (4, .int (nI i)), (3, .ref oa), (2, .ref (am 0)), (1, .ref (ad 0)), (0, .ref b)] [.int ((sndN (ix (xs (i + 1))) L S qf qb 0).2.2.2.2)] [xoW ad up op tr, lkW D ad ((sndN (ix (xs (i + 1))) L S qf qb 0).1), alW D e0 (ad 2) hs N, rwW D (ad 3) (ad 10) (ad 11) (ad 12) g1 (((sndN (ix (xs (i + 1))) L S qf qb 0).2.2.1).length), rwW D (ad 4) (ad 13) (ad 14) (ad 15) g2 (((sndN (ix (xs (i + 1))) L S qf qb 0).2.2.2.1).length), alW D e0 (ad 5) ht tq.length, dvW da N ((sndN (ix (xs (i + 1))) L S qf qb 0).2.1) om, moW am N tf tt1 bf1 bt up op tr tq.length 0, mlW D am ((sndN (ix (xs (i + 1))) L S qf qb 0).1), mdW D am ((sndN (ix (xs (i + 1))) L S qf qb 0).2.1), rtW D am tg1, rbW D am bg, tdW D am td, [(oa, .inl (D.1 12, 1, .inr (.inl (vp_updL f 0 (((sndN (ix (xs (i + 1))) L S qf qb 0).2.2.2.2).toInt64)))))]] (k + 1) (n + 6)
      refine x_istore B (pc := 475) [(6, .int ((sndN (ix (xs (i + 1))) L S qf qb 0).2.2.2.2)), (5, .int 0), (4, .int (nI i)), (3, .ref oa), (2, .ref (am 0)), (1, .ref (ad 0)), (0, .ref b)] dL_law_475 (by decide) rfl ?_
      refine x_aload_n B (pc := 477) 4 dL_law_477 rfl rfl ?_
      refine x_callV B (pc := 478) (As := []) (c_X4_thrown hl D e0 ) xcl_M rfl 0 0 rfl rfl tm716 tm717 tm718 tm7 tm719 md_X4_thrown ⟨Nat.le_of_ble_eq_true rfl, Nat.le_of_ble_eq_true rfl⟩ [7] rfl rfl rfl (Nat.le_of_ble_eq_true rfl) (by show k + 1 ≤ (601024 : Nat); omega) (by show n + 6 ≤ (7293034 : Nat); omega) dL_law_478 (fun E hE => False.elim hE) (fun v cs1 hp => ?_)
      obtain ⟨rfl, rfl⟩ := hp
      show G 481 [(6, .int ((sndN (ix (xs (i + 1))) L S qf qb 0).2.2.2.2)), (5, .int 0), (4, .int (nI i)), (3, .ref oa), (2, .ref (am 0)), (1, .ref (ad 0)), (0, .ref b)] [.int 0] [xoW ad up op tr, lkW D ad ((sndN (ix (xs (i + 1))) L S qf qb 0).1), alW D e0 (ad 2) hs N, rwW D (ad 3) (ad 10) (ad 11) (ad 12) g1 (((sndN (ix (xs (i + 1))) L S qf qb 0).2.2.1).length), rwW D (ad 4) (ad 13) (ad 14) (ad 15) g2 (((sndN (ix (xs (i + 1))) L S qf qb 0).2.2.2.1).length), alW D e0 (ad 5) ht tq.length, dvW da N ((sndN (ix (xs (i + 1))) L S qf qb 0).2.1) om, moW am N tf tt1 bf1 bt up op tr tq.length 0, mlW D am ((sndN (ix (xs (i + 1))) L S qf qb 0).1), mdW D am ((sndN (ix (xs (i + 1))) L S qf qb 0).2.1), rtW D am tg1, rbW D am bg, tdW D am td, [(oa, .inl (D.1 12, 1, .inr (.inl (vp_updL f 0 (((sndN (ix (xs (i + 1))) L S qf qb 0).2.2.2.2).toInt64)))))]] (k + 1) (n + 6)
      refine x_iload B (pc := 481) 1 dL_law_481 rfl ?_
      refine x_icmp_eq B (pc := 483) 488 dL_law_483 (by decide) (fun h483 => ?_) (fun h483 => absurd (by decide) h483)
      refine x_iload B (pc := 488) 1 dL_law_488 rfl ?_
      refine x_if_ne B (pc := 490) 505 dL_law_490 (by decide) (fun h490 => absurd (by decide) h490) (fun h490 => ?_)
      refine x_aload_n B (pc := 493) 3 dL_law_493 rfl rfl ?_
      refine x_iconst B (pc := 494) 0 dL_law_494 (by decide) ?_
      refine x_val B (y := nI 0) rfl ?_
      refine x_laldN B (pc := 495) 0 13 0 (by decide) (by decide) rfl rfl dL_law_495 ?_
      refine x_iload B (pc := 496) 0 dL_law_496 rfl ?_
      refine x_i2l B (pc := 498) dL_law_498 ?_
      refine x_lcmp B (pc := 499) dL_law_499 ?_
      refine x_val B (y := 0) out_cmp ?_
      refine x_if_eq B (pc := 500) 505 dL_law_500 (by decide) (fun h500 => ?_) (fun h500 => absurd (by decide) h500)
      refine x_goto B (pc := 505) 1137 dL_law_505 (by decide) ?_
      refine x_lv B [2, 3, 4, 5, 6] [(4, .int (nI i)), (3, .ref oa), (2, .ref (am 0)), (1, .ref (ad 0)), (0, .ref b)] rfl ?_
      refine x_wid B (k + 4) (n + 300) (by omega) (by omega) ?_
      exact K da hs ht g1 g2 om ((sndN (ix (xs (i + 1))) L S qf qb 0).1) ((sndN (ix (xs (i + 1))) L S qf qb 0).2.1) N ((sndN (ix (xs (i + 1))) L S qf qb 0).2.2.1) ((sndN (ix (xs (i + 1))) L S qf qb 0).2.2.2.1) up op tr tq tf tt1 bf1 bt tg1 bg td 0 (vp_updL f 0 (((sndN (ix (xs (i + 1))) L S qf qb 0).2.2.2.2).toInt64)) ⟨aInv_more (aInv_snd (ix (xs (i + 1))) L S qf qb 0 hI) (by omega), ⟨hok, hot, hf0, hf1⟩, ⟨mf1, mf2, htd⟩, (by omega), (by omega)⟩
    · exact absurd hc hc2
  · show G 463 [(4, .int (nI i)), (3, .ref oa), (2, .ref (am 0)), (1, .ref (ad 0)), (0, .ref b)] [.int (nI (cod (xinB 1 100 (xs (i + 1))) true true))] [xoW ad up op tr, lkW D ad L, alW D e0 (ad 2) hs N, rwW D (ad 3) (ad 10) (ad 11) (ad 12) gf qf.length, rwW D (ad 4) (ad 13) (ad 14) (ad 15) gb qb.length, alW D e0 (ad 5) ht tq.length, dvW da N S om, moW am N tf tt bf bt up op tr tq.length th, mlW D am L, mdW D am S, rtW D am tg, rbW D am bg, tdW D am td, [(oa, .inl (D.1 12, 1, .inr (.inl f)))]] (k + 1) (n + 6)
    refine x_istore B (pc := 463) [(5, .int (nI (cod (xinB 1 100 (xs (i + 1))) true true))), (4, .int (nI i)), (3, .ref oa), (2, .ref (am 0)), (1, .ref (ad 0)), (0, .ref b)] dL_law_463 (by decide) rfl ?_
    refine x_aload_n B (pc := 465) 3 dL_law_465 rfl rfl ?_
    refine x_aload_n B (pc := 466) 5 dL_law_466 rfl rfl ?_
    refine x_iload B (pc := 467) 1 dL_law_467 rfl ?_
    refine x_iconst B (pc := 469) 1 dL_law_469 (by decide) ?_
    refine x_iadd B (pc := 470) dL_law_470 ?_
    refine x_val B (y := nI (i + 1)) (nI_add i 1) ?_
    refine x_sldN B0 (pc := 471) (d := (i + 1)) (by omega) (by omega) dL_law_471 ?_
    refine x_callV B (pc := 472) (As := [.int (xs (i + 1))]) (c_X4_toSender hl D e0 hN hmf hmb (by omega) (by omega) hB (by omega)) xcl_M rfl 0 0 rfl rfl tm778 tm779 tm780 tm7 tm781 md_X4_toSender ⟨Nat.le_of_ble_eq_true rfl, Nat.le_of_ble_eq_true rfl⟩ [7, 8, 9, 10, 11] rfl rfl rfl (Nat.le_of_ble_eq_true rfl) (by show k + 1 ≤ (601024 : Nat); omega) (by show n + 6 ≤ (7293034 : Nat); omega) dL_law_472 (fun E hE => False.elim hE) (fun v cs1 hp => ?_)
    rcases hp with ⟨hc2, hz2⟩ | ⟨hc2, ⟨z9, rfl⟩, rfl⟩
    · exact absurd hc2 hc
    · show G 475 [(5, .int (nI (cod (xinB 1 100 (xs (i + 1))) true true))), (4, .int (nI i)), (3, .ref oa), (2, .ref (am 0)), (1, .ref (ad 0)), (0, .ref b)] [.int z9] [xoW ad up op tr, lkW D ad L, alW D e0 (ad 2) hs N, rwW D (ad 3) (ad 10) (ad 11) (ad 12) gf qf.length, rwW D (ad 4) (ad 13) (ad 14) (ad 15) gb qb.length, alW D e0 (ad 5) ht tq.length, dvW da N S om, moW am N tf tt bf bt up op tr tq.length (nI (cod (xinB 1 100 (xs (i + 1))) true true)), mlW D am L, mdW D am S, rtW D am tg, rbW D am bg, tdW D am td, [(oa, .inl (D.1 12, 1, .inr (.inl f)))]] (k + 1) (n + 6)
      refine x_istore B (pc := 475) [(6, .int z9), (5, .int (nI (cod (xinB 1 100 (xs (i + 1))) true true))), (4, .int (nI i)), (3, .ref oa), (2, .ref (am 0)), (1, .ref (ad 0)), (0, .ref b)] dL_law_475 (by decide) rfl ?_
      refine x_aload_n B (pc := 477) 4 dL_law_477 rfl rfl ?_
      refine x_callV B (pc := 478) (As := []) (c_X4_thrown hl D e0 ) xcl_M rfl 0 0 rfl rfl tm716 tm717 tm718 tm7 tm719 md_X4_thrown ⟨Nat.le_of_ble_eq_true rfl, Nat.le_of_ble_eq_true rfl⟩ [7] rfl rfl rfl (Nat.le_of_ble_eq_true rfl) (by show k + 1 ≤ (601024 : Nat); omega) (by show n + 6 ≤ (7293034 : Nat); omega) dL_law_478 (fun E hE => False.elim hE) (fun v cs1 hp => ?_)
      obtain ⟨rfl, rfl⟩ := hp
      show G 481 [(6, .int z9), (5, .int (nI (cod (xinB 1 100 (xs (i + 1))) true true))), (4, .int (nI i)), (3, .ref oa), (2, .ref (am 0)), (1, .ref (ad 0)), (0, .ref b)] [.int (nI (cod (xinB 1 100 (xs (i + 1))) true true))] [xoW ad up op tr, lkW D ad L, alW D e0 (ad 2) hs N, rwW D (ad 3) (ad 10) (ad 11) (ad 12) gf qf.length, rwW D (ad 4) (ad 13) (ad 14) (ad 15) gb qb.length, alW D e0 (ad 5) ht tq.length, dvW da N S om, moW am N tf tt bf bt up op tr tq.length (nI (cod (xinB 1 100 (xs (i + 1))) true true)), mlW D am L, mdW D am S, rtW D am tg, rbW D am bg, tdW D am td, [(oa, .inl (D.1 12, 1, .inr (.inl f)))]] (k + 1) (n + 6)
      refine x_iload B (pc := 481) 1 dL_law_481 rfl ?_
      refine x_icmp_eq B (pc := 483) 488 dL_law_483 (by decide) (fun h483 => ?_) (fun h483 => absurd rfl h483)
      refine x_iload B (pc := 488) 1 dL_law_488 rfl ?_
      refine x_if_ne B (pc := 490) 505 dL_law_490 (by decide) (fun h490 => ?_) (fun h490 => absurd h490 (cod_nz hc))
      refine x_goto B (pc := 505) 1137 dL_law_505 (by decide) ?_
      refine x_lv B [2, 3, 4, 5, 6] [(4, .int (nI i)), (3, .ref oa), (2, .ref (am 0)), (1, .ref (ad 0)), (0, .ref b)] rfl ?_
      refine x_wid B (k + 4) (n + 300) (by omega) (by omega) ?_
      exact K da hs ht gf gb om L S N qf qb up op tr tq tf tt bf bt tg bg td (nI (cod (xinB 1 100 (xs (i + 1))) true true)) f ⟨aInv_more (hI) (by omega), ⟨hok, hot, hq, hqb⟩, ⟨hmf, hmb, htd⟩, (by omega), (by omega)⟩

set_option maxRecDepth 100000 in
set_option maxHeartbeats 4000000 in
/-- the call decide -/
theorem st_decide {l : Launch} (hl : l.stackTraces = false) (D : va_G) (e0 : Nat) {b Ls : Nat} {xs : Nat → Int32} {G : xGt} {X : xXt} (B0 : xL l D e0 b Ls xs G X) {ad am : Nat → Nat} {oa i t k n : Nat} (hi : i + 3 ≤ Ls) (hLs : Ls ≤ 1536) (ht9 : t < 512) (hk : k ≤ 4000) (hn : n ≤ 300000) (K : lTo G D e0 ad am oa b i (t + 1) (k + 4) (n + 300) 1137) : lTo G D e0 ad am oa b i t k n 508 := by
  intro da hs ht gf gb om L S N qf qb up op tr tq tf tt bf bt tg bg td th f hg
  obtain ⟨hI, ⟨hok, hot, hq, hqb⟩, ⟨hmf, hmb, htd⟩, htt, hbt⟩ := hg
  obtain ⟨hup, hop, hL, hN, hS, hF, hB, hPhi, hlen, hdn⟩ := id hI
  have hT := tq_len hI
  have hin := tq_in hS
  have hin60 : ∀ i, i < tq.length → tq.getD i 0 < 60 := fun i h => Nat.lt_of_lt_of_le (hin i h) hN
  have hl4 : ∀ d, d < N → ∃ j, j < 4 ∧ S 4 d = nI j := fun d hd => (hS.2.1 d hd).1
  have h69 : ∀ d, d < N → ∃ m, m ≤ 4 ∧ S 6 d = nI m := fun d hd => (hS.2.1 d hd).2.1
  have h79 : ∀ d, d < N → S 7 d = 0 ∨ S 7 d = 1 := fun d hd => (hS.2.1 d hd).2.2.1
  have h99 : ∀ d, d < N → S 9 d = 0 ∨ S 9 d = 1 ∨ S 9 d = 2 ∨ S 9 d = 3 ∨ S 9 d = 4 := fun d hd => (hS.2.1 d hd).2.2.2.1
  have hfe := hmf.1
  have hbe := hmb.1
  obtain ⟨hh, B⟩ := B0.base
  show G 508 [(4, .int (nI i)), (3, .ref oa), (2, .ref (am 0)), (1, .ref (ad 0)), (0, .ref b)] [] [xoW ad up op tr, lkW D ad L, alW D e0 (ad 2) hs N, rwW D (ad 3) (ad 10) (ad 11) (ad 12) gf qf.length, rwW D (ad 4) (ad 13) (ad 14) (ad 15) gb qb.length, alW D e0 (ad 5) ht tq.length, dvW da N S om, moW am N tf tt bf bt up op tr tq.length th, mlW D am L, mdW D am S, rtW D am tg, rbW D am bg, tdW D am td, [(oa, .inl (D.1 12, 1, .inr (.inl f)))]] k n
  refine x_aload_n B (pc := 508) 3 dL_law_508 rfl rfl ?_
  refine x_aload_n B (pc := 509) 4 dL_law_509 rfl rfl ?_
  refine x_iload B (pc := 510) 0 dL_law_510 rfl ?_
  refine x_iconst B (pc := 512) 1 dL_law_512 (by decide) ?_
  refine x_iadd B (pc := 513) dL_law_513 ?_
  refine x_val B (y := nI (i + 1)) (nI_add i 1) ?_
  refine x_sldN B0 (pc := 514) (d := (i + 1)) (by omega) (by omega) dL_law_514 ?_
  refine x_aload_n B (pc := 515) 4 dL_law_515 rfl rfl ?_
  refine x_iload B (pc := 516) 0 dL_law_516 rfl ?_
  refine x_iconst B (pc := 518) 2 dL_law_518 (by decide) ?_
  refine x_iadd B (pc := 519) dL_law_519 ?_
  refine x_val B (y := nI (i + 2)) (nI_add i 2) ?_
  refine x_sldN B0 (pc := 520) (d := (i + 2)) (by omega) (by omega) dL_law_520 ?_
  refine x_aload_n B (pc := 521) 1 dL_law_521 rfl rfl ?_
  refine x_callSX B (pc := 522) (As := [.ref (ad 0), .int (xs (i + 1)), .int (xs (i + 2)), .ref oa]) (c_L_decide hl D e0 hup hok hN hqb (by omega)) tm509 tm510 tm0 tm511 md_L_decide ⟨Nat.le_of_ble_eq_true rfl, Nat.le_of_ble_eq_true rfl⟩ [0, 2, 4, 6, 13] rfl rfl rfl (Nat.le_of_ble_eq_true rfl) (by show k + 1 ≤ (601024 : Nat); omega) (by show n + 6 ≤ (7293034 : Nat); omega) dL_law_522 (fun E hE => False.elim hE) (fun v cs1 hp => ?_)
  rcases hp with ⟨hc, rfl, g1, hf0, rfl⟩ | ⟨hc, rfl, rfl⟩
  · show G 525 [(4, .int (nI i)), (3, .ref oa), (2, .ref (am 0)), (1, .ref (ad 0)), (0, .ref b)] [.int 0] [xoW ad up op tr, lkW D ad L, alW D e0 (ad 2) hs N, rwW D (ad 3) (ad 10) (ad 11) (ad 12) gf qf.length, rwW D (ad 4) (ad 13) (ad 14) (ad 15) g1 ((aOut S (ix (xs (i + 1))) (ix (xs (i + 2))) qb).length), alW D e0 (ad 5) ht tq.length, dvW da N (aDec S (ix (xs (i + 1))) (xs (i + 2))) (upd om (ix (xs (i + 1))) (xs (i + 2))), moW am N tf tt bf bt up op tr tq.length th, mlW D am L, mdW D am S, rtW D am tg, rbW D am bg, tdW D am td, [(oa, .inl (D.1 12, 1, .inr (.inl (vp_updL f 0 ((aDec S (ix (xs (i + 1))) (xs (i + 2)) 13 (ix (xs (i + 1)))).toInt64)))))]] (k + 1) (n + 6)
    refine x_istore B (pc := 525) [(5, .int 0), (4, .int (nI i)), (3, .ref oa), (2, .ref (am 0)), (1, .ref (ad 0)), (0, .ref b)] dL_law_525 (by decide) rfl ?_
    refine x_aload_n B (pc := 527) 3 dL_law_527 rfl rfl ?_
    refine x_aload_n B (pc := 528) 5 dL_law_528 rfl rfl ?_
    refine x_iload B (pc := 529) 1 dL_law_529 rfl ?_
    refine x_iconst B (pc := 531) 1 dL_law_531 (by decide) ?_
    refine x_iadd B (pc := 532) dL_law_532 ?_
    refine x_val B (y := nI (i + 1)) (nI_add i 1) ?_
    refine x_sldN B0 (pc := 533) (d := (i + 1)) (by omega) (by omega) dL_law_533 ?_
    refine x_aload_n B (pc := 534) 5 dL_law_534 rfl rfl ?_
    refine x_iload B (pc := 535) 1 dL_law_535 rfl ?_
    refine x_iconst B (pc := 537) 2 dL_law_537 (by decide) ?_
    refine x_iadd B (pc := 538) dL_law_538 ?_
    refine x_val B (y := nI (i + 2)) (nI_add i 2) ?_
    refine x_sldN B0 (pc := 539) (d := (i + 2)) (by omega) (by omega) dL_law_539 ?_
    refine x_callV B (pc := 540) (As := [.int (xs (i + 1)), .int (xs (i + 2))]) (c_X4_decide hl D e0 hup hN hmb (by omega) (by omega)) xcl_M rfl 0 0 rfl rfl tm782 tm783 tm784 tm7 tm785 md_X4_decide ⟨Nat.le_of_ble_eq_true rfl, Nat.le_of_ble_eq_true rfl⟩ [7, 9, 11] rfl rfl rfl (Nat.le_of_ble_eq_true rfl) (by show k + 1 ≤ (601024 : Nat); omega) (by show n + 6 ≤ (7293034 : Nat); omega) dL_law_540 (fun E hE => False.elim hE) (fun v cs1 hp => ?_)
    rcases hp with ⟨hc2, rfl, bt1, bg1, mf0, mf1, rfl⟩ | ⟨hc2, hz2⟩
    · show G 543 [(5, .int 0), (4, .int (nI i)), (3, .ref oa), (2, .ref (am 0)), (1, .ref (ad 0)), (0, .ref b)] [.int (aDec S (ix (xs (i + 1))) (xs (i + 2)) 13 (ix (xs (i + 1))))] [xoW ad up op tr, lkW D ad L, alW D e0 (ad 2) hs N, rwW D (ad 3) (ad 10) (ad 11) (ad 12) gf qf.length, rwW D (ad 4) (ad 13) (ad 14) (ad 15) g1 ((aOut S (ix (xs (i + 1))) (ix (xs (i + 2))) qb).length), alW D e0 (ad 5) ht tq.length, dvW da N (aDec S (ix (xs (i + 1))) (xs (i + 2))) (upd om (ix (xs (i + 1))) (xs (i + 2))), moW am N tf tt bf bt1 up op tr tq.length 0, mlW D am L, mdW D am (aDec S (ix (xs (i + 1))) (xs (i + 2))), rtW D am tg, rbW D am bg1, tdW D am td, [(oa, .inl (D.1 12, 1, .inr (.inl (vp_updL f 0 ((aDec S (ix (xs (i + 1))) (xs (i + 2)) 13 (ix (xs (i + 1)))).toInt64)))))]] (k + 1) (n + 6)
      refine x_istore B (pc := 543) [(6, .int (aDec S (ix (xs (i + 1))) (xs (i + 2)) 13 (ix (xs (i + 1))))), (5, .int 0), (4, .int (nI i)), (3, .ref oa), (2, .ref (am 0)), (1, .ref (ad 0)), (0, .ref b)] dL_law_543 (by decide) rfl ?_
      refine x_aload_n B (pc := 545) 4 dL_law_545 rfl rfl ?_
      refine x_callV B (pc := 546) (As := []) (c_X4_thrown hl D e0 ) xcl_M rfl 0 0 rfl rfl tm716 tm717 tm718 tm7 tm719 md_X4_thrown ⟨Nat.le_of_ble_eq_true rfl, Nat.le_of_ble_eq_true rfl⟩ [7] rfl rfl rfl (Nat.le_of_ble_eq_true rfl) (by show k + 1 ≤ (601024 : Nat); omega) (by show n + 6 ≤ (7293034 : Nat); omega) dL_law_546 (fun E hE => False.elim hE) (fun v cs1 hp => ?_)
      obtain ⟨rfl, rfl⟩ := hp
      show G 549 [(6, .int (aDec S (ix (xs (i + 1))) (xs (i + 2)) 13 (ix (xs (i + 1))))), (5, .int 0), (4, .int (nI i)), (3, .ref oa), (2, .ref (am 0)), (1, .ref (ad 0)), (0, .ref b)] [.int 0] [xoW ad up op tr, lkW D ad L, alW D e0 (ad 2) hs N, rwW D (ad 3) (ad 10) (ad 11) (ad 12) gf qf.length, rwW D (ad 4) (ad 13) (ad 14) (ad 15) g1 ((aOut S (ix (xs (i + 1))) (ix (xs (i + 2))) qb).length), alW D e0 (ad 5) ht tq.length, dvW da N (aDec S (ix (xs (i + 1))) (xs (i + 2))) (upd om (ix (xs (i + 1))) (xs (i + 2))), moW am N tf tt bf bt1 up op tr tq.length 0, mlW D am L, mdW D am (aDec S (ix (xs (i + 1))) (xs (i + 2))), rtW D am tg, rbW D am bg1, tdW D am td, [(oa, .inl (D.1 12, 1, .inr (.inl (vp_updL f 0 ((aDec S (ix (xs (i + 1))) (xs (i + 2)) 13 (ix (xs (i + 1)))).toInt64)))))]] (k + 1) (n + 6)
      refine x_iload B (pc := 549) 1 dL_law_549 rfl ?_
      refine x_icmp_eq B (pc := 551) 556 dL_law_551 (by decide) (fun h551 => ?_) (fun h551 => absurd (by decide) h551)
      refine x_iload B (pc := 556) 1 dL_law_556 rfl ?_
      refine x_if_ne B (pc := 558) 573 dL_law_558 (by decide) (fun h558 => absurd (by decide) h558) (fun h558 => ?_)
      refine x_aload_n B (pc := 561) 3 dL_law_561 rfl rfl ?_
      refine x_iconst B (pc := 562) 0 dL_law_562 (by decide) ?_
      refine x_val B (y := nI 0) rfl ?_
      refine x_laldN B (pc := 563) 0 13 0 (by decide) (by decide) rfl rfl dL_law_563 ?_
      refine x_iload B (pc := 564) 0 dL_law_564 rfl ?_
      refine x_i2l B (pc := 566) dL_law_566 ?_
      refine x_lcmp B (pc := 567) dL_law_567 ?_
      refine x_val B (y := 0) out_cmp ?_
      refine x_if_eq B (pc := 568) 573 dL_law_568 (by decide) (fun h568 => ?_) (fun h568 => absurd (by decide) h568)
      refine x_goto B (pc := 573) 1137 dL_law_573 (by decide) ?_
      refine x_lv B [2, 3, 4, 5, 6] [(4, .int (nI i)), (3, .ref oa), (2, .ref (am 0)), (1, .ref (ad 0)), (0, .ref b)] rfl ?_
      refine x_wid B (k + 4) (n + 300) (by omega) (by omega) ?_
      exact K da hs ht gf g1 (upd om (ix (xs (i + 1))) (xs (i + 2))) L (aDec S (ix (xs (i + 1))) (xs (i + 2))) N qf (aOut S (ix (xs (i + 1))) (ix (xs (i + 2))) qb) up op tr tq tf tt bf bt1 tg bg1 td 0 (vp_updL f 0 ((aDec S (ix (xs (i + 1))) (xs (i + 2)) 13 (ix (xs (i + 1)))).toInt64)) ⟨aInv_more (aInv_decide hI hc) (by omega), ⟨hok, hot, hq, hf0⟩, ⟨hmf, mf1, htd⟩, (by omega), (by omega)⟩
    · exact absurd hc hc2
  · show G 525 [(4, .int (nI i)), (3, .ref oa), (2, .ref (am 0)), (1, .ref (ad 0)), (0, .ref b)] [.int (nI (cod (xinD N (xs (i + 1))) (xinB 0 2 (xs (i + 2))) (decide (up = 1) && (decide (S 9 (ix (xs (i + 1))) = 2) && decide (S 14 (ix (xs (i + 1))) = -1)))))] [xoW ad up op tr, lkW D ad L, alW D e0 (ad 2) hs N, rwW D (ad 3) (ad 10) (ad 11) (ad 12) gf qf.length, rwW D (ad 4) (ad 13) (ad 14) (ad 15) gb qb.length, alW D e0 (ad 5) ht tq.length, dvW da N S om, moW am N tf tt bf bt up op tr tq.length th, mlW D am L, mdW D am S, rtW D am tg, rbW D am bg, tdW D am td, [(oa, .inl (D.1 12, 1, .inr (.inl f)))]] (k + 1) (n + 6)
    refine x_istore B (pc := 525) [(5, .int (nI (cod (xinD N (xs (i + 1))) (xinB 0 2 (xs (i + 2))) (decide (up = 1) && (decide (S 9 (ix (xs (i + 1))) = 2) && decide (S 14 (ix (xs (i + 1))) = -1)))))), (4, .int (nI i)), (3, .ref oa), (2, .ref (am 0)), (1, .ref (ad 0)), (0, .ref b)] dL_law_525 (by decide) rfl ?_
    refine x_aload_n B (pc := 527) 3 dL_law_527 rfl rfl ?_
    refine x_aload_n B (pc := 528) 5 dL_law_528 rfl rfl ?_
    refine x_iload B (pc := 529) 1 dL_law_529 rfl ?_
    refine x_iconst B (pc := 531) 1 dL_law_531 (by decide) ?_
    refine x_iadd B (pc := 532) dL_law_532 ?_
    refine x_val B (y := nI (i + 1)) (nI_add i 1) ?_
    refine x_sldN B0 (pc := 533) (d := (i + 1)) (by omega) (by omega) dL_law_533 ?_
    refine x_aload_n B (pc := 534) 5 dL_law_534 rfl rfl ?_
    refine x_iload B (pc := 535) 1 dL_law_535 rfl ?_
    refine x_iconst B (pc := 537) 2 dL_law_537 (by decide) ?_
    refine x_iadd B (pc := 538) dL_law_538 ?_
    refine x_val B (y := nI (i + 2)) (nI_add i 2) ?_
    refine x_sldN B0 (pc := 539) (d := (i + 2)) (by omega) (by omega) dL_law_539 ?_
    refine x_callV B (pc := 540) (As := [.int (xs (i + 1)), .int (xs (i + 2))]) (c_X4_decide hl D e0 hup hN hmb (by omega) (by omega)) xcl_M rfl 0 0 rfl rfl tm782 tm783 tm784 tm7 tm785 md_X4_decide ⟨Nat.le_of_ble_eq_true rfl, Nat.le_of_ble_eq_true rfl⟩ [7, 9, 11] rfl rfl rfl (Nat.le_of_ble_eq_true rfl) (by show k + 1 ≤ (601024 : Nat); omega) (by show n + 6 ≤ (7293034 : Nat); omega) dL_law_540 (fun E hE => False.elim hE) (fun v cs1 hp => ?_)
    rcases hp with ⟨hc2, hz2⟩ | ⟨hc2, ⟨z9, rfl⟩, rfl⟩
    · exact absurd hc2 hc
    · show G 543 [(5, .int (nI (cod (xinD N (xs (i + 1))) (xinB 0 2 (xs (i + 2))) (decide (up = 1) && (decide (S 9 (ix (xs (i + 1))) = 2) && decide (S 14 (ix (xs (i + 1))) = -1)))))), (4, .int (nI i)), (3, .ref oa), (2, .ref (am 0)), (1, .ref (ad 0)), (0, .ref b)] [.int z9] [xoW ad up op tr, lkW D ad L, alW D e0 (ad 2) hs N, rwW D (ad 3) (ad 10) (ad 11) (ad 12) gf qf.length, rwW D (ad 4) (ad 13) (ad 14) (ad 15) gb qb.length, alW D e0 (ad 5) ht tq.length, dvW da N S om, moW am N tf tt bf bt up op tr tq.length (nI (cod (xinD N (xs (i + 1))) (xinB 0 2 (xs (i + 2))) (decide (up = 1) && (decide (S 9 (ix (xs (i + 1))) = 2) && decide (S 14 (ix (xs (i + 1))) = -1))))), mlW D am L, mdW D am S, rtW D am tg, rbW D am bg, tdW D am td, [(oa, .inl (D.1 12, 1, .inr (.inl f)))]] (k + 1) (n + 6)
      refine x_istore B (pc := 543) [(6, .int z9), (5, .int (nI (cod (xinD N (xs (i + 1))) (xinB 0 2 (xs (i + 2))) (decide (up = 1) && (decide (S 9 (ix (xs (i + 1))) = 2) && decide (S 14 (ix (xs (i + 1))) = -1)))))), (4, .int (nI i)), (3, .ref oa), (2, .ref (am 0)), (1, .ref (ad 0)), (0, .ref b)] dL_law_543 (by decide) rfl ?_
      refine x_aload_n B (pc := 545) 4 dL_law_545 rfl rfl ?_
      refine x_callV B (pc := 546) (As := []) (c_X4_thrown hl D e0 ) xcl_M rfl 0 0 rfl rfl tm716 tm717 tm718 tm7 tm719 md_X4_thrown ⟨Nat.le_of_ble_eq_true rfl, Nat.le_of_ble_eq_true rfl⟩ [7] rfl rfl rfl (Nat.le_of_ble_eq_true rfl) (by show k + 1 ≤ (601024 : Nat); omega) (by show n + 6 ≤ (7293034 : Nat); omega) dL_law_546 (fun E hE => False.elim hE) (fun v cs1 hp => ?_)
      obtain ⟨rfl, rfl⟩ := hp
      show G 549 [(6, .int z9), (5, .int (nI (cod (xinD N (xs (i + 1))) (xinB 0 2 (xs (i + 2))) (decide (up = 1) && (decide (S 9 (ix (xs (i + 1))) = 2) && decide (S 14 (ix (xs (i + 1))) = -1)))))), (4, .int (nI i)), (3, .ref oa), (2, .ref (am 0)), (1, .ref (ad 0)), (0, .ref b)] [.int (nI (cod (xinD N (xs (i + 1))) (xinB 0 2 (xs (i + 2))) (decide (up = 1) && (decide (S 9 (ix (xs (i + 1))) = 2) && decide (S 14 (ix (xs (i + 1))) = -1)))))] [xoW ad up op tr, lkW D ad L, alW D e0 (ad 2) hs N, rwW D (ad 3) (ad 10) (ad 11) (ad 12) gf qf.length, rwW D (ad 4) (ad 13) (ad 14) (ad 15) gb qb.length, alW D e0 (ad 5) ht tq.length, dvW da N S om, moW am N tf tt bf bt up op tr tq.length (nI (cod (xinD N (xs (i + 1))) (xinB 0 2 (xs (i + 2))) (decide (up = 1) && (decide (S 9 (ix (xs (i + 1))) = 2) && decide (S 14 (ix (xs (i + 1))) = -1))))), mlW D am L, mdW D am S, rtW D am tg, rbW D am bg, tdW D am td, [(oa, .inl (D.1 12, 1, .inr (.inl f)))]] (k + 1) (n + 6)
      refine x_iload B (pc := 549) 1 dL_law_549 rfl ?_
      refine x_icmp_eq B (pc := 551) 556 dL_law_551 (by decide) (fun h551 => ?_) (fun h551 => absurd rfl h551)
      refine x_iload B (pc := 556) 1 dL_law_556 rfl ?_
      refine x_if_ne B (pc := 558) 573 dL_law_558 (by decide) (fun h558 => ?_) (fun h558 => absurd h558 (cod_nz hc))
      refine x_goto B (pc := 573) 1137 dL_law_573 (by decide) ?_
      refine x_lv B [2, 3, 4, 5, 6] [(4, .int (nI i)), (3, .ref oa), (2, .ref (am 0)), (1, .ref (ad 0)), (0, .ref b)] rfl ?_
      refine x_wid B (k + 4) (n + 300) (by omega) (by omega) ?_
      exact K da hs ht gf gb om L S N qf qb up op tr tq tf tt bf bt tg bg td (nI (cod (xinD N (xs (i + 1))) (xinB 0 2 (xs (i + 2))) (decide (up = 1) && (decide (S 9 (ix (xs (i + 1))) = 2) && decide (S 14 (ix (xs (i + 1))) = -1))))) f ⟨aInv_more (hI) (by omega), ⟨hok, hot, hq, hqb⟩, ⟨hmf, hmb, htd⟩, (by omega), (by omega)⟩

set_option maxRecDepth 100000 in
set_option maxHeartbeats 4000000 in
/-- the call deliveries -/
theorem st_deliveries {l : Launch} (hl : l.stackTraces = false) (D : va_G) (e0 : Nat) {b Ls : Nat} {xs : Nat → Int32} {G : xGt} {X : xXt} (B0 : xL l D e0 b Ls xs G X) {ad am : Nat → Nat} {oa i t k n : Nat} (hi : i + 3 ≤ Ls) (hLs : Ls ≤ 1536) (ht9 : t < 512) (hk : k ≤ 4000) (hn : n ≤ 300000) (K : lTo G D e0 ad am oa b i (t + 1) (k + 4) (n + 300) 1137) : lTo G D e0 ad am oa b i t k n 576 := by
  intro da hs ht gf gb om L S N qf qb up op tr tq tf tt bf bt tg bg td th f hg
  obtain ⟨hI, ⟨hok, hot, hq, hqb⟩, ⟨hmf, hmb, htd⟩, htt, hbt⟩ := hg
  obtain ⟨hup, hop, hL, hN, hS, hF, hB, hPhi, hlen, hdn⟩ := id hI
  have hT := tq_len hI
  have hin := tq_in hS
  have hin60 : ∀ i, i < tq.length → tq.getD i 0 < 60 := fun i h => Nat.lt_of_lt_of_le (hin i h) hN
  have hl4 : ∀ d, d < N → ∃ j, j < 4 ∧ S 4 d = nI j := fun d hd => (hS.2.1 d hd).1
  have h69 : ∀ d, d < N → ∃ m, m ≤ 4 ∧ S 6 d = nI m := fun d hd => (hS.2.1 d hd).2.1
  have h79 : ∀ d, d < N → S 7 d = 0 ∨ S 7 d = 1 := fun d hd => (hS.2.1 d hd).2.2.1
  have h99 : ∀ d, d < N → S 9 d = 0 ∨ S 9 d = 1 ∨ S 9 d = 2 ∨ S 9 d = 3 ∨ S 9 d = 4 := fun d hd => (hS.2.1 d hd).2.2.2.1
  have hfe := hmf.1
  have hbe := hmb.1
  obtain ⟨hh, B⟩ := B0.base
  show G 576 [(4, .int (nI i)), (3, .ref oa), (2, .ref (am 0)), (1, .ref (ad 0)), (0, .ref b)] [] [xoW ad up op tr, lkW D ad L, alW D e0 (ad 2) hs N, rwW D (ad 3) (ad 10) (ad 11) (ad 12) gf qf.length, rwW D (ad 4) (ad 13) (ad 14) (ad 15) gb qb.length, alW D e0 (ad 5) ht tq.length, dvW da N S om, moW am N tf tt bf bt up op tr tq.length th, mlW D am L, mdW D am S, rtW D am tg, rbW D am bg, tdW D am td, [(oa, .inl (D.1 12, 1, .inr (.inl f)))]] k n
  refine x_aload_n B (pc := 576) 3 dL_law_576 rfl rfl ?_
  refine x_callV B (pc := 577) (As := []) (c_X3_deliveries hl D e0 ) xcl_X rfl 0 0 rfl rfl tm126 tm127 tm128 tm1 tm129 md_X3_deliveries ⟨Nat.le_of_ble_eq_true rfl, Nat.le_of_ble_eq_true rfl⟩ [0, 2] rfl rfl rfl (Nat.le_of_ble_eq_true rfl) (by show k ≤ (601024 : Nat); omega) (by show n ≤ (7293034 : Nat); omega) dL_law_577 (fun E hE => False.elim hE) (fun v cs1 hp => ?_)
  obtain ⟨rfl, rfl⟩ := hp
  show G 580 [(4, .int (nI i)), (3, .ref oa), (2, .ref (am 0)), (1, .ref (ad 0)), (0, .ref b)] [.int (nI N)] [xoW ad up op tr, lkW D ad L, alW D e0 (ad 2) hs N, rwW D (ad 3) (ad 10) (ad 11) (ad 12) gf qf.length, rwW D (ad 4) (ad 13) (ad 14) (ad 15) gb qb.length, alW D e0 (ad 5) ht tq.length, dvW da N S om, moW am N tf tt bf bt up op tr tq.length th, mlW D am L, mdW D am S, rtW D am tg, rbW D am bg, tdW D am td, [(oa, .inl (D.1 12, 1, .inr (.inl f)))]] k n
  refine x_aload_n B (pc := 580) 2 dL_law_580 rfl rfl ?_
  refine x_callV B (pc := 581) (As := []) (c_X4_deliveries hl D e0 ) xcl_M rfl 0 0 rfl rfl tm794 tm795 tm796 tm7 tm797 md_X4_deliveries ⟨Nat.le_of_ble_eq_true rfl, Nat.le_of_ble_eq_true rfl⟩ [7] rfl rfl rfl (Nat.le_of_ble_eq_true rfl) (by show k ≤ (601024 : Nat); omega) (by show n ≤ (7293034 : Nat); omega) dL_law_581 (fun E hE => False.elim hE) (fun v cs1 hp => ?_)
  obtain ⟨rfl, rfl⟩ := hp
  show G 584 [(4, .int (nI i)), (3, .ref oa), (2, .ref (am 0)), (1, .ref (ad 0)), (0, .ref b)] [.int (nI N), .int (nI N)] [xoW ad up op tr, lkW D ad L, alW D e0 (ad 2) hs N, rwW D (ad 3) (ad 10) (ad 11) (ad 12) gf qf.length, rwW D (ad 4) (ad 13) (ad 14) (ad 15) gb qb.length, alW D e0 (ad 5) ht tq.length, dvW da N S om, moW am N tf tt bf bt up op tr tq.length 0, mlW D am L, mdW D am S, rtW D am tg, rbW D am bg, tdW D am td, [(oa, .inl (D.1 12, 1, .inr (.inl f)))]] k n
  refine x_icmp_eq B (pc := 584) 1137 dL_law_584 (by decide) (fun h584 => ?_) (fun h584 => absurd rfl h584)
  refine x_lv B [0, 1, 2, 3, 4] [(4, .int (nI i)), (3, .ref oa), (2, .ref (am 0)), (1, .ref (ad 0)), (0, .ref b)] rfl ?_
  refine x_wid B (k + 4) (n + 300) (by omega) (by omega) ?_
  exact K da hs ht gf gb om L S N qf qb up op tr tq tf tt bf bt tg bg td 0 f ⟨aInv_more (hI) (by omega), ⟨hok, hot, hq, hqb⟩, ⟨hmf, hmb, htd⟩, (by omega), (by omega)⟩
