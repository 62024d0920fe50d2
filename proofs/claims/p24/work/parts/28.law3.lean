/-! the law, step by step -/
set_option maxRecDepth 100000 in
set_option maxHeartbeats 4000000 in
/-- the call end1 -/
theorem st_end1 {l : Launch} (hl : l.stackTraces = false) (D : va_G) (e0 : Nat) {b Ls : Nat} {xs : Nat → Int32} {G : xGt} {X : xXt} (B0 : xL l D e0 b Ls xs G X) {ad bd : Nat → Nat} {i j mo v t k n : Nat} {a9 : Int32} (hj : j < 4) (hmo : mo < 4) (ht9 : t < 400) (hk : k ≤ 8000) (hn : n ≤ 300000) (K : lTo G D e0 ad bd mo (t + 1) (k + 4) (n + 424) 425 [(11, .int a9), (10, .int (nI ((j + mo) % 4))), (9, .int (nI j)), (5, .int (nI i)), (4, .int 1), (3, .int (nI mo)), (2, .ref (bd 0)), (1, .ref (ad 0)), (0, .ref b)]) : lTo G D e0 ad bd mo t k n 344 [(12, .int 5), (11, .int a9), (10, .int (nI ((j + mo) % 4))), (9, .int (nI j)), (8, .int (nI v)), (5, .int (nI i)), (4, .int 1), (3, .int (nI mo)), (2, .ref (bd 0)), (1, .ref (ad 0)), (0, .ref b)] := by
  intro da hs ht gf gb om L S qb db hs2 ht2 gf2 gb2 om2 L2 S2 qb2 N qf up op tr tq hg
  obtain ⟨hI, hI2, hR, ⟨hok, hot, hq, hqb⟩, ⟨hok2, hot2, hq2, hqb2⟩⟩ := id hg
  obtain ⟨hup, hop, hL, hN, hS, hF, hB, hPhi, hlen, hdn⟩ := id hI
  obtain ⟨-, -, hL2, -, hS2, -, hB2, hPhi2, hlen2, -⟩ := id hI2
  have hT := tq_len hI
  have hin := tq_in hS
  have hql2 := rl_len hR
  have hl4 : ∀ d, d < N → ∃ j, j < 4 ∧ S 4 d = nI j := fun d hd => (hS.2.1 d hd).1
  have hl42 : ∀ d, d < N → ∃ j, j < 4 ∧ S2 4 d = nI j := fun d hd => (hS2.2.1 d hd).1
  have h69 : ∀ d, d < N → ∃ m, m ≤ 4 ∧ S 6 d = nI m := fun d hd => (hS.2.1 d hd).2.1
  have h692 : ∀ d, d < N → ∃ m, m ≤ 4 ∧ S2 6 d = nI m := fun d hd => (hS2.2.1 d hd).2.1
  obtain ⟨hh, B, BS⟩ := B0.base
  show G 344 [(12, .int 5), (11, .int a9), (10, .int (nI ((j + mo) % 4))), (9, .int (nI j)), (8, .int (nI v)), (5, .int (nI i)), (4, .int 1), (3, .int (nI mo)), (2, .ref (bd 0)), (1, .ref (ad 0)), (0, .ref b)] [] [xoW ad up op tr, lkW D ad L, alW D e0 (ad 2) hs N, rwW D (ad 3) (ad 10) (ad 11) (ad 12) gf qf.length, rwW D (ad 4) (ad 13) (ad 14) (ad 15) gb qb.length, alW D e0 (ad 5) ht tq.length, dvW da N S om, xoW bd up op tr, lkW D bd L2, alW D e0 (bd 2) hs2 N, rwW D (bd 3) (bd 10) (bd 11) (bd 12) gf2 qf.length, rwW D (bd 4) (bd 13) (bd 14) (bd 15) gb2 qb2.length, alW D e0 (bd 5) ht2 tq.length, dvW db N S2 om2] k n
  have hCe : cod (decide (op = 1)) true true = cod (decide (op = 1)) true true := rfl
  refine x_aload_n B (pc := 344) 9 dL_law_344 rfl rfl ?_
  refine x_iload B (pc := 345) 0 dL_law_345 rfl ?_
  refine x_iconst B (pc := 347) 1 dL_law_347 (by decide) ?_
  refine x_callSX B (pc := 348) (As := [.ref (ad 0), .int 5, .int 1]) (c_goes_end1 hl D e0 hop hot hT hin hqb (by omega) (tq_w hS)) tm470 tm471 tm0 tm472 md_L_goes ⟨Nat.le_of_ble_eq_true rfl, Nat.le_of_ble_eq_true rfl⟩ [0, 4, 5, 6] rfl rfl rfl (Nat.le_of_ble_eq_true rfl) (by show k + 1 ≤ (619123 : Nat); omega) (by show n + 6 ≤ (7243813 : Nat); omega) dL_law_348 (fun E hE => False.elim hE) (fun v cs1 hp => ?_)
  rcases hp with ⟨hc, rfl, h1, g1, hf0, hf1, rfl⟩ | ⟨hc, rfl, rfl⟩
  · show G 351 [(12, .int 5), (11, .int a9), (10, .int (nI ((j + mo) % 4))), (9, .int (nI j)), (8, .int (nI v)), (5, .int (nI i)), (4, .int 1), (3, .int (nI mo)), (2, .ref (bd 0)), (1, .ref (ad 0)), (0, .ref b)] [.int (eR tq 1)] [xoW ad up 0 tr, lkW D ad L, alW D e0 (ad 2) hs N, rwW D (ad 3) (ad 10) (ad 11) (ad 12) gf qf.length, rwW D (ad 4) (ad 13) (ad 14) (ad 15) g1 ((eQ S qb tq 1).length), alW D e0 (ad 5) h1 0, dvW da N (eS S tq 1) (eM S om tq 1), xoW bd up op tr, lkW D bd L2, alW D e0 (bd 2) hs2 N, rwW D (bd 3) (bd 10) (bd 11) (bd 12) gf2 qf.length, rwW D (bd 4) (bd 13) (bd 14) (bd 15) gb2 qb2.length, alW D e0 (bd 5) ht2 tq.length, dvW db N S2 om2] (k + 1) (n + 6)
    refine x_aload_n B (pc := 351) 8 dL_law_351 rfl rfl ?_
    refine x_iload B (pc := 352) 0 dL_law_352 rfl ?_
    refine x_iconst B (pc := 354) 1 dL_law_354 (by decide) ?_
    refine x_callSX B (pc := 355) (As := [.ref (bd 0), .int 5, .int 1]) (c_goes_end1 hl D e0 hop hot2 hT hin hqb2 (by omega) (tq_w hS2)) tm470 tm471 tm0 tm472 md_L_goes ⟨Nat.le_of_ble_eq_true rfl, Nat.le_of_ble_eq_true rfl⟩ [7, 11, 12, 13] rfl rfl rfl (Nat.le_of_ble_eq_true rfl) (by show k + 1 + 1 ≤ (619123 : Nat); omega) (by show n + 6 + 6 ≤ (7243813 : Nat); omega) dL_law_355 (fun E hE => False.elim hE) (fun v cs1 hp => ?_)
    rcases hp with ⟨hc2, rfl, h1b, g1b, hg0, hg1, rfl⟩ | ⟨hc2, hz2⟩
    · show G 358 [(12, .int 5), (11, .int a9), (10, .int (nI ((j + mo) % 4))), (9, .int (nI j)), (8, .int (nI v)), (5, .int (nI i)), (4, .int 1), (3, .int (nI mo)), (2, .ref (bd 0)), (1, .ref (ad 0)), (0, .ref b)] [.int (eR tq 1), .int (eR tq 1)] [xoW ad up 0 tr, lkW D ad L, alW D e0 (ad 2) hs N, rwW D (ad 3) (ad 10) (ad 11) (ad 12) gf qf.length, rwW D (ad 4) (ad 13) (ad 14) (ad 15) g1 ((eQ S qb tq 1).length), alW D e0 (ad 5) h1 0, dvW da N (eS S tq 1) (eM S om tq 1), xoW bd up 0 tr, lkW D bd L2, alW D e0 (bd 2) hs2 N, rwW D (bd 3) (bd 10) (bd 11) (bd 12) gf2 qf.length, rwW D (bd 4) (bd 13) (bd 14) (bd 15) g1b ((eQ S2 qb2 tq 1).length), alW D e0 (bd 5) h1b 0, dvW db N (eS S2 tq 1) (eM S2 om2 tq 1)] (k + 1 + 1) (n + 6 + 6)
      refine x_icmp_ne B (pc := 358) 365 dL_law_358 (by decide) (fun h358 => absurd rfl h358) (fun h358 => ?_)
      refine x_iconst B (pc := 361) 1 dL_law_361 (by decide) ?_
      refine x_goto B (pc := 362) 366 dL_law_362 (by decide) ?_
      refine x_istore B (pc := 366) [(4, .int 1), (12, .int 5), (11, .int a9), (10, .int (nI ((j + mo) % 4))), (9, .int (nI j)), (8, .int (nI v)), (5, .int (nI i)), (3, .int (nI mo)), (2, .ref (bd 0)), (1, .ref (ad 0)), (0, .ref b)] dL_law_366 (by decide) rfl ?_
      refine x_goto B (pc := 368) 425 dL_law_368 (by decide) ?_
      refine x_lv B [2, 3, 4, 6, 0, 7, 8, 9, 10] [(11, .int a9), (10, .int (nI ((j + mo) % 4))), (9, .int (nI j)), (5, .int (nI i)), (4, .int 1), (3, .int (nI mo)), (2, .ref (bd 0)), (1, .ref (ad 0)), (0, .ref b)] rfl ?_
      refine x_wid B (k + 4) (n + 424) (by omega) (by omega) ?_
      exact K da hs h1 gf g1 (eM S om tq 1) L (eS S tq 1) (eQ S qb tq 1) db hs2 h1b gf2 g1b (eM S2 om2 tq 1) L2 (eS S2 tq 1) (eQ S2 qb2 tq 1) N qf up 0 tr ([]) ⟨aInv_more (aInv_end hI hc) (by omega), aInv_more (aInv_end hI2 hc2) (by omega), rl_end hR, ⟨hok, hf0 _, hq, hf1⟩, ⟨hok2, hg0 _, hq2, hg1⟩⟩
    · exact absurd (hCe.trans hc) hc2
  · show G 351 [(12, .int 5), (11, .int a9), (10, .int (nI ((j + mo) % 4))), (9, .int (nI j)), (8, .int (nI v)), (5, .int (nI i)), (4, .int 1), (3, .int (nI mo)), (2, .ref (bd 0)), (1, .ref (ad 0)), (0, .ref b)] [.int (-8)] [xoW ad up op tr, lkW D ad L, alW D e0 (ad 2) hs N, rwW D (ad 3) (ad 10) (ad 11) (ad 12) gf qf.length, rwW D (ad 4) (ad 13) (ad 14) (ad 15) gb qb.length, alW D e0 (ad 5) ht tq.length, dvW da N S om, xoW bd up op tr, lkW D bd L2, alW D e0 (bd 2) hs2 N, rwW D (bd 3) (bd 10) (bd 11) (bd 12) gf2 qf.length, rwW D (bd 4) (bd 13) (bd 14) (bd 15) gb2 qb2.length, alW D e0 (bd 5) ht2 tq.length, dvW db N S2 om2] (k + 1) (n + 6)
    refine x_aload_n B (pc := 351) 8 dL_law_351 rfl rfl ?_
    refine x_iload B (pc := 352) 0 dL_law_352 rfl ?_
    refine x_iconst B (pc := 354) 1 dL_law_354 (by decide) ?_
    refine x_callSX B (pc := 355) (As := [.ref (bd 0), .int 5, .int 1]) (c_goes_end1 hl D e0 hop hot2 hT hin hqb2 (by omega) (tq_w hS2)) tm470 tm471 tm0 tm472 md_L_goes ⟨Nat.le_of_ble_eq_true rfl, Nat.le_of_ble_eq_true rfl⟩ [7, 11, 12, 13] rfl rfl rfl (Nat.le_of_ble_eq_true rfl) (by show k + 1 + 1 ≤ (619123 : Nat); omega) (by show n + 6 + 6 ≤ (7243813 : Nat); omega) dL_law_355 (fun E hE => False.elim hE) (fun v cs1 hp => ?_)
    rcases hp with ⟨hc2, hz2⟩ | ⟨hc2, rfl, rfl⟩
    · exact absurd (hCe.symm.trans hc2) hc
    · show G 358 [(12, .int 5), (11, .int a9), (10, .int (nI ((j + mo) % 4))), (9, .int (nI j)), (8, .int (nI v)), (5, .int (nI i)), (4, .int 1), (3, .int (nI mo)), (2, .ref (bd 0)), (1, .ref (ad 0)), (0, .ref b)] [.int (-8), .int (-8)] [xoW ad up op tr, lkW D ad L, alW D e0 (ad 2) hs N, rwW D (ad 3) (ad 10) (ad 11) (ad 12) gf qf.length, rwW D (ad 4) (ad 13) (ad 14) (ad 15) gb qb.length, alW D e0 (ad 5) ht tq.length, dvW da N S om, xoW bd up op tr, lkW D bd L2, alW D e0 (bd 2) hs2 N, rwW D (bd 3) (bd 10) (bd 11) (bd 12) gf2 qf.length, rwW D (bd 4) (bd 13) (bd 14) (bd 15) gb2 qb2.length, alW D e0 (bd 5) ht2 tq.length, dvW db N S2 om2] (k + 1 + 1) (n + 6 + 6)
      refine x_icmp_ne B (pc := 358) 365 dL_law_358 (by decide) (fun h358 => absurd rfl h358) (fun h358 => ?_)
      refine x_iconst B (pc := 361) 1 dL_law_361 (by decide) ?_
      refine x_goto B (pc := 362) 366 dL_law_362 (by decide) ?_
      refine x_istore B (pc := 366) [(4, .int 1), (12, .int 5), (11, .int a9), (10, .int (nI ((j + mo) % 4))), (9, .int (nI j)), (8, .int (nI v)), (5, .int (nI i)), (3, .int (nI mo)), (2, .ref (bd 0)), (1, .ref (ad 0)), (0, .ref b)] dL_law_366 (by decide) rfl ?_
      refine x_goto B (pc := 368) 425 dL_law_368 (by decide) ?_
      refine x_lv B [2, 3, 4, 6, 0, 7, 8, 9, 10] [(11, .int a9), (10, .int (nI ((j + mo) % 4))), (9, .int (nI j)), (5, .int (nI i)), (4, .int 1), (3, .int (nI mo)), (2, .ref (bd 0)), (1, .ref (ad 0)), (0, .ref b)] rfl ?_
      refine x_wid B (k + 4) (n + 424) (by omega) (by omega) ?_
      exact K da hs ht gf gb om L S qb db hs2 ht2 gf2 gb2 om2 L2 S2 qb2 N qf up op tr tq ⟨aInv_more hI (by omega), aInv_more hI2 (by omega), hR, ⟨hok, hot, hq, hqb⟩, ⟨hok2, hot2, hq2, hqb2⟩⟩

set_option maxRecDepth 100000 in
set_option maxHeartbeats 4000000 in
/-- the call end0 -/
theorem st_end0 {l : Launch} (hl : l.stackTraces = false) (D : va_G) (e0 : Nat) {b Ls : Nat} {xs : Nat → Int32} {G : xGt} {X : xXt} (B0 : xL l D e0 b Ls xs G X) {ad bd : Nat → Nat} {i j mo v t k n : Nat} {a9 : Int32} (hj : j < 4) (hmo : mo < 4) (ht9 : t < 400) (hk : k ≤ 8000) (hn : n ≤ 300000) (K : lTo G D e0 ad bd mo (t + 1) (k + 4) (n + 424) 425 [(11, .int a9), (10, .int (nI ((j + mo) % 4))), (9, .int (nI j)), (5, .int (nI i)), (4, .int 1), (3, .int (nI mo)), (2, .ref (bd 0)), (1, .ref (ad 0)), (0, .ref b)]) : lTo G D e0 ad bd mo t k n 344 [(12, .int 6), (11, .int a9), (10, .int (nI ((j + mo) % 4))), (9, .int (nI j)), (8, .int (nI v)), (5, .int (nI i)), (4, .int 1), (3, .int (nI mo)), (2, .ref (bd 0)), (1, .ref (ad 0)), (0, .ref b)] := by
  intro da hs ht gf gb om L S qb db hs2 ht2 gf2 gb2 om2 L2 S2 qb2 N qf up op tr tq hg
  obtain ⟨hI, hI2, hR, ⟨hok, hot, hq, hqb⟩, ⟨hok2, hot2, hq2, hqb2⟩⟩ := id hg
  obtain ⟨hup, hop, hL, hN, hS, hF, hB, hPhi, hlen, hdn⟩ := id hI
  obtain ⟨-, -, hL2, -, hS2, -, hB2, hPhi2, hlen2, -⟩ := id hI2
  have hT := tq_len hI
  have hin := tq_in hS
  have hql2 := rl_len hR
  have hl4 : ∀ d, d < N → ∃ j, j < 4 ∧ S 4 d = nI j := fun d hd => (hS.2.1 d hd).1
  have hl42 : ∀ d, d < N → ∃ j, j < 4 ∧ S2 4 d = nI j := fun d hd => (hS2.2.1 d hd).1
  have h69 : ∀ d, d < N → ∃ m, m ≤ 4 ∧ S 6 d = nI m := fun d hd => (hS.2.1 d hd).2.1
  have h692 : ∀ d, d < N → ∃ m, m ≤ 4 ∧ S2 6 d = nI m := fun d hd => (hS2.2.1 d hd).2.1
  obtain ⟨hh, B, BS⟩ := B0.base
  show G 344 [(12, .int 6), (11, .int a9), (10, .int (nI ((j + mo) % 4))), (9, .int (nI j)), (8, .int (nI v)), (5, .int (nI i)), (4, .int 1), (3, .int (nI mo)), (2, .ref (bd 0)), (1, .ref (ad 0)), (0, .ref b)] [] [xoW ad up op tr, lkW D ad L, alW D e0 (ad 2) hs N, rwW D (ad 3) (ad 10) (ad 11) (ad 12) gf qf.length, rwW D (ad 4) (ad 13) (ad 14) (ad 15) gb qb.length, alW D e0 (ad 5) ht tq.length, dvW da N S om, xoW bd up op tr, lkW D bd L2, alW D e0 (bd 2) hs2 N, rwW D (bd 3) (bd 10) (bd 11) (bd 12) gf2 qf.length, rwW D (bd 4) (bd 13) (bd 14) (bd 15) gb2 qb2.length, alW D e0 (bd 5) ht2 tq.length, dvW db N S2 om2] k n
  have hCe : cod (decide (op = 1)) true true = cod (decide (op = 1)) true true := rfl
  refine x_aload_n B (pc := 344) 9 dL_law_344 rfl rfl ?_
  refine x_iload B (pc := 345) 0 dL_law_345 rfl ?_
  refine x_iconst B (pc := 347) 1 dL_law_347 (by decide) ?_
  refine x_callSX B (pc := 348) (As := [.ref (ad 0), .int 6, .int 1]) (c_goes_end0 hl D e0 hop hot hT hin hqb (by omega) (tq_w hS)) tm470 tm471 tm0 tm472 md_L_goes ⟨Nat.le_of_ble_eq_true rfl, Nat.le_of_ble_eq_true rfl⟩ [0, 4, 5, 6] rfl rfl rfl (Nat.le_of_ble_eq_true rfl) (by show k + 1 ≤ (619123 : Nat); omega) (by show n + 6 ≤ (7243813 : Nat); omega) dL_law_348 (fun E hE => False.elim hE) (fun v cs1 hp => ?_)
  rcases hp with ⟨hc, rfl, h1, g1, hf0, hf1, rfl⟩ | ⟨hc, rfl, rfl⟩
  · show G 351 [(12, .int 6), (11, .int a9), (10, .int (nI ((j + mo) % 4))), (9, .int (nI j)), (8, .int (nI v)), (5, .int (nI i)), (4, .int 1), (3, .int (nI mo)), (2, .ref (bd 0)), (1, .ref (ad 0)), (0, .ref b)] [.int (eR tq 0)] [xoW ad up 0 tr, lkW D ad L, alW D e0 (ad 2) hs N, rwW D (ad 3) (ad 10) (ad 11) (ad 12) gf qf.length, rwW D (ad 4) (ad 13) (ad 14) (ad 15) g1 ((eQ S qb tq 0).length), alW D e0 (ad 5) h1 0, dvW da N (eS S tq 0) (eM S om tq 0), xoW bd up op tr, lkW D bd L2, alW D e0 (bd 2) hs2 N, rwW D (bd 3) (bd 10) (bd 11) (bd 12) gf2 qf.length, rwW D (bd 4) (bd 13) (bd 14) (bd 15) gb2 qb2.length, alW D e0 (bd 5) ht2 tq.length, dvW db N S2 om2] (k + 1) (n + 6)
    refine x_aload_n B (pc := 351) 8 dL_law_351 rfl rfl ?_
    refine x_iload B (pc := 352) 0 dL_law_352 rfl ?_
    refine x_iconst B (pc := 354) 1 dL_law_354 (by decide) ?_
    refine x_callSX B (pc := 355) (As := [.ref (bd 0), .int 6, .int 1]) (c_goes_end0 hl D e0 hop hot2 hT hin hqb2 (by omega) (tq_w hS2)) tm470 tm471 tm0 tm472 md_L_goes ⟨Nat.le_of_ble_eq_true rfl, Nat.le_of_ble_eq_true rfl⟩ [7, 11, 12, 13] rfl rfl rfl (Nat.le_of_ble_eq_true rfl) (by show k + 1 + 1 ≤ (619123 : Nat); omega) (by show n + 6 + 6 ≤ (7243813 : Nat); omega) dL_law_355 (fun E hE => False.elim hE) (fun v cs1 hp => ?_)
    rcases hp with ⟨hc2, rfl, h1b, g1b, hg0, hg1, rfl⟩ | ⟨hc2, hz2⟩
    · show G 358 [(12, .int 6), (11, .int a9), (10, .int (nI ((j + mo) % 4))), (9, .int (nI j)), (8, .int (nI v)), (5, .int (nI i)), (4, .int 1), (3, .int (nI mo)), (2, .ref (bd 0)), (1, .ref (ad 0)), (0, .ref b)] [.int (eR tq 0), .int (eR tq 0)] [xoW ad up 0 tr, lkW D ad L, alW D e0 (ad 2) hs N, rwW D (ad 3) (ad 10) (ad 11) (ad 12) gf qf.length, rwW D (ad 4) (ad 13) (ad 14) (ad 15) g1 ((eQ S qb tq 0).length), alW D e0 (ad 5) h1 0, dvW da N (eS S tq 0) (eM S om tq 0), xoW bd up 0 tr, lkW D bd L2, alW D e0 (bd 2) hs2 N, rwW D (bd 3) (bd 10) (bd 11) (bd 12) gf2 qf.length, rwW D (bd 4) (bd 13) (bd 14) (bd 15) g1b ((eQ S2 qb2 tq 0).length), alW D e0 (bd 5) h1b 0, dvW db N (eS S2 tq 0) (eM S2 om2 tq 0)] (k + 1 + 1) (n + 6 + 6)
      refine x_icmp_ne B (pc := 358) 365 dL_law_358 (by decide) (fun h358 => absurd rfl h358) (fun h358 => ?_)
      refine x_iconst B (pc := 361) 1 dL_law_361 (by decide) ?_
      refine x_goto B (pc := 362) 366 dL_law_362 (by decide) ?_
      refine x_istore B (pc := 366) [(4, .int 1), (12, .int 6), (11, .int a9), (10, .int (nI ((j + mo) % 4))), (9, .int (nI j)), (8, .int (nI v)), (5, .int (nI i)), (3, .int (nI mo)), (2, .ref (bd 0)), (1, .ref (ad 0)), (0, .ref b)] dL_law_366 (by decide) rfl ?_
      refine x_goto B (pc := 368) 425 dL_law_368 (by decide) ?_
      refine x_lv B [2, 3, 4, 6, 0, 7, 8, 9, 10] [(11, .int a9), (10, .int (nI ((j + mo) % 4))), (9, .int (nI j)), (5, .int (nI i)), (4, .int 1), (3, .int (nI mo)), (2, .ref (bd 0)), (1, .ref (ad 0)), (0, .ref b)] rfl ?_
      refine x_wid B (k + 4) (n + 424) (by omega) (by omega) ?_
      exact K da hs h1 gf g1 (eM S om tq 0) L (eS S tq 0) (eQ S qb tq 0) db hs2 h1b gf2 g1b (eM S2 om2 tq 0) L2 (eS S2 tq 0) (eQ S2 qb2 tq 0) N qf up 0 tr ([]) ⟨aInv_more (aInv_end hI hc) (by omega), aInv_more (aInv_end hI2 hc2) (by omega), rl_end hR, ⟨hok, hf0 _, hq, hf1⟩, ⟨hok2, hg0 _, hq2, hg1⟩⟩
    · exact absurd (hCe.trans hc) hc2
  · show G 351 [(12, .int 6), (11, .int a9), (10, .int (nI ((j + mo) % 4))), (9, .int (nI j)), (8, .int (nI v)), (5, .int (nI i)), (4, .int 1), (3, .int (nI mo)), (2, .ref (bd 0)), (1, .ref (ad 0)), (0, .ref b)] [.int (-8)] [xoW ad up op tr, lkW D ad L, alW D e0 (ad 2) hs N, rwW D (ad 3) (ad 10) (ad 11) (ad 12) gf qf.length, rwW D (ad 4) (ad 13) (ad 14) (ad 15) gb qb.length, alW D e0 (ad 5) ht tq.length, dvW da N S om, xoW bd up op tr, lkW D bd L2, alW D e0 (bd 2) hs2 N, rwW D (bd 3) (bd 10) (bd 11) (bd 12) gf2 qf.length, rwW D (bd 4) (bd 13) (bd 14) (bd 15) gb2 qb2.length, alW D e0 (bd 5) ht2 tq.length, dvW db N S2 om2] (k + 1) (n + 6)
    refine x_aload_n B (pc := 351) 8 dL_law_351 rfl rfl ?_
    refine x_iload B (pc := 352) 0 dL_law_352 rfl ?_
    refine x_iconst B (pc := 354) 1 dL_law_354 (by decide) ?_
    refine x_callSX B (pc := 355) (As := [.ref (bd 0), .int 6, .int 1]) (c_goes_end0 hl D e0 hop hot2 hT hin hqb2 (by omega) (tq_w hS2)) tm470 tm471 tm0 tm472 md_L_goes ⟨Nat.le_of_ble_eq_true rfl, Nat.le_of_ble_eq_true rfl⟩ [7, 11, 12, 13] rfl rfl rfl (Nat.le_of_ble_eq_true rfl) (by show k + 1 + 1 ≤ (619123 : Nat); omega) (by show n + 6 + 6 ≤ (7243813 : Nat); omega) dL_law_355 (fun E hE => False.elim hE) (fun v cs1 hp => ?_)
    rcases hp with ⟨hc2, hz2⟩ | ⟨hc2, rfl, rfl⟩
    · exact absurd (hCe.symm.trans hc2) hc
    · show G 358 [(12, .int 6), (11, .int a9), (10, .int (nI ((j + mo) % 4))), (9, .int (nI j)), (8, .int (nI v)), (5, .int (nI i)), (4, .int 1), (3, .int (nI mo)), (2, .ref (bd 0)), (1, .ref (ad 0)), (0, .ref b)] [.int (-8), .int (-8)] [xoW ad up op tr, lkW D ad L, alW D e0 (ad 2) hs N, rwW D (ad 3) (ad 10) (ad 11) (ad 12) gf qf.length, rwW D (ad 4) (ad 13) (ad 14) (ad 15) gb qb.length, alW D e0 (ad 5) ht tq.length, dvW da N S om, xoW bd up op tr, lkW D bd L2, alW D e0 (bd 2) hs2 N, rwW D (bd 3) (bd 10) (bd 11) (bd 12) gf2 qf.length, rwW D (bd 4) (bd 13) (bd 14) (bd 15) gb2 qb2.length, alW D e0 (bd 5) ht2 tq.length, dvW db N S2 om2] (k + 1 + 1) (n + 6 + 6)
      refine x_icmp_ne B (pc := 358) 365 dL_law_358 (by decide) (fun h358 => absurd rfl h358) (fun h358 => ?_)
      refine x_iconst B (pc := 361) 1 dL_law_361 (by decide) ?_
      refine x_goto B (pc := 362) 366 dL_law_362 (by decide) ?_
      refine x_istore B (pc := 366) [(4, .int 1), (12, .int 6), (11, .int a9), (10, .int (nI ((j + mo) % 4))), (9, .int (nI j)), (8, .int (nI v)), (5, .int (nI i)), (3, .int (nI mo)), (2, .ref (bd 0)), (1, .ref (ad 0)), (0, .ref b)] dL_law_366 (by decide) rfl ?_
      refine x_goto B (pc := 368) 425 dL_law_368 (by decide) ?_
      refine x_lv B [2, 3, 4, 6, 0, 7, 8, 9, 10] [(11, .int a9), (10, .int (nI ((j + mo) % 4))), (9, .int (nI j)), (5, .int (nI i)), (4, .int 1), (3, .int (nI mo)), (2, .ref (bd 0)), (1, .ref (ad 0)), (0, .ref b)] rfl ?_
      refine x_wid B (k + 4) (n + 424) (by omega) (by omega) ?_
      exact K da hs ht gf gb om L S qb db hs2 ht2 gf2 gb2 om2 L2 S2 qb2 N qf up op tr tq ⟨aInv_more hI (by omega), aInv_more hI2 (by omega), hR, ⟨hok, hot, hq, hqb⟩, ⟨hok2, hot2, hq2, hqb2⟩⟩

set_option maxRecDepth 100000 in
set_option maxHeartbeats 4000000 in
/-- the call decide -/
theorem st_decide {l : Launch} (hl : l.stackTraces = false) (D : va_G) (e0 : Nat) {b Ls : Nat} {xs : Nat → Int32} {G : xGt} {X : xXt} (B0 : xL l D e0 b Ls xs G X) {ad bd : Nat → Nat} {i j mo v t k n : Nat} {a9 : Int32} (hj : j < 4) (hmo : mo < 4) (ht9 : t < 400) (hk : k ≤ 8000) (hn : n ≤ 300000) (K : lTo G D e0 ad bd mo (t + 1) (k + 4) (n + 424) 425 [(11, .int a9), (10, .int (nI ((j + mo) % 4))), (9, .int (nI j)), (5, .int (nI i)), (4, .int 1), (3, .int (nI mo)), (2, .ref (bd 0)), (1, .ref (ad 0)), (0, .ref b)]) : lTo G D e0 ad bd mo t k n 385 [(12, .int 3), (11, .int a9), (10, .int (nI ((j + mo) % 4))), (9, .int (nI j)), (8, .int (nI v)), (5, .int (nI i)), (4, .int 1), (3, .int (nI mo)), (2, .ref (bd 0)), (1, .ref (ad 0)), (0, .ref b)] := by
  intro da hs ht gf gb om L S qb db hs2 ht2 gf2 gb2 om2 L2 S2 qb2 N qf up op tr tq hg
  obtain ⟨hI, hI2, hR, ⟨hok, hot, hq, hqb⟩, ⟨hok2, hot2, hq2, hqb2⟩⟩ := id hg
  obtain ⟨hup, hop, hL, hN, hS, hF, hB, hPhi, hlen, hdn⟩ := id hI
  obtain ⟨-, -, hL2, -, hS2, -, hB2, hPhi2, hlen2, -⟩ := id hI2
  have hT := tq_len hI
  have hin := tq_in hS
  have hql2 := rl_len hR
  have hl4 : ∀ d, d < N → ∃ j, j < 4 ∧ S 4 d = nI j := fun d hd => (hS.2.1 d hd).1
  have hl42 : ∀ d, d < N → ∃ j, j < 4 ∧ S2 4 d = nI j := fun d hd => (hS2.2.1 d hd).1
  have h69 : ∀ d, d < N → ∃ m, m ≤ 4 ∧ S 6 d = nI m := fun d hd => (hS.2.1 d hd).2.1
  have h692 : ∀ d, d < N → ∃ m, m ≤ 4 ∧ S2 6 d = nI m := fun d hd => (hS2.2.1 d hd).2.1
  obtain ⟨hh, B, BS⟩ := B0.base
  show G 385 [(12, .int 3), (11, .int a9), (10, .int (nI ((j + mo) % 4))), (9, .int (nI j)), (8, .int (nI v)), (5, .int (nI i)), (4, .int 1), (3, .int (nI mo)), (2, .ref (bd 0)), (1, .ref (ad 0)), (0, .ref b)] [] [xoW ad up op tr, lkW D ad L, alW D e0 (ad 2) hs N, rwW D (ad 3) (ad 10) (ad 11) (ad 12) gf qf.length, rwW D (ad 4) (ad 13) (ad 14) (ad 15) gb qb.length, alW D e0 (ad 5) ht tq.length, dvW da N S om, xoW bd up op tr, lkW D bd L2, alW D e0 (bd 2) hs2 N, rwW D (bd 3) (bd 10) (bd 11) (bd 12) gf2 qf.length, rwW D (bd 4) (bd 13) (bd 14) (bd 15) gb2 qb2.length, alW D e0 (bd 5) ht2 tq.length, dvW db N S2 om2] k n
  obtain ⟨x9, hx9⟩ : ∃ x9 : Int32, x9 = nI v / 60 - nI v / 60 / 3 * 3 := ⟨_, rfl⟩
  have hCe : cod (xinD N a9) (xinB 0 2 x9) (decide (up = 1) && (decide (S2 9 (ix a9) = 2) && decide (S2 14 (ix a9) = -1))) = cod (xinD N a9) (xinB 0 2 x9) (decide (up = 1) && (decide (S 9 (ix a9) = 2) && decide (S 14 (ix a9) = -1))) := by rw [rl_und hR]
  refine x_aload_n B (pc := 385) 9 dL_law_385 rfl rfl ?_
  refine x_iload B (pc := 386) 0 dL_law_386 rfl ?_
  refine x_iload B (pc := 388) 1 dL_law_388 rfl ?_
  refine x_iload B (pc := 390) 4 dL_law_390 rfl ?_
  refine x_bipush B (pc := 392) 60 dL_law_392 (by decide) ?_
  refine x_idiv B (pc := 394) dL_law_394 (by decide) ?_
  refine x_iconst B (pc := 395) 3 dL_law_395 (by decide) ?_
  refine x_irem B (pc := 396) dL_law_396 (by decide) ?_
  refine x_val B (y := x9) hx9.symm ?_
  refine x_callSX B (pc := 397) (As := [.ref (ad 0), .int 3, .int a9, .int x9]) (c_does_decide hl D e0 hup hok hN hqb (by omega)) tm176 tm177 tm0 tm178 md_L_does ⟨Nat.le_of_ble_eq_true rfl, Nat.le_of_ble_eq_true rfl⟩ [0, 2, 4, 6] rfl rfl rfl (Nat.le_of_ble_eq_true rfl) (by show k + 1 ≤ (619123 : Nat); omega) (by show n + 6 ≤ (7243813 : Nat); omega) dL_law_397 (fun E hE => False.elim hE) (fun v cs1 hp => ?_)
  rcases hp with ⟨hc, rfl, g1, hf0, rfl⟩ | ⟨hc, rfl, rfl⟩
  · show G 400 [(12, .int 3), (11, .int a9), (10, .int (nI ((j + mo) % 4))), (9, .int (nI j)), (8, .int (nI v)), (5, .int (nI i)), (4, .int 1), (3, .int (nI mo)), (2, .ref (bd 0)), (1, .ref (ad 0)), (0, .ref b)] [.int (aDec S (ix a9) x9 13 (ix a9))] [xoW ad up op tr, lkW D ad L, alW D e0 (ad 2) hs N, rwW D (ad 3) (ad 10) (ad 11) (ad 12) gf qf.length, rwW D (ad 4) (ad 13) (ad 14) (ad 15) g1 ((aOut S (ix a9) (ix x9) qb).length), alW D e0 (ad 5) ht tq.length, dvW da N (aDec S (ix a9) x9) (upd om (ix a9) x9), xoW bd up op tr, lkW D bd L2, alW D e0 (bd 2) hs2 N, rwW D (bd 3) (bd 10) (bd 11) (bd 12) gf2 qf.length, rwW D (bd 4) (bd 13) (bd 14) (bd 15) gb2 qb2.length, alW D e0 (bd 5) ht2 tq.length, dvW db N S2 om2] (k + 1) (n + 6)
    refine x_aload_n B (pc := 400) 8 dL_law_400 rfl rfl ?_
    refine x_iload B (pc := 401) 0 dL_law_401 rfl ?_
    refine x_iload B (pc := 403) 1 dL_law_403 rfl ?_
    refine x_iload B (pc := 405) 4 dL_law_405 rfl ?_
    refine x_bipush B (pc := 407) 60 dL_law_407 (by decide) ?_
    refine x_idiv B (pc := 409) dL_law_409 (by decide) ?_
    refine x_iconst B (pc := 410) 3 dL_law_410 (by decide) ?_
    refine x_irem B (pc := 411) dL_law_411 (by decide) ?_
    refine x_val B (y := x9) hx9.symm ?_
    refine x_callSX B (pc := 412) (As := [.ref (bd 0), .int 3, .int a9, .int x9]) (c_does_decide hl D e0 hup hok2 hN hqb2 (by omega)) tm176 tm177 tm0 tm178 md_L_does ⟨Nat.le_of_ble_eq_true rfl, Nat.le_of_ble_eq_true rfl⟩ [7, 9, 11, 13] rfl rfl rfl (Nat.le_of_ble_eq_true rfl) (by show k + 1 + 1 ≤ (619123 : Nat); omega) (by show n + 6 + 6 ≤ (7243813 : Nat); omega) dL_law_412 (fun E hE => False.elim hE) (fun v cs1 hp => ?_)
    rcases hp with ⟨hc2, rfl, g1b, hg0, rfl⟩ | ⟨hc2, hz2⟩
    · show G 415 [(12, .int 3), (11, .int a9), (10, .int (nI ((j + mo) % 4))), (9, .int (nI j)), (8, .int (nI v)), (5, .int (nI i)), (4, .int 1), (3, .int (nI mo)), (2, .ref (bd 0)), (1, .ref (ad 0)), (0, .ref b)] [.int (aDec S2 (ix a9) x9 13 (ix a9)), .int (aDec S (ix a9) x9 13 (ix a9))] [xoW ad up op tr, lkW D ad L, alW D e0 (ad 2) hs N, rwW D (ad 3) (ad 10) (ad 11) (ad 12) gf qf.length, rwW D (ad 4) (ad 13) (ad 14) (ad 15) g1 ((aOut S (ix a9) (ix x9) qb).length), alW D e0 (ad 5) ht tq.length, dvW da N (aDec S (ix a9) x9) (upd om (ix a9) x9), xoW bd up op tr, lkW D bd L2, alW D e0 (bd 2) hs2 N, rwW D (bd 3) (bd 10) (bd 11) (bd 12) gf2 qf.length, rwW D (bd 4) (bd 13) (bd 14) (bd 15) g1b ((aOut S2 (ix a9) (ix x9) qb2).length), alW D e0 (bd 5) ht2 tq.length, dvW db N (aDec S2 (ix a9) x9) (upd om2 (ix a9) x9)] (k + 1 + 1) (n + 6 + 6)
      refine x_icmp_ne B (pc := 415) 422 dL_law_415 (by decide) (fun h415 => absurd (congrFun (sR_k (sR_dec hR.2.1) (k := 13) (by decide)) _).symm h415) (fun h415 => ?_)
      refine x_iconst B (pc := 418) 1 dL_law_418 (by decide) ?_
      refine x_goto B (pc := 419) 423 dL_law_419 (by decide) ?_
      refine x_istore B (pc := 423) [(4, .int 1), (12, .int 3), (11, .int a9), (10, .int (nI ((j + mo) % 4))), (9, .int (nI j)), (8, .int (nI v)), (5, .int (nI i)), (3, .int (nI mo)), (2, .ref (bd 0)), (1, .ref (ad 0)), (0, .ref b)] dL_law_423 (by decide) rfl ?_
      refine x_lv B [2, 3, 4, 6, 0, 7, 8, 9, 10] [(11, .int a9), (10, .int (nI ((j + mo) % 4))), (9, .int (nI j)), (5, .int (nI i)), (4, .int 1), (3, .int (nI mo)), (2, .ref (bd 0)), (1, .ref (ad 0)), (0, .ref b)] rfl ?_
      refine x_wid B (k + 4) (n + 424) (by omega) (by omega) ?_
      exact K da hs ht gf g1 (upd om (ix a9) x9) L (aDec S (ix a9) x9) (aOut S (ix a9) (ix x9) qb) db hs2 ht2 gf2 g1b (upd om2 (ix a9) x9) L2 (aDec S2 (ix a9) x9) (aOut S2 (ix a9) (ix x9) qb2) N qf up op tr tq ⟨aInv_more (aInv_decide hI hc) (by omega), aInv_more (aInv_decide hI2 hc2) (by omega), rl_decide hR, ⟨hok, hot, hq, hf0⟩, ⟨hok2, hot2, hq2, hg0⟩⟩
    · exact absurd (hCe.trans hc) hc2
  · show G 400 [(12, .int 3), (11, .int a9), (10, .int (nI ((j + mo) % 4))), (9, .int (nI j)), (8, .int (nI v)), (5, .int (nI i)), (4, .int 1), (3, .int (nI mo)), (2, .ref (bd 0)), (1, .ref (ad 0)), (0, .ref b)] [.int (-8)] [xoW ad up op tr, lkW D ad L, alW D e0 (ad 2) hs N, rwW D (ad 3) (ad 10) (ad 11) (ad 12) gf qf.length, rwW D (ad 4) (ad 13) (ad 14) (ad 15) gb qb.length, alW D e0 (ad 5) ht tq.length, dvW da N S om, xoW bd up op tr, lkW D bd L2, alW D e0 (bd 2) hs2 N, rwW D (bd 3) (bd 10) (bd 11) (bd 12) gf2 qf.length, rwW D (bd 4) (bd 13) (bd 14) (bd 15) gb2 qb2.length, alW D e0 (bd 5) ht2 tq.length, dvW db N S2 om2] (k + 1) (n + 6)
    refine x_aload_n B (pc := 400) 8 dL_law_400 rfl rfl ?_
    refine x_iload B (pc := 401) 0 dL_law_401 rfl ?_
    refine x_iload B (pc := 403) 1 dL_law_403 rfl ?_
    refine x_iload B (pc := 405) 4 dL_law_405 rfl ?_
    refine x_bipush B (pc := 407) 60 dL_law_407 (by decide) ?_
    refine x_idiv B (pc := 409) dL_law_409 (by decide) ?_
    refine x_iconst B (pc := 410) 3 dL_law_410 (by decide) ?_
    refine x_irem B (pc := 411) dL_law_411 (by decide) ?_
    refine x_val B (y := x9) hx9.symm ?_
    refine x_callSX B (pc := 412) (As := [.ref (bd 0), .int 3, .int a9, .int x9]) (c_does_decide hl D e0 hup hok2 hN hqb2 (by omega)) tm176 tm177 tm0 tm178 md_L_does ⟨Nat.le_of_ble_eq_true rfl, Nat.le_of_ble_eq_true rfl⟩ [7, 9, 11, 13] rfl rfl rfl (Nat.le_of_ble_eq_true rfl) (by show k + 1 + 1 ≤ (619123 : Nat); omega) (by show n + 6 + 6 ≤ (7243813 : Nat); omega) dL_law_412 (fun E hE => False.elim hE) (fun v cs1 hp => ?_)
    rcases hp with ⟨hc2, hz2⟩ | ⟨hc2, rfl, rfl⟩
    · exact absurd (hCe.symm.trans hc2) hc
    · show G 415 [(12, .int 3), (11, .int a9), (10, .int (nI ((j + mo) % 4))), (9, .int (nI j)), (8, .int (nI v)), (5, .int (nI i)), (4, .int 1), (3, .int (nI mo)), (2, .ref (bd 0)), (1, .ref (ad 0)), (0, .ref b)] [.int (-8), .int (-8)] [xoW ad up op tr, lkW D ad L, alW D e0 (ad 2) hs N, rwW D (ad 3) (ad 10) (ad 11) (ad 12) gf qf.length, rwW D (ad 4) (ad 13) (ad 14) (ad 15) gb qb.length, alW D e0 (ad 5) ht tq.length, dvW da N S om, xoW bd up op tr, lkW D bd L2, alW D e0 (bd 2) hs2 N, rwW D (bd 3) (bd 10) (bd 11) (bd 12) gf2 qf.length, rwW D (bd 4) (bd 13) (bd 14) (bd 15) gb2 qb2.length, alW D e0 (bd 5) ht2 tq.length, dvW db N S2 om2] (k + 1 + 1) (n + 6 + 6)
      refine x_icmp_ne B (pc := 415) 422 dL_law_415 (by decide) (fun h415 => absurd rfl h415) (fun h415 => ?_)
      refine x_iconst B (pc := 418) 1 dL_law_418 (by decide) ?_
      refine x_goto B (pc := 419) 423 dL_law_419 (by decide) ?_
      refine x_istore B (pc := 423) [(4, .int 1), (12, .int 3), (11, .int a9), (10, .int (nI ((j + mo) % 4))), (9, .int (nI j)), (8, .int (nI v)), (5, .int (nI i)), (3, .int (nI mo)), (2, .ref (bd 0)), (1, .ref (ad 0)), (0, .ref b)] dL_law_423 (by decide) rfl ?_
      refine x_lv B [2, 3, 4, 6, 0, 7, 8, 9, 10] [(11, .int a9), (10, .int (nI ((j + mo) % 4))), (9, .int (nI j)), (5, .int (nI i)), (4, .int 1), (3, .int (nI mo)), (2, .ref (bd 0)), (1, .ref (ad 0)), (0, .ref b)] rfl ?_
      refine x_wid B (k + 4) (n + 424) (by omega) (by omega) ?_
      exact K da hs ht gf gb om L S qb db hs2 ht2 gf2 gb2 om2 L2 S2 qb2 N qf up op tr tq ⟨aInv_more hI (by omega), aInv_more hI2 (by omega), hR, ⟨hok, hot, hq, hqb⟩, ⟨hok2, hot2, hq2, hqb2⟩⟩

set_option maxRecDepth 100000 in
set_option maxHeartbeats 4000000 in
/-- the call tell -/
theorem st_tell {l : Launch} (hl : l.stackTraces = false) (D : va_G) (e0 : Nat) {b Ls : Nat} {xs : Nat → Int32} {G : xGt} {X : xXt} (B0 : xL l D e0 b Ls xs G X) {ad bd : Nat → Nat} {i j mo v t k n : Nat} {a9 : Int32} (hj : j < 4) (hmo : mo < 4) (ht9 : t < 400) (hk : k ≤ 8000) (hn : n ≤ 300000) (K : lTo G D e0 ad bd mo (t + 1) (k + 4) (n + 424) 425 [(11, .int a9), (10, .int (nI ((j + mo) % 4))), (9, .int (nI j)), (5, .int (nI i)), (4, .int 1), (3, .int (nI mo)), (2, .ref (bd 0)), (1, .ref (ad 0)), (0, .ref b)]) : lTo G D e0 ad bd mo t k n 385 [(12, .int 4), (11, .int a9), (10, .int (nI ((j + mo) % 4))), (9, .int (nI j)), (8, .int (nI v)), (5, .int (nI i)), (4, .int 1), (3, .int (nI mo)), (2, .ref (bd 0)), (1, .ref (ad 0)), (0, .ref b)] := by
  intro da hs ht gf gb om L S qb db hs2 ht2 gf2 gb2 om2 L2 S2 qb2 N qf up op tr tq hg
  obtain ⟨hI, hI2, hR, ⟨hok, hot, hq, hqb⟩, ⟨hok2, hot2, hq2, hqb2⟩⟩ := id hg
  obtain ⟨hup, hop, hL, hN, hS, hF, hB, hPhi, hlen, hdn⟩ := id hI
  obtain ⟨-, -, hL2, -, hS2, -, hB2, hPhi2, hlen2, -⟩ := id hI2
  have hT := tq_len hI
  have hin := tq_in hS
  have hql2 := rl_len hR
  have hl4 : ∀ d, d < N → ∃ j, j < 4 ∧ S 4 d = nI j := fun d hd => (hS.2.1 d hd).1
  have hl42 : ∀ d, d < N → ∃ j, j < 4 ∧ S2 4 d = nI j := fun d hd => (hS2.2.1 d hd).1
  have h69 : ∀ d, d < N → ∃ m, m ≤ 4 ∧ S 6 d = nI m := fun d hd => (hS.2.1 d hd).2.1
  have h692 : ∀ d, d < N → ∃ m, m ≤ 4 ∧ S2 6 d = nI m := fun d hd => (hS2.2.1 d hd).2.1
  obtain ⟨hh, B, BS⟩ := B0.base
  show G 385 [(12, .int 4), (11, .int a9), (10, .int (nI ((j + mo) % 4))), (9, .int (nI j)), (8, .int (nI v)), (5, .int (nI i)), (4, .int 1), (3, .int (nI mo)), (2, .ref (bd 0)), (1, .ref (ad 0)), (0, .ref b)] [] [xoW ad up op tr, lkW D ad L, alW D e0 (ad 2) hs N, rwW D (ad 3) (ad 10) (ad 11) (ad 12) gf qf.length, rwW D (ad 4) (ad 13) (ad 14) (ad 15) gb qb.length, alW D e0 (ad 5) ht tq.length, dvW da N S om, xoW bd up op tr, lkW D bd L2, alW D e0 (bd 2) hs2 N, rwW D (bd 3) (bd 10) (bd 11) (bd 12) gf2 qf.length, rwW D (bd 4) (bd 13) (bd 14) (bd 15) gb2 qb2.length, alW D e0 (bd 5) ht2 tq.length, dvW db N S2 om2] k n
  obtain ⟨x9, hx9⟩ : ∃ x9 : Int32, x9 = nI v / 60 - nI v / 60 / 3 * 3 := ⟨_, rfl⟩
  have hCe : cod (xinD N a9) (xinB 0 2 x9) (decide (op = 1) && (decide (S2 9 (ix a9) = 2) && decide (S2 14 (ix a9) = -1))) = cod (xinD N a9) (xinB 0 2 x9) (decide (op = 1) && (decide (S 9 (ix a9) = 2) && decide (S 14 (ix a9) = -1))) := by rw [rl_und hR]
  refine x_aload_n B (pc := 385) 9 dL_law_385 rfl rfl ?_
  refine x_iload B (pc := 386) 0 dL_law_386 rfl ?_
  refine x_iload B (pc := 388) 1 dL_law_388 rfl ?_
  refine x_iload B (pc := 390) 4 dL_law_390 rfl ?_
  refine x_bipush B (pc := 392) 60 dL_law_392 (by decide) ?_
  refine x_idiv B (pc := 394) dL_law_394 (by decide) ?_
  refine x_iconst B (pc := 395) 3 dL_law_395 (by decide) ?_
  refine x_irem B (pc := 396) dL_law_396 (by decide) ?_
  refine x_val B (y := x9) hx9.symm ?_
  refine x_callSX B (pc := 397) (As := [.ref (ad 0), .int 4, .int a9, .int x9]) (c_does_tell hl D e0 hop hok hN hot hT hin) tm176 tm177 tm0 tm178 md_L_does ⟨Nat.le_of_ble_eq_true rfl, Nat.le_of_ble_eq_true rfl⟩ [0, 2, 5, 6] rfl rfl rfl (Nat.le_of_ble_eq_true rfl) (by show k + 1 ≤ (619123 : Nat); omega) (by show n + 200 ≤ (7243813 : Nat); omega) dL_law_397 (fun E hE => False.elim hE) (fun v cs1 hp => ?_)
  rcases hp with ⟨hc, rfl, h1, hf0, rfl⟩ | ⟨hc, rfl, rfl⟩
  · show G 400 [(12, .int 4), (11, .int a9), (10, .int (nI ((j + mo) % 4))), (9, .int (nI j)), (8, .int (nI v)), (5, .int (nI i)), (4, .int 1), (3, .int (nI mo)), (2, .ref (bd 0)), (1, .ref (ad 0)), (0, .ref b)] [.int (nI (tq.length + 1))] [xoW ad up op tr, lkW D ad L, alW D e0 (ad 2) hs N, rwW D (ad 3) (ad 10) (ad 11) (ad 12) gf qf.length, rwW D (ad 4) (ad 13) (ad 14) (ad 15) gb qb.length, alW D e0 (ad 5) h1 (tq.length + 1), dvW da N (xup S 14 (ix a9) x9) om, xoW bd up op tr, lkW D bd L2, alW D e0 (bd 2) hs2 N, rwW D (bd 3) (bd 10) (bd 11) (bd 12) gf2 qf.length, rwW D (bd 4) (bd 13) (bd 14) (bd 15) gb2 qb2.length, alW D e0 (bd 5) ht2 tq.length, dvW db N S2 om2] (k + 1) (n + 200)
    refine x_aload_n B (pc := 400) 8 dL_law_400 rfl rfl ?_
    refine x_iload B (pc := 401) 0 dL_law_401 rfl ?_
    refine x_iload B (pc := 403) 1 dL_law_403 rfl ?_
    refine x_iload B (pc := 405) 4 dL_law_405 rfl ?_
    refine x_bipush B (pc := 407) 60 dL_law_407 (by decide) ?_
    refine x_idiv B (pc := 409) dL_law_409 (by decide) ?_
    refine x_iconst B (pc := 410) 3 dL_law_410 (by decide) ?_
    refine x_irem B (pc := 411) dL_law_411 (by decide) ?_
    refine x_val B (y := x9) hx9.symm ?_
    refine x_callSX B (pc := 412) (As := [.ref (bd 0), .int 4, .int a9, .int x9]) (c_does_tell hl D e0 hop hok2 hN hot2 hT hin) tm176 tm177 tm0 tm178 md_L_does ⟨Nat.le_of_ble_eq_true rfl, Nat.le_of_ble_eq_true rfl⟩ [7, 9, 12, 13] rfl rfl rfl (Nat.le_of_ble_eq_true rfl) (by show k + 1 + 1 ≤ (619123 : Nat); omega) (by show n + 200 + 200 ≤ (7243813 : Nat); omega) dL_law_412 (fun E hE => False.elim hE) (fun v cs1 hp => ?_)
    rcases hp with ⟨hc2, rfl, h1b, hg0, rfl⟩ | ⟨hc2, hz2⟩
    · show G 415 [(12, .int 4), (11, .int a9), (10, .int (nI ((j + mo) % 4))), (9, .int (nI j)), (8, .int (nI v)), (5, .int (nI i)), (4, .int 1), (3, .int (nI mo)), (2, .ref (bd 0)), (1, .ref (ad 0)), (0, .ref b)] [.int (nI (tq.length + 1)), .int (nI (tq.length + 1))] [xoW ad up op tr, lkW D ad L, alW D e0 (ad 2) hs N, rwW D (ad 3) (ad 10) (ad 11) (ad 12) gf qf.length, rwW D (ad 4) (ad 13) (ad 14) (ad 15) gb qb.length, alW D e0 (ad 5) h1 (tq.length + 1), dvW da N (xup S 14 (ix a9) x9) om, xoW bd up op tr, lkW D bd L2, alW D e0 (bd 2) hs2 N, rwW D (bd 3) (bd 10) (bd 11) (bd 12) gf2 qf.length, rwW D (bd 4) (bd 13) (bd 14) (bd 15) gb2 qb2.length, alW D e0 (bd 5) h1b (tq.length + 1), dvW db N (xup S2 14 (ix a9) x9) om2] (k + 1 + 1) (n + 200 + 200)
      refine x_icmp_ne B (pc := 415) 422 dL_law_415 (by decide) (fun h415 => absurd rfl h415) (fun h415 => ?_)
      refine x_iconst B (pc := 418) 1 dL_law_418 (by decide) ?_
      refine x_goto B (pc := 419) 423 dL_law_419 (by decide) ?_
      refine x_istore B (pc := 423) [(4, .int 1), (12, .int 4), (11, .int a9), (10, .int (nI ((j + mo) % 4))), (9, .int (nI j)), (8, .int (nI v)), (5, .int (nI i)), (3, .int (nI mo)), (2, .ref (bd 0)), (1, .ref (ad 0)), (0, .ref b)] dL_law_423 (by decide) rfl ?_
      refine x_lv B [2, 3, 4, 6, 0, 7, 8, 9, 10] [(11, .int a9), (10, .int (nI ((j + mo) % 4))), (9, .int (nI j)), (5, .int (nI i)), (4, .int 1), (3, .int (nI mo)), (2, .ref (bd 0)), (1, .ref (ad 0)), (0, .ref b)] rfl ?_
      refine x_wid B (k + 4) (n + 424) (by omega) (by omega) ?_
      rw [show tq.length + 1 = (tq ++ [ix a9]).length from by rw [List.length_append]; rfl]
      exact K da hs h1 gf gb om L (xup S 14 (ix a9) x9) qb db hs2 h1b gf2 gb2 om2 L2 (xup S2 14 (ix a9) x9) qb2 N qf up op tr (tq ++ [ix a9]) ⟨aInv_more (aInv_tell hI hc) (by omega), aInv_more (aInv_tell hI2 hc2) (by omega), rl_tell hR, ⟨hok, by rw [List.length_append]; exact hf0, hq, hqb⟩, ⟨hok2, by rw [List.length_append]; exact hg0, hq2, hqb2⟩⟩
    · exact absurd (hCe.trans hc) hc2
  · show G 400 [(12, .int 4), (11, .int a9), (10, .int (nI ((j + mo) % 4))), (9, .int (nI j)), (8, .int (nI v)), (5, .int (nI i)), (4, .int 1), (3, .int (nI mo)), (2, .ref (bd 0)), (1, .ref (ad 0)), (0, .ref b)] [.int (-8)] [xoW ad up op tr, lkW D ad L, alW D e0 (ad 2) hs N, rwW D (ad 3) (ad 10) (ad 11) (ad 12) gf qf.length, rwW D (ad 4) (ad 13) (ad 14) (ad 15) gb qb.length, alW D e0 (ad 5) ht tq.length, dvW da N S om, xoW bd up op tr, lkW D bd L2, alW D e0 (bd 2) hs2 N, rwW D (bd 3) (bd 10) (bd 11) (bd 12) gf2 qf.length, rwW D (bd 4) (bd 13) (bd 14) (bd 15) gb2 qb2.length, alW D e0 (bd 5) ht2 tq.length, dvW db N S2 om2] (k + 1) (n + 200)
    refine x_aload_n B (pc := 400) 8 dL_law_400 rfl rfl ?_
    refine x_iload B (pc := 401) 0 dL_law_401 rfl ?_
    refine x_iload B (pc := 403) 1 dL_law_403 rfl ?_
    refine x_iload B (pc := 405) 4 dL_law_405 rfl ?_
    refine x_bipush B (pc := 407) 60 dL_law_407 (by decide) ?_
    refine x_idiv B (pc := 409) dL_law_409 (by decide) ?_
    refine x_iconst B (pc := 410) 3 dL_law_410 (by decide) ?_
    refine x_irem B (pc := 411) dL_law_411 (by decide) ?_
    refine x_val B (y := x9) hx9.symm ?_
    refine x_callSX B (pc := 412) (As := [.ref (bd 0), .int 4, .int a9, .int x9]) (c_does_tell hl D e0 hop hok2 hN hot2 hT hin) tm176 tm177 tm0 tm178 md_L_does ⟨Nat.le_of_ble_eq_true rfl, Nat.le_of_ble_eq_true rfl⟩ [7, 9, 12, 13] rfl rfl rfl (Nat.le_of_ble_eq_true rfl) (by show k + 1 + 1 ≤ (619123 : Nat); omega) (by show n + 200 + 200 ≤ (7243813 : Nat); omega) dL_law_412 (fun E hE => False.elim hE) (fun v cs1 hp => ?_)
    rcases hp with ⟨hc2, hz2⟩ | ⟨hc2, rfl, rfl⟩
    · exact absurd (hCe.symm.trans hc2) hc
    · show G 415 [(12, .int 4), (11, .int a9), (10, .int (nI ((j + mo) % 4))), (9, .int (nI j)), (8, .int (nI v)), (5, .int (nI i)), (4, .int 1), (3, .int (nI mo)), (2, .ref (bd 0)), (1, .ref (ad 0)), (0, .ref b)] [.int (-8), .int (-8)] [xoW ad up op tr, lkW D ad L, alW D e0 (ad 2) hs N, rwW D (ad 3) (ad 10) (ad 11) (ad 12) gf qf.length, rwW D (ad 4) (ad 13) (ad 14) (ad 15) gb qb.length, alW D e0 (ad 5) ht tq.length, dvW da N S om, xoW bd up op tr, lkW D bd L2, alW D e0 (bd 2) hs2 N, rwW D (bd 3) (bd 10) (bd 11) (bd 12) gf2 qf.length, rwW D (bd 4) (bd 13) (bd 14) (bd 15) gb2 qb2.length, alW D e0 (bd 5) ht2 tq.length, dvW db N S2 om2] (k + 1 + 1) (n + 200 + 200)
      refine x_icmp_ne B (pc := 415) 422 dL_law_415 (by decide) (fun h415 => absurd rfl h415) (fun h415 => ?_)
      refine x_iconst B (pc := 418) 1 dL_law_418 (by decide) ?_
      refine x_goto B (pc := 419) 423 dL_law_419 (by decide) ?_
      refine x_istore B (pc := 423) [(4, .int 1), (12, .int 4), (11, .int a9), (10, .int (nI ((j + mo) % 4))), (9, .int (nI j)), (8, .int (nI v)), (5, .int (nI i)), (3, .int (nI mo)), (2, .ref (bd 0)), (1, .ref (ad 0)), (0, .ref b)] dL_law_423 (by decide) rfl ?_
      refine x_lv B [2, 3, 4, 6, 0, 7, 8, 9, 10] [(11, .int a9), (10, .int (nI ((j + mo) % 4))), (9, .int (nI j)), (5, .int (nI i)), (4, .int 1), (3, .int (nI mo)), (2, .ref (bd 0)), (1, .ref (ad 0)), (0, .ref b)] rfl ?_
      refine x_wid B (k + 4) (n + 424) (by omega) (by omega) ?_
      exact K da hs ht gf gb om L S qb db hs2 ht2 gf2 gb2 om2 L2 S2 qb2 N qf up op tr tq ⟨aInv_more hI (by omega), aInv_more hI2 (by omega), hR, ⟨hok, hot, hq, hqb⟩, ⟨hok2, hot2, hq2, hqb2⟩⟩
