/-! the law, step by step -/
set_option maxRecDepth 100000 in
set_option maxHeartbeats 4000000 in
/-- the comparisons behind an action -/
theorem st_check {l : Launch} (hl : l.stackTraces = false) (D : va_G) (e0 : Nat) {b Ls : Nat} {xs : Nat → Int32} {G : xGt} {X : xXt} (B0 : xL l D e0 b Ls xs G X) {ad bd : Nat → Nat} {i j mo v t k n : Nat} {a9 : Int32} (hj : j < 4) (hmo : mo < 4) (ht9 : t < 400) (hk : k ≤ 8000) (hn : n ≤ 300000) (K : lTo G D e0 ad bd mo t (k + 10) (n + 60) 555 [(5, .int (nI i)), (4, .int 1), (3, .int (nI mo)), (2, .ref (bd 0)), (1, .ref (ad 0)), (0, .ref b)]) : lTo G D e0 ad bd mo t k n 425 [(11, .int a9), (10, .int (nI ((j + mo) % 4))), (9, .int (nI j)), (5, .int (nI i)), (4, .int 1), (3, .int (nI mo)), (2, .ref (bd 0)), (1, .ref (ad 0)), (0, .ref b)] := by
  intro da hs ht gf gb om L S qb db hs2 ht2 gf2 gb2 om2 L2 S2 qb2 N qf up op tr tq hg
  obtain ⟨hI, hI2, hR, ⟨hok, hot, hq, hqb⟩, ⟨hok2, hot2, hq2, hqb2⟩⟩ := id hg
  obtain ⟨hup, hop, hL, hN, hS, hF, hB, hPhi, hlen, hdn⟩ := id hI
  obtain ⟨-, -, hL2, -, hS2, -, hB2, hPhi2, hlen2, -⟩ := id hI2
  have hT := tq_len hI
  have hin := tq_in hS
  have hql2 := rl_len hR
  have hl4 : ∀ d, d < N → ∃ j, j < 4 ∧ S 4 d = nI j := fun d hd => (hS.2.1 d hd).1
  have hl42 : ∀ d, d < N → ∃ j, j < 4 ∧ S2 4 d = nI j := fun d hd => (hS2.2.1 d hd).1
  have h69 : ∀ d, d < N → ∃ m, m ≤ 4 ∧ S 6 d = nI m := fun d hd => (hS.2.1 d hd).2.1
  have h692 : ∀ d, d < N → ∃ m, m ≤ 4 ∧ S2 6 d = nI m := fun d hd => (hS2.2.1 d hd).2.1
  obtain ⟨hh, B, BS⟩ := B0.base
  show G 425 [(11, .int a9), (10, .int (nI ((j + mo) % 4))), (9, .int (nI j)), (5, .int (nI i)), (4, .int 1), (3, .int (nI mo)), (2, .ref (bd 0)), (1, .ref (ad 0)), (0, .ref b)] [] [xoW ad up op tr, lkW D ad L, alW D e0 (ad 2) hs N, rwW D (ad 3) (ad 10) (ad 11) (ad 12) gf qf.length, rwW D (ad 4) (ad 13) (ad 14) (ad 15) gb qb.length, alW D e0 (ad 5) ht tq.length, dvW da N S om, xoW bd up op tr, lkW D bd L2, alW D e0 (bd 2) hs2 N, rwW D (bd 3) (bd 10) (bd 11) (bd 12) gf2 qf.length, rwW D (bd 4) (bd 13) (bd 14) (bd 15) gb2 qb2.length, alW D e0 (bd 5) ht2 tq.length, dvW db N S2 om2] k n
  refine x_iload B (pc := 425) 4 dL_law_425 rfl ?_
  refine x_if_eq B (pc := 427) 506 dL_law_427 (by decide) (fun h427 => absurd h427 (by decide)) (fun h427 => ?_)
  refine x_aload_n B (pc := 430) 7 dL_law_430 rfl rfl ?_
  refine x_iconst B (pc := 431) 0 dL_law_431 (by decide) ?_
  refine x_iload B (pc := 432) 2 dL_law_432 rfl ?_
  refine x_callSX B (pc := 434) (As := [.ref (ad 0), .int 0, .int (nI j)]) (c_of_credit hl D e0 ) tm564 tm565 tm0 tm566 md_L_of ⟨Nat.le_of_ble_eq_true rfl, Nat.le_of_ble_eq_true rfl⟩ [0, 1] rfl rfl rfl (Nat.le_of_ble_eq_true rfl) (by show k + 1 ≤ (619123 : Nat); omega) (by show n + 6 ≤ (7243813 : Nat); omega) dL_law_434 (fun E hE => False.elim hE) (fun v cs1 hp => ?_)
  obtain ⟨rfl, rfl⟩ := hp
  show G 437 [(11, .int a9), (10, .int (nI ((j + mo) % 4))), (9, .int (nI j)), (5, .int (nI i)), (4, .int 1), (3, .int (nI mo)), (2, .ref (bd 0)), (1, .ref (ad 0)), (0, .ref b)] [.int (bif xinB 0 3 (nI j) then crd L (ix (nI j)) else -8)] [xoW ad up op tr, lkW D ad L, alW D e0 (ad 2) hs N, rwW D (ad 3) (ad 10) (ad 11) (ad 12) gf qf.length, rwW D (ad 4) (ad 13) (ad 14) (ad 15) gb qb.length, alW D e0 (ad 5) ht tq.length, dvW da N S om, xoW bd up op tr, lkW D bd L2, alW D e0 (bd 2) hs2 N, rwW D (bd 3) (bd 10) (bd 11) (bd 12) gf2 qf.length, rwW D (bd 4) (bd 13) (bd 14) (bd 15) gb2 qb2.length, alW D e0 (bd 5) ht2 tq.length, dvW db N S2 om2] (k + 1) (n + 6)
  refine x_aload_n B (pc := 437) 6 dL_law_437 rfl rfl ?_
  refine x_iconst B (pc := 438) 0 dL_law_438 (by decide) ?_
  refine x_iload B (pc := 439) 1 dL_law_439 rfl ?_
  refine x_callSX B (pc := 441) (As := [.ref (bd 0), .int 0, .int (nI ((j + mo) % 4))]) (c_of_credit hl D e0 ) tm564 tm565 tm0 tm566 md_L_of ⟨Nat.le_of_ble_eq_true rfl, Nat.le_of_ble_eq_true rfl⟩ [7, 8] rfl rfl rfl (Nat.le_of_ble_eq_true rfl) (by show k + 1 + 1 ≤ (619123 : Nat); omega) (by show n + 6 + 6 ≤ (7243813 : Nat); omega) dL_law_441 (fun E hE => False.elim hE) (fun v cs1 hp => ?_)
  obtain ⟨rfl, rfl⟩ := hp
  show G 444 [(11, .int a9), (10, .int (nI ((j + mo) % 4))), (9, .int (nI j)), (5, .int (nI i)), (4, .int 1), (3, .int (nI mo)), (2, .ref (bd 0)), (1, .ref (ad 0)), (0, .ref b)] [.int (bif xinB 0 3 (nI ((j + mo) % 4)) then crd L2 (ix (nI ((j + mo) % 4))) else -8), .int (bif xinB 0 3 (nI j) then crd L (ix (nI j)) else -8)] [xoW ad up op tr, lkW D ad L, alW D e0 (ad 2) hs N, rwW D (ad 3) (ad 10) (ad 11) (ad 12) gf qf.length, rwW D (ad 4) (ad 13) (ad 14) (ad 15) gb qb.length, alW D e0 (ad 5) ht tq.length, dvW da N S om, xoW bd up op tr, lkW D bd L2, alW D e0 (bd 2) hs2 N, rwW D (bd 3) (bd 10) (bd 11) (bd 12) gf2 qf.length, rwW D (bd 4) (bd 13) (bd 14) (bd 15) gb2 qb2.length, alW D e0 (bd 5) ht2 tq.length, dvW db N S2 om2] (k + 1 + 1) (n + 6 + 6)
  refine x_icmp_ne B (pc := 444) 506 dL_law_444 (by decide) (fun h444 => absurd (by rw [xinB_nI (Nat.zero_le _) (show (j + mo) % 4 ≤ 3 by omega) (by decide), xinB_nI (Nat.zero_le _) (show j ≤ 3 by omega) (by decide), rl_crd hR hj]) h444) (fun h444 => ?_)
  refine x_aload_n B (pc := 447) 7 dL_law_447 rfl rfl ?_
  refine x_callV B (pc := 448) (As := []) (c_X3_deliveries hl D e0 ) xcl_X rfl 0 0 rfl rfl tm125 tm126 tm127 tm1 tm128 md_X3_deliveries ⟨Nat.le_of_ble_eq_true rfl, Nat.le_of_ble_eq_true rfl⟩ [0, 2] rfl rfl rfl (Nat.le_of_ble_eq_true rfl) (by show k + 1 + 1 ≤ (619123 : Nat); omega) (by show n + 6 + 6 ≤ (7243813 : Nat); omega) dL_law_448 (fun E hE => False.elim hE) (fun v cs1 hp => ?_)
  obtain ⟨rfl, rfl⟩ := hp
  show G 451 [(11, .int a9), (10, .int (nI ((j + mo) % 4))), (9, .int (nI j)), (5, .int (nI i)), (4, .int 1), (3, .int (nI mo)), (2, .ref (bd 0)), (1, .ref (ad 0)), (0, .ref b)] [.int (nI N)] [xoW ad up op tr, lkW D ad L, alW D e0 (ad 2) hs N, rwW D (ad 3) (ad 10) (ad 11) (ad 12) gf qf.length, rwW D (ad 4) (ad 13) (ad 14) (ad 15) gb qb.length, alW D e0 (ad 5) ht tq.length, dvW da N S om, xoW bd up op tr, lkW D bd L2, alW D e0 (bd 2) hs2 N, rwW D (bd 3) (bd 10) (bd 11) (bd 12) gf2 qf.length, rwW D (bd 4) (bd 13) (bd 14) (bd 15) gb2 qb2.length, alW D e0 (bd 5) ht2 tq.length, dvW db N S2 om2] (k + 1 + 1) (n + 6 + 6)
  refine x_aload_n B (pc := 451) 6 dL_law_451 rfl rfl ?_
  refine x_callV B (pc := 452) (As := []) (c_X3_deliveries hl D e0 ) xcl_X rfl 0 0 rfl rfl tm125 tm126 tm127 tm1 tm128 md_X3_deliveries ⟨Nat.le_of_ble_eq_true rfl, Nat.le_of_ble_eq_true rfl⟩ [7, 9] rfl rfl rfl (Nat.le_of_ble_eq_true rfl) (by show k + 1 + 1 ≤ (619123 : Nat); omega) (by show n + 6 + 6 ≤ (7243813 : Nat); omega) dL_law_452 (fun E hE => False.elim hE) (fun v cs1 hp => ?_)
  obtain ⟨rfl, rfl⟩ := hp
  show G 455 [(11, .int a9), (10, .int (nI ((j + mo) % 4))), (9, .int (nI j)), (5, .int (nI i)), (4, .int 1), (3, .int (nI mo)), (2, .ref (bd 0)), (1, .ref (ad 0)), (0, .ref b)] [.int (nI N), .int (nI N)] [xoW ad up op tr, lkW D ad L, alW D e0 (ad 2) hs N, rwW D (ad 3) (ad 10) (ad 11) (ad 12) gf qf.length, rwW D (ad 4) (ad 13) (ad 14) (ad 15) gb qb.length, alW D e0 (ad 5) ht tq.length, dvW da N S om, xoW bd up op tr, lkW D bd L2, alW D e0 (bd 2) hs2 N, rwW D (bd 3) (bd 10) (bd 11) (bd 12) gf2 qf.length, rwW D (bd 4) (bd 13) (bd 14) (bd 15) gb2 qb2.length, alW D e0 (bd 5) ht2 tq.length, dvW db N S2 om2] (k + 1 + 1) (n + 6 + 6)
  refine x_icmp_ne B (pc := 455) 506 dL_law_455 (by decide) (fun h455 => absurd rfl h455) (fun h455 => ?_)
  refine x_aload_n B (pc := 458) 7 dL_law_458 rfl rfl ?_
  refine x_callV B (pc := 459) (As := []) (c_X3_underWay hl D e0 ) xcl_X rfl 0 0 rfl rfl tm133 tm134 tm135 tm1 tm136 md_X3_underWay ⟨Nat.le_of_ble_eq_true rfl, Nat.le_of_ble_eq_true rfl⟩ [0, 3] rfl rfl rfl (Nat.le_of_ble_eq_true rfl) (by show k + 1 + 1 ≤ (619123 : Nat); omega) (by show n + 6 + 6 ≤ (7243813 : Nat); omega) dL_law_459 (fun E hE => False.elim hE) (fun v cs1 hp => ?_)
  obtain ⟨rfl, rfl⟩ := hp
  show G 462 [(11, .int a9), (10, .int (nI ((j + mo) % 4))), (9, .int (nI j)), (5, .int (nI i)), (4, .int 1), (3, .int (nI mo)), (2, .ref (bd 0)), (1, .ref (ad 0)), (0, .ref b)] [.int (nI qf.length)] [xoW ad up op tr, lkW D ad L, alW D e0 (ad 2) hs N, rwW D (ad 3) (ad 10) (ad 11) (ad 12) gf qf.length, rwW D (ad 4) (ad 13) (ad 14) (ad 15) gb qb.length, alW D e0 (ad 5) ht tq.length, dvW da N S om, xoW bd up op tr, lkW D bd L2, alW D e0 (bd 2) hs2 N, rwW D (bd 3) (bd 10) (bd 11) (bd 12) gf2 qf.length, rwW D (bd 4) (bd 13) (bd 14) (bd 15) gb2 qb2.length, alW D e0 (bd 5) ht2 tq.length, dvW db N S2 om2] (k + 1 + 1) (n + 6 + 6)
  refine x_aload_n B (pc := 462) 6 dL_law_462 rfl rfl ?_
  refine x_callV B (pc := 463) (As := []) (c_X3_underWay hl D e0 ) xcl_X rfl 0 0 rfl rfl tm133 tm134 tm135 tm1 tm136 md_X3_underWay ⟨Nat.le_of_ble_eq_true rfl, Nat.le_of_ble_eq_true rfl⟩ [7, 10] rfl rfl rfl (Nat.le_of_ble_eq_true rfl) (by show k + 1 + 1 ≤ (619123 : Nat); omega) (by show n + 6 + 6 ≤ (7243813 : Nat); omega) dL_law_463 (fun E hE => False.elim hE) (fun v cs1 hp => ?_)
  obtain ⟨rfl, rfl⟩ := hp
  show G 466 [(11, .int a9), (10, .int (nI ((j + mo) % 4))), (9, .int (nI j)), (5, .int (nI i)), (4, .int 1), (3, .int (nI mo)), (2, .ref (bd 0)), (1, .ref (ad 0)), (0, .ref b)] [.int (nI qf.length), .int (nI qf.length)] [xoW ad up op tr, lkW D ad L, alW D e0 (ad 2) hs N, rwW D (ad 3) (ad 10) (ad 11) (ad 12) gf qf.length, rwW D (ad 4) (ad 13) (ad 14) (ad 15) gb qb.length, alW D e0 (ad 5) ht tq.length, dvW da N S om, xoW bd up op tr, lkW D bd L2, alW D e0 (bd 2) hs2 N, rwW D (bd 3) (bd 10) (bd 11) (bd 12) gf2 qf.length, rwW D (bd 4) (bd 13) (bd 14) (bd 15) gb2 qb2.length, alW D e0 (bd 5) ht2 tq.length, dvW db N S2 om2] (k + 1 + 1) (n + 6 + 6)
  refine x_icmp_ne B (pc := 466) 506 dL_law_466 (by decide) (fun h466 => absurd rfl h466) (fun h466 => ?_)
  refine x_aload_n B (pc := 469) 7 dL_law_469 rfl rfl ?_
  refine x_callV B (pc := 470) (As := []) (c_X3_backUnderWay hl D e0 ) xcl_X rfl 0 0 rfl rfl tm141 tm142 tm143 tm1 tm144 md_X3_backUnderWay ⟨Nat.le_of_ble_eq_true rfl, Nat.le_of_ble_eq_true rfl⟩ [0, 4] rfl rfl rfl (Nat.le_of_ble_eq_true rfl) (by show k + 1 + 1 ≤ (619123 : Nat); omega) (by show n + 6 + 6 ≤ (7243813 : Nat); omega) dL_law_470 (fun E hE => False.elim hE) (fun v cs1 hp => ?_)
  obtain ⟨rfl, rfl⟩ := hp
  show G 473 [(11, .int a9), (10, .int (nI ((j + mo) % 4))), (9, .int (nI j)), (5, .int (nI i)), (4, .int 1), (3, .int (nI mo)), (2, .ref (bd 0)), (1, .ref (ad 0)), (0, .ref b)] [.int (nI qb.length)] [xoW ad up op tr, lkW D ad L, alW D e0 (ad 2) hs N, rwW D (ad 3) (ad 10) (ad 11) (ad 12) gf qf.length, rwW D (ad 4) (ad 13) (ad 14) (ad 15) gb qb.length, alW D e0 (ad 5) ht tq.length, dvW da N S om, xoW bd up op tr, lkW D bd L2, alW D e0 (bd 2) hs2 N, rwW D (bd 3) (bd 10) (bd 11) (bd 12) gf2 qf.length, rwW D (bd 4) (bd 13) (bd 14) (bd 15) gb2 qb2.length, alW D e0 (bd 5) ht2 tq.length, dvW db N S2 om2] (k + 1 + 1) (n + 6 + 6)
  refine x_aload_n B (pc := 473) 6 dL_law_473 rfl rfl ?_
  refine x_callV B (pc := 474) (As := []) (c_X3_backUnderWay hl D e0 ) xcl_X rfl 0 0 rfl rfl tm141 tm142 tm143 tm1 tm144 md_X3_backUnderWay ⟨Nat.le_of_ble_eq_true rfl, Nat.le_of_ble_eq_true rfl⟩ [7, 11] rfl rfl rfl (Nat.le_of_ble_eq_true rfl) (by show k + 1 + 1 ≤ (619123 : Nat); omega) (by show n + 6 + 6 ≤ (7243813 : Nat); omega) dL_law_474 (fun E hE => False.elim hE) (fun v cs1 hp => ?_)
  obtain ⟨rfl, rfl⟩ := hp
  show G 477 [(11, .int a9), (10, .int (nI ((j + mo) % 4))), (9, .int (nI j)), (5, .int (nI i)), (4, .int 1), (3, .int (nI mo)), (2, .ref (bd 0)), (1, .ref (ad 0)), (0, .ref b)] [.int (nI qb2.length), .int (nI qb.length)] [xoW ad up op tr, lkW D ad L, alW D e0 (ad 2) hs N, rwW D (ad 3) (ad 10) (ad 11) (ad 12) gf qf.length, rwW D (ad 4) (ad 13) (ad 14) (ad 15) gb qb.length, alW D e0 (ad 5) ht tq.length, dvW da N S om, xoW bd up op tr, lkW D bd L2, alW D e0 (bd 2) hs2 N, rwW D (bd 3) (bd 10) (bd 11) (bd 12) gf2 qf.length, rwW D (bd 4) (bd 13) (bd 14) (bd 15) gb2 qb2.length, alW D e0 (bd 5) ht2 tq.length, dvW db N S2 om2] (k + 1 + 1) (n + 6 + 6)
  refine x_icmp_ne B (pc := 477) 506 dL_law_477 (by decide) (fun h477 => absurd (congrArg nI hql2) h477) (fun h477 => ?_)
  refine x_aload_n B (pc := 480) 7 dL_law_480 rfl rfl ?_
  refine x_callV B (pc := 481) (As := []) (c_X3_isUp hl D e0 hup) xcl_X rfl 0 0 rfl rfl tm168 tm169 tm170 tm1 tm171 md_X3_isUp ⟨Nat.le_of_ble_eq_true rfl, Nat.le_of_ble_eq_true rfl⟩ [0] rfl rfl rfl (Nat.le_of_ble_eq_true rfl) (by show k + 1 + 1 ≤ (619123 : Nat); omega) (by show n + 6 + 6 ≤ (7243813 : Nat); omega) dL_law_481 (fun E hE => False.elim hE) (fun v cs1 hp => ?_)
  obtain ⟨rfl, rfl⟩ := hp
  show G 484 [(11, .int a9), (10, .int (nI ((j + mo) % 4))), (9, .int (nI j)), (5, .int (nI i)), (4, .int 1), (3, .int (nI mo)), (2, .ref (bd 0)), (1, .ref (ad 0)), (0, .ref b)] [.int up] [xoW ad up op tr, lkW D ad L, alW D e0 (ad 2) hs N, rwW D (ad 3) (ad 10) (ad 11) (ad 12) gf qf.length, rwW D (ad 4) (ad 13) (ad 14) (ad 15) gb qb.length, alW D e0 (ad 5) ht tq.length, dvW da N S om, xoW bd up op tr, lkW D bd L2, alW D e0 (bd 2) hs2 N, rwW D (bd 3) (bd 10) (bd 11) (bd 12) gf2 qf.length, rwW D (bd 4) (bd 13) (bd 14) (bd 15) gb2 qb2.length, alW D e0 (bd 5) ht2 tq.length, dvW db N S2 om2] (k + 1 + 1) (n + 6 + 6)
  refine x_aload_n B (pc := 484) 6 dL_law_484 rfl rfl ?_
  refine x_callV B (pc := 485) (As := []) (c_X3_isUp hl D e0 hup) xcl_X rfl 0 0 rfl rfl tm168 tm169 tm170 tm1 tm171 md_X3_isUp ⟨Nat.le_of_ble_eq_true rfl, Nat.le_of_ble_eq_true rfl⟩ [7] rfl rfl rfl (Nat.le_of_ble_eq_true rfl) (by show k + 1 + 1 ≤ (619123 : Nat); omega) (by show n + 6 + 6 ≤ (7243813 : Nat); omega) dL_law_485 (fun E hE => False.elim hE) (fun v cs1 hp => ?_)
  obtain ⟨rfl, rfl⟩ := hp
  show G 488 [(11, .int a9), (10, .int (nI ((j + mo) % 4))), (9, .int (nI j)), (5, .int (nI i)), (4, .int 1), (3, .int (nI mo)), (2, .ref (bd 0)), (1, .ref (ad 0)), (0, .ref b)] [.int up, .int up] [xoW ad up op tr, lkW D ad L, alW D e0 (ad 2) hs N, rwW D (ad 3) (ad 10) (ad 11) (ad 12) gf qf.length, rwW D (ad 4) (ad 13) (ad 14) (ad 15) gb qb.length, alW D e0 (ad 5) ht tq.length, dvW da N S om, xoW bd up op tr, lkW D bd L2, alW D e0 (bd 2) hs2 N, rwW D (bd 3) (bd 10) (bd 11) (bd 12) gf2 qf.length, rwW D (bd 4) (bd 13) (bd 14) (bd 15) gb2 qb2.length, alW D e0 (bd 5) ht2 tq.length, dvW db N S2 om2] (k + 1 + 1) (n + 6 + 6)
  refine x_icmp_ne B (pc := 488) 506 dL_law_488 (by decide) (fun h488 => absurd rfl h488) (fun h488 => ?_)
  refine x_aload_n B (pc := 491) 7 dL_law_491 rfl rfl ?_
  refine x_callV B (pc := 492) (As := []) (c_X3_wouldResend hl D e0 hok hN) xcl_X rfl 0 0 rfl rfl tm145 tm146 tm147 tm1 tm148 md_X3_wouldResend ⟨Nat.le_of_ble_eq_true rfl, Nat.le_of_ble_eq_true rfl⟩ [0, 2, 6] rfl rfl rfl (Nat.le_of_ble_eq_true rfl) (by show k + 1 + 1 ≤ (619123 : Nat); omega) (by show n + 6 + 6 ≤ (7243813 : Nat); omega) dL_law_492 (fun E hE => False.elim hE) (fun v cs1 hp => ?_)
  obtain ⟨rfl, rfl⟩ := hp
  show G 495 [(11, .int a9), (10, .int (nI ((j + mo) % 4))), (9, .int (nI j)), (5, .int (nI i)), (4, .int 1), (3, .int (nI mo)), (2, .ref (bd 0)), (1, .ref (ad 0)), (0, .ref b)] [.int (wrN S N)] [xoW ad up op tr, lkW D ad L, alW D e0 (ad 2) hs N, rwW D (ad 3) (ad 10) (ad 11) (ad 12) gf qf.length, rwW D (ad 4) (ad 13) (ad 14) (ad 15) gb qb.length, alW D e0 (ad 5) ht tq.length, dvW da N S om, xoW bd up op tr, lkW D bd L2, alW D e0 (bd 2) hs2 N, rwW D (bd 3) (bd 10) (bd 11) (bd 12) gf2 qf.length, rwW D (bd 4) (bd 13) (bd 14) (bd 15) gb2 qb2.length, alW D e0 (bd 5) ht2 tq.length, dvW db N S2 om2] (k + 1 + 1) (n + 6 + 6)
  refine x_aload_n B (pc := 495) 6 dL_law_495 rfl rfl ?_
  refine x_callV B (pc := 496) (As := []) (c_X3_wouldResend hl D e0 hok2 hN) xcl_X rfl 0 0 rfl rfl tm145 tm146 tm147 tm1 tm148 md_X3_wouldResend ⟨Nat.le_of_ble_eq_true rfl, Nat.le_of_ble_eq_true rfl⟩ [7, 9, 13] rfl rfl rfl (Nat.le_of_ble_eq_true rfl) (by show k + 1 + 1 ≤ (619123 : Nat); omega) (by show n + 6 + 6 ≤ (7243813 : Nat); omega) dL_law_496 (fun E hE => False.elim hE) (fun v cs1 hp => ?_)
  obtain ⟨rfl, rfl⟩ := hp
  show G 499 [(11, .int a9), (10, .int (nI ((j + mo) % 4))), (9, .int (nI j)), (5, .int (nI i)), (4, .int 1), (3, .int (nI mo)), (2, .ref (bd 0)), (1, .ref (ad 0)), (0, .ref b)] [.int (wrN S2 N), .int (wrN S N)] [xoW ad up op tr, lkW D ad L, alW D e0 (ad 2) hs N, rwW D (ad 3) (ad 10) (ad 11) (ad 12) gf qf.length, rwW D (ad 4) (ad 13) (ad 14) (ad 15) gb qb.length, alW D e0 (ad 5) ht tq.length, dvW da N S om, xoW bd up op tr, lkW D bd L2, alW D e0 (bd 2) hs2 N, rwW D (bd 3) (bd 10) (bd 11) (bd 12) gf2 qf.length, rwW D (bd 4) (bd 13) (bd 14) (bd 15) gb2 qb2.length, alW D e0 (bd 5) ht2 tq.length, dvW db N S2 om2] (k + 1 + 1) (n + 6 + 6)
  refine x_icmp_ne B (pc := 499) 506 dL_law_499 (by decide) (fun h499 => absurd (sR_wr hR.2.1).symm h499) (fun h499 => ?_)
  refine x_iconst B (pc := 502) 1 dL_law_502 (by decide) ?_
  refine x_goto B (pc := 503) 507 dL_law_503 (by decide) ?_
  refine x_istore B (pc := 507) [(4, .int 1), (11, .int a9), (10, .int (nI ((j + mo) % 4))), (9, .int (nI j)), (5, .int (nI i)), (3, .int (nI mo)), (2, .ref (bd 0)), (1, .ref (ad 0)), (0, .ref b)] dL_law_507 (by decide) rfl ?_
  refine x_iconst B (pc := 509) 1 dL_law_509 (by decide) ?_
  refine x_istore B (pc := 510) [(12, .int 1), (4, .int 1), (11, .int a9), (10, .int (nI ((j + mo) % 4))), (9, .int (nI j)), (5, .int (nI i)), (3, .int (nI mo)), (2, .ref (bd 0)), (1, .ref (ad 0)), (0, .ref b)] dL_law_510 (by decide) rfl ?_
  refine x_iload B (pc := 512) 0 dL_law_512 rfl ?_
  refine x_iconst B (pc := 514) 5 dL_law_514 (by decide) ?_
  refine x_icmp_ge B (pc := 515) 555 dL_law_515 (by decide) (fun h515 => absurd h515 (by decide)) (fun h515 => ?_)
  refine x_iload B (pc := 518) 1 dL_law_518 rfl ?_
  refine x_if_eq B (pc := 520) 555 dL_law_520 (by decide) (fun h520 => absurd h520 (by decide)) (fun h520 => ?_)
  refine x_aload_n B (pc := 523) 8 dL_law_523 rfl rfl ?_
  refine x_iload B (pc := 524) 0 dL_law_524 rfl ?_
  refine x_iload B (pc := 526) 2 dL_law_526 rfl ?_
  refine x_callSX B (pc := 528) (As := [.ref (ad 0), .int 1, .int a9]) (c_of_forSender hl D e0 hok hN) tm564 tm565 tm0 tm566 md_L_of ⟨Nat.le_of_ble_eq_true rfl, Nat.le_of_ble_eq_true rfl⟩ [0, 2, 6] rfl rfl rfl (Nat.le_of_ble_eq_true rfl) (by show k + 1 + 1 + 1 ≤ (619123 : Nat); omega) (by show n + 6 + 6 + 6 ≤ (7243813 : Nat); omega) dL_law_528 (fun E hE => False.elim hE) (fun v cs1 hp => ?_)
  obtain ⟨rfl, rfl⟩ := hp
  show G 531 [(12, .int 1), (4, .int 1), (11, .int a9), (10, .int (nI ((j + mo) % 4))), (9, .int (nI j)), (5, .int (nI i)), (3, .int (nI mo)), (2, .ref (bd 0)), (1, .ref (ad 0)), (0, .ref b)] [.int (bif xinD N a9 then S 7 (ix a9) else -8)] [xoW ad up op tr, lkW D ad L, alW D e0 (ad 2) hs N, rwW D (ad 3) (ad 10) (ad 11) (ad 12) gf qf.length, rwW D (ad 4) (ad 13) (ad 14) (ad 15) gb qb.length, alW D e0 (ad 5) ht tq.length, dvW da N S om, xoW bd up op tr, lkW D bd L2, alW D e0 (bd 2) hs2 N, rwW D (bd 3) (bd 10) (bd 11) (bd 12) gf2 qf.length, rwW D (bd 4) (bd 13) (bd 14) (bd 15) gb2 qb2.length, alW D e0 (bd 5) ht2 tq.length, dvW db N S2 om2] (k + 1 + 1 + 1) (n + 6 + 6 + 6)
  refine x_aload_n B (pc := 531) 7 dL_law_531 rfl rfl ?_
  refine x_iload B (pc := 532) 0 dL_law_532 rfl ?_
  refine x_iload B (pc := 534) 2 dL_law_534 rfl ?_
  refine x_callSX B (pc := 536) (As := [.ref (bd 0), .int 1, .int a9]) (c_of_forSender hl D e0 hok2 hN) tm564 tm565 tm0 tm566 md_L_of ⟨Nat.le_of_ble_eq_true rfl, Nat.le_of_ble_eq_true rfl⟩ [7, 9, 13] rfl rfl rfl (Nat.le_of_ble_eq_true rfl) (by show k + 1 + 1 + 1 + 1 ≤ (619123 : Nat); omega) (by show n + 6 + 6 + 6 + 6 ≤ (7243813 : Nat); omega) dL_law_536 (fun E hE => False.elim hE) (fun v cs1 hp => ?_)
  obtain ⟨rfl, rfl⟩ := hp
  show G 539 [(12, .int 1), (4, .int 1), (11, .int a9), (10, .int (nI ((j + mo) % 4))), (9, .int (nI j)), (5, .int (nI i)), (3, .int (nI mo)), (2, .ref (bd 0)), (1, .ref (ad 0)), (0, .ref b)] [.int (bif xinD N a9 then S2 7 (ix a9) else -8), .int (bif xinD N a9 then S 7 (ix a9) else -8)] [xoW ad up op tr, lkW D ad L, alW D e0 (ad 2) hs N, rwW D (ad 3) (ad 10) (ad 11) (ad 12) gf qf.length, rwW D (ad 4) (ad 13) (ad 14) (ad 15) gb qb.length, alW D e0 (ad 5) ht tq.length, dvW da N S om, xoW bd up op tr, lkW D bd L2, alW D e0 (bd 2) hs2 N, rwW D (bd 3) (bd 10) (bd 11) (bd 12) gf2 qf.length, rwW D (bd 4) (bd 13) (bd 14) (bd 15) gb2 qb2.length, alW D e0 (bd 5) ht2 tq.length, dvW db N S2 om2] (k + 1 + 1 + 1 + 1) (n + 6 + 6 + 6 + 6)
  refine x_icmp_ne B (pc := 539) 546 dL_law_539 (by decide) (fun h539 => absurd (by rw [sR_k hR.2.1 (k := 7) (by decide)]) h539) (fun h539 => ?_)
  refine x_iconst B (pc := 542) 1 dL_law_542 (by decide) ?_
  refine x_goto B (pc := 543) 547 dL_law_543 (by decide) ?_
  refine x_istore B (pc := 547) [(4, .int 1), (12, .int 1), (11, .int a9), (10, .int (nI ((j + mo) % 4))), (9, .int (nI j)), (5, .int (nI i)), (3, .int (nI mo)), (2, .ref (bd 0)), (1, .ref (ad 0)), (0, .ref b)] dL_law_547 (by decide) rfl ?_
  refine x_iinc B (pc := 549) 1 2 [(12, .int 2), (4, .int 1), (11, .int a9), (10, .int (nI ((j + mo) % 4))), (9, .int (nI j)), (5, .int (nI i)), (3, .int (nI mo)), (2, .ref (bd 0)), (1, .ref (ad 0)), (0, .ref b)] dL_law_549 rfl (by decide) (by decide) rfl ?_
  refine x_goto B (pc := 552) 512 dL_law_552 (by decide) ?_
  refine x_iload B (pc := 512) 0 dL_law_512 rfl ?_
  refine x_iconst B (pc := 514) 5 dL_law_514 (by decide) ?_
  refine x_icmp_ge B (pc := 515) 555 dL_law_515 (by decide) (fun h515 => absurd h515 (by decide)) (fun h515 => ?_)
  refine x_iload B (pc := 518) 1 dL_law_518 rfl ?_
  refine x_if_eq B (pc := 520) 555 dL_law_520 (by decide) (fun h520 => absurd h520 (by decide)) (fun h520 => ?_)
  refine x_aload_n B (pc := 523) 8 dL_law_523 rfl rfl ?_
  refine x_iload B (pc := 524) 0 dL_law_524 rfl ?_
  refine x_iload B (pc := 526) 2 dL_law_526 rfl ?_
  refine x_callSX B (pc := 528) (As := [.ref (ad 0), .int 2, .int a9]) (c_of_heard hl D e0 hok hN) tm564 tm565 tm0 tm566 md_L_of ⟨Nat.le_of_ble_eq_true rfl, Nat.le_of_ble_eq_true rfl⟩ [0, 2, 6] rfl rfl rfl (Nat.le_of_ble_eq_true rfl) (by show k + 1 + 1 + 1 + 1 + 1 ≤ (619123 : Nat); omega) (by show n + 6 + 6 + 6 + 6 + 6 ≤ (7243813 : Nat); omega) dL_law_528 (fun E hE => False.elim hE) (fun v cs1 hp => ?_)
  obtain ⟨rfl, rfl⟩ := hp
  show G 531 [(12, .int 2), (4, .int 1), (11, .int a9), (10, .int (nI ((j + mo) % 4))), (9, .int (nI j)), (5, .int (nI i)), (3, .int (nI mo)), (2, .ref (bd 0)), (1, .ref (ad 0)), (0, .ref b)] [.int (bif xinD N a9 then S 8 (ix a9) else -8)] [xoW ad up op tr, lkW D ad L, alW D e0 (ad 2) hs N, rwW D (ad 3) (ad 10) (ad 11) (ad 12) gf qf.length, rwW D (ad 4) (ad 13) (ad 14) (ad 15) gb qb.length, alW D e0 (ad 5) ht tq.length, dvW da N S om, xoW bd up op tr, lkW D bd L2, alW D e0 (bd 2) hs2 N, rwW D (bd 3) (bd 10) (bd 11) (bd 12) gf2 qf.length, rwW D (bd 4) (bd 13) (bd 14) (bd 15) gb2 qb2.length, alW D e0 (bd 5) ht2 tq.length, dvW db N S2 om2] (k + 1 + 1 + 1 + 1 + 1) (n + 6 + 6 + 6 + 6 + 6)
  refine x_aload_n B (pc := 531) 7 dL_law_531 rfl rfl ?_
  refine x_iload B (pc := 532) 0 dL_law_532 rfl ?_
  refine x_iload B (pc := 534) 2 dL_law_534 rfl ?_
  refine x_callSX B (pc := 536) (As := [.ref (bd 0), .int 2, .int a9]) (c_of_heard hl D e0 hok2 hN) tm564 tm565 tm0 tm566 md_L_of ⟨Nat.le_of_ble_eq_true rfl, Nat.le_of_ble_eq_true rfl⟩ [7, 9, 13] rfl rfl rfl (Nat.le_of_ble_eq_true rfl) (by show k + 1 + 1 + 1 + 1 + 1 + 1 ≤ (619123 : Nat); omega) (by show n + 6 + 6 + 6 + 6 + 6 + 6 ≤ (7243813 : Nat); omega) dL_law_536 (fun E hE => False.elim hE) (fun v cs1 hp => ?_)
  obtain ⟨rfl, rfl⟩ := hp
  show G 539 [(12, .int 2), (4, .int 1), (11, .int a9), (10, .int (nI ((j + mo) % 4))), (9, .int (nI j)), (5, .int (nI i)), (3, .int (nI mo)), (2, .ref (bd 0)), (1, .ref (ad 0)), (0, .ref b)] [.int (bif xinD N a9 then S2 8 (ix a9) else -8), .int (bif xinD N a9 then S 8 (ix a9) else -8)] [xoW ad up op tr, lkW D ad L, alW D e0 (ad 2) hs N, rwW D (ad 3) (ad 10) (ad 11) (ad 12) gf qf.length, rwW D (ad 4) (ad 13) (ad 14) (ad 15) gb qb.length, alW D e0 (ad 5) ht tq.length, dvW da N S om, xoW bd up op tr, lkW D bd L2, alW D e0 (bd 2) hs2 N, rwW D (bd 3) (bd 10) (bd 11) (bd 12) gf2 qf.length, rwW D (bd 4) (bd 13) (bd 14) (bd 15) gb2 qb2.length, alW D e0 (bd 5) ht2 tq.length, dvW db N S2 om2] (k + 1 + 1 + 1 + 1 + 1 + 1) (n + 6 + 6 + 6 + 6 + 6 + 6)
  refine x_icmp_ne B (pc := 539) 546 dL_law_539 (by decide) (fun h539 => absurd (by rw [sR_k hR.2.1 (k := 8) (by decide)]) h539) (fun h539 => ?_)
  refine x_iconst B (pc := 542) 1 dL_law_542 (by decide) ?_
  refine x_goto B (pc := 543) 547 dL_law_543 (by decide) ?_
  refine x_istore B (pc := 547) [(4, .int 1), (12, .int 2), (11, .int a9), (10, .int (nI ((j + mo) % 4))), (9, .int (nI j)), (5, .int (nI i)), (3, .int (nI mo)), (2, .ref (bd 0)), (1, .ref (ad 0)), (0, .ref b)] dL_law_547 (by decide) rfl ?_
  refine x_iinc B (pc := 549) 1 3 [(12, .int 3), (4, .int 1), (11, .int a9), (10, .int (nI ((j + mo) % 4))), (9, .int (nI j)), (5, .int (nI i)), (3, .int (nI mo)), (2, .ref (bd 0)), (1, .ref (ad 0)), (0, .ref b)] dL_law_549 rfl (by decide) (by decide) rfl ?_
  refine x_goto B (pc := 552) 512 dL_law_552 (by decide) ?_
  refine x_iload B (pc := 512) 0 dL_law_512 rfl ?_
  refine x_iconst B (pc := 514) 5 dL_law_514 (by decide) ?_
  refine x_icmp_ge B (pc := 515) 555 dL_law_515 (by decide) (fun h515 => absurd h515 (by decide)) (fun h515 => ?_)
  refine x_iload B (pc := 518) 1 dL_law_518 rfl ?_
  refine x_if_eq B (pc := 520) 555 dL_law_520 (by decide) (fun h520 => absurd h520 (by decide)) (fun h520 => ?_)
  refine x_aload_n B (pc := 523) 8 dL_law_523 rfl rfl ?_
  refine x_iload B (pc := 524) 0 dL_law_524 rfl ?_
  refine x_iload B (pc := 526) 2 dL_law_526 rfl ?_
  refine x_callSX B (pc := 528) (As := [.ref (ad 0), .int 3, .int a9]) (c_of_forReceiver hl D e0 hok hN) tm564 tm565 tm0 tm566 md_L_of ⟨Nat.le_of_ble_eq_true rfl, Nat.le_of_ble_eq_true rfl⟩ [0, 2, 6] rfl rfl rfl (Nat.le_of_ble_eq_true rfl) (by show k + 1 + 1 + 1 + 1 + 1 + 1 + 1 ≤ (619123 : Nat); omega) (by show n + 6 + 6 + 6 + 6 + 6 + 6 + 6 ≤ (7243813 : Nat); omega) dL_law_528 (fun E hE => False.elim hE) (fun v cs1 hp => ?_)
  obtain ⟨rfl, rfl⟩ := hp
  show G 531 [(12, .int 3), (4, .int 1), (11, .int a9), (10, .int (nI ((j + mo) % 4))), (9, .int (nI j)), (5, .int (nI i)), (3, .int (nI mo)), (2, .ref (bd 0)), (1, .ref (ad 0)), (0, .ref b)] [.int (bif xinD N a9 then S 9 (ix a9) else -8)] [xoW ad up op tr, lkW D ad L, alW D e0 (ad 2) hs N, rwW D (ad 3) (ad 10) (ad 11) (ad 12) gf qf.length, rwW D (ad 4) (ad 13) (ad 14) (ad 15) gb qb.length, alW D e0 (ad 5) ht tq.length, dvW da N S om, xoW bd up op tr, lkW D bd L2, alW D e0 (bd 2) hs2 N, rwW D (bd 3) (bd 10) (bd 11) (bd 12) gf2 qf.length, rwW D (bd 4) (bd 13) (bd 14) (bd 15) gb2 qb2.length, alW D e0 (bd 5) ht2 tq.length, dvW db N S2 om2] (k + 1 + 1 + 1 + 1 + 1 + 1 + 1) (n + 6 + 6 + 6 + 6 + 6 + 6 + 6)
  refine x_aload_n B (pc := 531) 7 dL_law_531 rfl rfl ?_
  refine x_iload B (pc := 532) 0 dL_law_532 rfl ?_
  refine x_iload B (pc := 534) 2 dL_law_534 rfl ?_
  refine x_callSX B (pc := 536) (As := [.ref (bd 0), .int 3, .int a9]) (c_of_forReceiver hl D e0 hok2 hN) tm564 tm565 tm0 tm566 md_L_of ⟨Nat.le_of_ble_eq_true rfl, Nat.le_of_ble_eq_true rfl⟩ [7, 9, 13] rfl rfl rfl (Nat.le_of_ble_eq_true rfl) (by show k + 1 + 1 + 1 + 1 + 1 + 1 + 1 + 1 ≤ (619123 : Nat); omega) (by show n + 6 + 6 + 6 + 6 + 6 + 6 + 6 + 6 ≤ (7243813 : Nat); omega) dL_law_536 (fun E hE => False.elim hE) (fun v cs1 hp => ?_)
  obtain ⟨rfl, rfl⟩ := hp
  show G 539 [(12, .int 3), (4, .int 1), (11, .int a9), (10, .int (nI ((j + mo) % 4))), (9, .int (nI j)), (5, .int (nI i)), (3, .int (nI mo)), (2, .ref (bd 0)), (1, .ref (ad 0)), (0, .ref b)] [.int (bif xinD N a9 then S2 9 (ix a9) else -8), .int (bif xinD N a9 then S 9 (ix a9) else -8)] [xoW ad up op tr, lkW D ad L, alW D e0 (ad 2) hs N, rwW D (ad 3) (ad 10) (ad 11) (ad 12) gf qf.length, rwW D (ad 4) (ad 13) (ad 14) (ad 15) gb qb.length, alW D e0 (ad 5) ht tq.length, dvW da N S om, xoW bd up op tr, lkW D bd L2, alW D e0 (bd 2) hs2 N, rwW D (bd 3) (bd 10) (bd 11) (bd 12) gf2 qf.length, rwW D (bd 4) (bd 13) (bd 14) (bd 15) gb2 qb2.length, alW D e0 (bd 5) ht2 tq.length, dvW db N S2 om2] (k + 1 + 1 + 1 + 1 + 1 + 1 + 1 + 1) (n + 6 + 6 + 6 + 6 + 6 + 6 + 6 + 6)
  refine x_icmp_ne B (pc := 539) 546 dL_law_539 (by decide) (fun h539 => absurd (by rw [sR_k hR.2.1 (k := 9) (by decide)]) h539) (fun h539 => ?_)
  refine x_iconst B (pc := 542) 1 dL_law_542 (by decide) ?_
  refine x_goto B (pc := 543) 547 dL_law_543 (by decide) ?_
  refine x_istore B (pc := 547) [(4, .int 1), (12, .int 3), (11, .int a9), (10, .int (nI ((j + mo) % 4))), (9, .int (nI j)), (5, .int (nI i)), (3, .int (nI mo)), (2, .ref (bd 0)), (1, .ref (ad 0)), (0, .ref b)] dL_law_547 (by decide) rfl ?_
  refine x_iinc B (pc := 549) 1 4 [(12, .int 4), (4, .int 1), (11, .int a9), (10, .int (nI ((j + mo) % 4))), (9, .int (nI j)), (5, .int (nI i)), (3, .int (nI mo)), (2, .ref (bd 0)), (1, .ref (ad 0)), (0, .ref b)] dL_law_549 rfl (by decide) (by decide) rfl ?_
  refine x_goto B (pc := 552) 512 dL_law_552 (by decide) ?_
  refine x_iload B (pc := 512) 0 dL_law_512 rfl ?_
  refine x_iconst B (pc := 514) 5 dL_law_514 (by decide) ?_
  refine x_icmp_ge B (pc := 515) 555 dL_law_515 (by decide) (fun h515 => absurd h515 (by decide)) (fun h515 => ?_)
  refine x_iload B (pc := 518) 1 dL_law_518 rfl ?_
  refine x_if_eq B (pc := 520) 555 dL_law_520 (by decide) (fun h520 => absurd h520 (by decide)) (fun h520 => ?_)
  refine x_aload_n B (pc := 523) 8 dL_law_523 rfl rfl ?_
  refine x_iload B (pc := 524) 0 dL_law_524 rfl ?_
  refine x_iload B (pc := 526) 2 dL_law_526 rfl ?_
  refine x_callSX B (pc := 528) (As := [.ref (ad 0), .int 4, .int a9]) (c_of_effects hl D e0 hok hN) tm564 tm565 tm0 tm566 md_L_of ⟨Nat.le_of_ble_eq_true rfl, Nat.le_of_ble_eq_true rfl⟩ [0, 2, 6] rfl rfl rfl (Nat.le_of_ble_eq_true rfl) (by show k + 1 + 1 + 1 + 1 + 1 + 1 + 1 + 1 + 1 ≤ (619123 : Nat); omega) (by show n + 6 + 6 + 6 + 6 + 6 + 6 + 6 + 6 + 6 ≤ (7243813 : Nat); omega) dL_law_528 (fun E hE => False.elim hE) (fun v cs1 hp => ?_)
  obtain ⟨rfl, rfl⟩ := hp
  show G 531 [(12, .int 4), (4, .int 1), (11, .int a9), (10, .int (nI ((j + mo) % 4))), (9, .int (nI j)), (5, .int (nI i)), (3, .int (nI mo)), (2, .ref (bd 0)), (1, .ref (ad 0)), (0, .ref b)] [.int (bif xinD N a9 then S 13 (ix a9) else -8)] [xoW ad up op tr, lkW D ad L, alW D e0 (ad 2) hs N, rwW D (ad 3) (ad 10) (ad 11) (ad 12) gf qf.length, rwW D (ad 4) (ad 13) (ad 14) (ad 15) gb qb.length, alW D e0 (ad 5) ht tq.length, dvW da N S om, xoW bd up op tr, lkW D bd L2, alW D e0 (bd 2) hs2 N, rwW D (bd 3) (bd 10) (bd 11) (bd 12) gf2 qf.length, rwW D (bd 4) (bd 13) (bd 14) (bd 15) gb2 qb2.length, alW D e0 (bd 5) ht2 tq.length, dvW db N S2 om2] (k + 1 + 1 + 1 + 1 + 1 + 1 + 1 + 1 + 1) (n + 6 + 6 + 6 + 6 + 6 + 6 + 6 + 6 + 6)
  refine x_aload_n B (pc := 531) 7 dL_law_531 rfl rfl ?_
  refine x_iload B (pc := 532) 0 dL_law_532 rfl ?_
  refine x_iload B (pc := 534) 2 dL_law_534 rfl ?_
  refine x_callSX B (pc := 536) (As := [.ref (bd 0), .int 4, .int a9]) (c_of_effects hl D e0 hok2 hN) tm564 tm565 tm0 tm566 md_L_of ⟨Nat.le_of_ble_eq_true rfl, Nat.le_of_ble_eq_true rfl⟩ [7, 9, 13] rfl rfl rfl (Nat.le_of_ble_eq_true rfl) (by show k + 1 + 1 + 1 + 1 + 1 + 1 + 1 + 1 + 1 + 1 ≤ (619123 : Nat); omega) (by show n + 6 + 6 + 6 + 6 + 6 + 6 + 6 + 6 + 6 + 6 ≤ (7243813 : Nat); omega) dL_law_536 (fun E hE => False.elim hE) (fun v cs1 hp => ?_)
  obtain ⟨rfl, rfl⟩ := hp
  show G 539 [(12, .int 4), (4, .int 1), (11, .int a9), (10, .int (nI ((j + mo) % 4))), (9, .int (nI j)), (5, .int (nI i)), (3, .int (nI mo)), (2, .ref (bd 0)), (1, .ref (ad 0)), (0, .ref b)] [.int (bif xinD N a9 then S2 13 (ix a9) else -8), .int (bif xinD N a9 then S 13 (ix a9) else -8)] [xoW ad up op tr, lkW D ad L, alW D e0 (ad 2) hs N, rwW D (ad 3) (ad 10) (ad 11) (ad 12) gf qf.length, rwW D (ad 4) (ad 13) (ad 14) (ad 15) gb qb.length, alW D e0 (ad 5) ht tq.length, dvW da N S om, xoW bd up op tr, lkW D bd L2, alW D e0 (bd 2) hs2 N, rwW D (bd 3) (bd 10) (bd 11) (bd 12) gf2 qf.length, rwW D (bd 4) (bd 13) (bd 14) (bd 15) gb2 qb2.length, alW D e0 (bd 5) ht2 tq.length, dvW db N S2 om2] (k + 1 + 1 + 1 + 1 + 1 + 1 + 1 + 1 + 1 + 1) (n + 6 + 6 + 6 + 6 + 6 + 6 + 6 + 6 + 6 + 6)
  refine x_icmp_ne B (pc := 539) 546 dL_law_539 (by decide) (fun h539 => absurd (by rw [sR_k hR.2.1 (k := 13) (by decide)]) h539) (fun h539 => ?_)
  refine x_iconst B (pc := 542) 1 dL_law_542 (by decide) ?_
  refine x_goto B (pc := 543) 547 dL_law_543 (by decide) ?_
  refine x_istore B (pc := 547) [(4, .int 1), (12, .int 4), (11, .int a9), (10, .int (nI ((j + mo) % 4))), (9, .int (nI j)), (5, .int (nI i)), (3, .int (nI mo)), (2, .ref (bd 0)), (1, .ref (ad 0)), (0, .ref b)] dL_law_547 (by decide) rfl ?_
  refine x_iinc B (pc := 549) 1 5 [(12, .int 5), (4, .int 1), (11, .int a9), (10, .int (nI ((j + mo) % 4))), (9, .int (nI j)), (5, .int (nI i)), (3, .int (nI mo)), (2, .ref (bd 0)), (1, .ref (ad 0)), (0, .ref b)] dL_law_549 rfl (by decide) (by decide) rfl ?_
  refine x_goto B (pc := 552) 512 dL_law_552 (by decide) ?_
  refine x_iload B (pc := 512) 0 dL_law_512 rfl ?_
  refine x_iconst B (pc := 514) 5 dL_law_514 (by decide) ?_
  refine x_icmp_ge B (pc := 515) 555 dL_law_515 (by decide) (fun h515 => ?_) (fun h515 => absurd (by decide) h515)
  refine x_lv B [5, 1, 6, 7, 8, 9] [(5, .int (nI i)), (4, .int 1), (3, .int (nI mo)), (2, .ref (bd 0)), (1, .ref (ad 0)), (0, .ref b)] rfl ?_
  refine x_wid B (k + 10) (n + 60) (by omega) (by omega) ?_
  exact K da hs ht gf gb om L S qb db hs2 ht2 gf2 gb2 om2 L2 S2 qb2 N qf up op tr tq hg

set_option maxRecDepth 100000 in
set_option maxHeartbeats 4000000 in
/-- the tree of kinds -/
theorem st_tree {l : Launch} (hl : l.stackTraces = false) (D : va_G) (e0 : Nat) {b Ls : Nat} {xs : Nat → Int32} {G : xGt} {X : xXt} (B0 : xL l D e0 b Ls xs G X) {ad bd : Nat → Nat} {i j mo v t k n : Nat} {a9 : Int32} (hj : j < 4) (hmo : mo < 4) (ht9 : t < 400) (hk : k ≤ 8000) (hn : n ≤ 300000) {q z : Nat} (K : lTo G D e0 ad bd mo (t + 1) (k + 4) (n + 424) 425 [(11, .int a9), (10, .int (nI ((j + mo) % 4))), (9, .int (nI j)), (5, .int (nI i)), (4, .int 1), (3, .int (nI mo)), (2, .ref (bd 0)), (1, .ref (ad 0)), (0, .ref b)]) : lTo G D e0 ad bd mo t k n 120 [(11, .int a9), (10, .int (nI ((j + mo) % 4))), (9, .int (nI j)), (8, .int (nI v)), (7, .int (nI q)), (6, .int (nI z)), (5, .int (nI i)), (4, .int 1), (3, .int (nI mo)), (2, .ref (bd 0)), (1, .ref (ad 0)), (0, .ref b)] := by
  intro da hs ht gf gb om L S qb db hs2 ht2 gf2 gb2 om2 L2 S2 qb2 N qf up op tr tq hg
  obtain ⟨hI, hI2, hR, ⟨hok, hot, hq, hqb⟩, ⟨hok2, hot2, hq2, hqb2⟩⟩ := id hg
  obtain ⟨hup, hop, hL, hN, hS, hF, hB, hPhi, hlen, hdn⟩ := id hI
  obtain ⟨-, -, hL2, -, hS2, -, hB2, hPhi2, hlen2, -⟩ := id hI2
  have hT := tq_len hI
  have hin := tq_in hS
  have hql2 := rl_len hR
  have hl4 : ∀ d, d < N → ∃ j, j < 4 ∧ S 4 d = nI j := fun d hd => (hS.2.1 d hd).1
  have hl42 : ∀ d, d < N → ∃ j, j < 4 ∧ S2 4 d = nI j := fun d hd => (hS2.2.1 d hd).1
  have h69 : ∀ d, d < N → ∃ m, m ≤ 4 ∧ S 6 d = nI m := fun d hd => (hS.2.1 d hd).2.1
  have h692 : ∀ d, d < N → ∃ m, m ≤ 4 ∧ S2 6 d = nI m := fun d hd => (hS2.2.1 d hd).2.1
  obtain ⟨hh, B, BS⟩ := B0.base
  show G 120 [(11, .int a9), (10, .int (nI ((j + mo) % 4))), (9, .int (nI j)), (8, .int (nI v)), (7, .int (nI q)), (6, .int (nI z)), (5, .int (nI i)), (4, .int 1), (3, .int (nI mo)), (2, .ref (bd 0)), (1, .ref (ad 0)), (0, .ref b)] [] [xoW ad up op tr, lkW D ad L, alW D e0 (ad 2) hs N, rwW D (ad 3) (ad 10) (ad 11) (ad 12) gf qf.length, rwW D (ad 4) (ad 13) (ad 14) (ad 15) gb qb.length, alW D e0 (ad 5) ht tq.length, dvW da N S om, xoW bd up op tr, lkW D bd L2, alW D e0 (bd 2) hs2 N, rwW D (bd 3) (bd 10) (bd 11) (bd 12) gf2 qf.length, rwW D (bd 4) (bd 13) (bd 14) (bd 15) gb2 qb2.length, alW D e0 (bd 5) ht2 tq.length, dvW db N S2 om2] k n
  refine x_iload B (pc := 120) 4 dL_law_120 rfl ?_
  refine x_if_ne B (pc := 122) 164 dL_law_122 (by decide) (fun h122 => ?_) (fun h122 => ?_)
  · skip
    refine x_iload B (pc := 164) 4 dL_law_164 rfl ?_
    refine x_bipush B (pc := 166) 8 dL_law_166 (by decide) ?_
    refine x_icmp_ge B (pc := 168) 229 dL_law_168 (by decide) (fun h168 => ?_) (fun h168 => ?_)
    · skip
      refine x_iload B (pc := 229) 4 dL_law_229 rfl ?_
      refine x_bipush B (pc := 231) 14 dL_law_231 (by decide) ?_
      refine x_icmp_ge B (pc := 233) 289 dL_law_233 (by decide) (fun h233 => ?_) (fun h233 => ?_)
      · skip
        refine x_iload B (pc := 289) 4 dL_law_289 rfl ?_
        refine x_bipush B (pc := 291) 17 dL_law_291 (by decide) ?_
        refine x_icmp_ge B (pc := 293) 371 dL_law_293 (by decide) (fun h293 => ?_) (fun h293 => ?_)
        · skip
          refine x_iload B (pc := 371) 4 dL_law_371 rfl ?_
          refine x_bipush B (pc := 373) 20 dL_law_373 (by decide) ?_
          refine x_icmp_ge B (pc := 375) 382 dL_law_375 (by decide) (fun h375 => ?_) (fun h375 => ?_)
          · skip
            refine x_iconst B (pc := 382) 4 dL_law_382 (by decide) ?_
            refine x_istore B (pc := 383) [(12, .int 4), (11, .int a9), (10, .int (nI ((j + mo) % 4))), (9, .int (nI j)), (8, .int (nI v)), (7, .int (nI q)), (6, .int (nI z)), (5, .int (nI i)), (4, .int 1), (3, .int (nI mo)), (2, .ref (bd 0)), (1, .ref (ad 0)), (0, .ref b)] dL_law_383 (by decide) rfl ?_
            refine x_lv B [0, 1, 2, 3, 4, 7, 8, 9, 10, 11, 12] [(12, .int 4), (11, .int a9), (10, .int (nI ((j + mo) % 4))), (9, .int (nI j)), (8, .int (nI v)), (5, .int (nI i)), (4, .int 1), (3, .int (nI mo)), (2, .ref (bd 0)), (1, .ref (ad 0)), (0, .ref b)] rfl ?_
            have h9 := st_tell hl D e0 B0 (v := v) (a9 := a9) hj hmo ht9 hk hn K da hs ht gf gb om L S qb db hs2 ht2 gf2 gb2 om2 L2 S2 qb2 N qf up op tr tq hg
            exact h9
          · skip
            refine x_iconst B (pc := 378) 3 dL_law_378 (by decide) ?_
            refine x_goto B (pc := 379) 383 dL_law_379 (by decide) ?_
            refine x_istore B (pc := 383) [(12, .int 3), (11, .int a9), (10, .int (nI ((j + mo) % 4))), (9, .int (nI j)), (8, .int (nI v)), (7, .int (nI q)), (6, .int (nI z)), (5, .int (nI i)), (4, .int 1), (3, .int (nI mo)), (2, .ref (bd 0)), (1, .ref (ad 0)), (0, .ref b)] dL_law_383 (by decide) rfl ?_
            refine x_lv B [0, 1, 2, 3, 4, 7, 8, 9, 10, 11, 12] [(12, .int 3), (11, .int a9), (10, .int (nI ((j + mo) % 4))), (9, .int (nI j)), (8, .int (nI v)), (5, .int (nI i)), (4, .int 1), (3, .int (nI mo)), (2, .ref (bd 0)), (1, .ref (ad 0)), (0, .ref b)] rfl ?_
            have h9 := st_decide hl D e0 B0 (v := v) (a9 := a9) hj hmo ht9 hk hn K da hs ht gf gb om L S qb db hs2 ht2 gf2 gb2 om2 L2 S2 qb2 N qf up op tr tq hg
            exact h9
        · skip
          refine x_iload B (pc := 296) 4 dL_law_296 rfl ?_
          refine x_bipush B (pc := 298) 14 dL_law_298 (by decide) ?_
          refine x_icmp_ne B (pc := 300) 318 dL_law_300 (by decide) (fun h300 => ?_) (fun h300 => ?_)
          · skip
            refine x_iload B (pc := 318) 4 dL_law_318 rfl ?_
            refine x_bipush B (pc := 320) 15 dL_law_320 (by decide) ?_
            refine x_icmp_ne B (pc := 322) 329 dL_law_322 (by decide) (fun h322 => ?_) (fun h322 => ?_)
            · skip
              refine x_iload B (pc := 329) 3 dL_law_329 rfl ?_
              refine x_iconst B (pc := 331) 3 dL_law_331 (by decide) ?_
              refine x_irem B (pc := 332) dL_law_332 (by decide) ?_
              refine x_if_ne B (pc := 333) 341 dL_law_333 (by decide) (fun h333 => ?_) (fun h333 => ?_)
              · skip
                refine x_iconst B (pc := 341) 5 dL_law_341 (by decide) ?_
                refine x_istore B (pc := 342) [(12, .int 5), (11, .int a9), (10, .int (nI ((j + mo) % 4))), (9, .int (nI j)), (8, .int (nI v)), (7, .int (nI q)), (6, .int (nI z)), (5, .int (nI i)), (4, .int 1), (3, .int (nI mo)), (2, .ref (bd 0)), (1, .ref (ad 0)), (0, .ref b)] dL_law_342 (by decide) rfl ?_
                refine x_lv B [0, 1, 2, 3, 4, 7, 8, 9, 10, 11, 12] [(12, .int 5), (11, .int a9), (10, .int (nI ((j + mo) % 4))), (9, .int (nI j)), (8, .int (nI v)), (5, .int (nI i)), (4, .int 1), (3, .int (nI mo)), (2, .ref (bd 0)), (1, .ref (ad 0)), (0, .ref b)] rfl ?_
                have h9 := st_end1 hl D e0 B0 (v := v) (a9 := a9) hj hmo ht9 hk hn K da hs ht gf gb om L S qb db hs2 ht2 gf2 gb2 om2 L2 S2 qb2 N qf up op tr tq hg
                exact h9
              · skip
                refine x_bipush B (pc := 336) 6 dL_law_336 (by decide) ?_
                refine x_goto B (pc := 338) 342 dL_law_338 (by decide) ?_
                refine x_istore B (pc := 342) [(12, .int 6), (11, .int a9), (10, .int (nI ((j + mo) % 4))), (9, .int (nI j)), (8, .int (nI v)), (7, .int (nI q)), (6, .int (nI z)), (5, .int (nI i)), (4, .int 1), (3, .int (nI mo)), (2, .ref (bd 0)), (1, .ref (ad 0)), (0, .ref b)] dL_law_342 (by decide) rfl ?_
                refine x_lv B [0, 1, 2, 3, 4, 7, 8, 9, 10, 11, 12] [(12, .int 6), (11, .int a9), (10, .int (nI ((j + mo) % 4))), (9, .int (nI j)), (8, .int (nI v)), (5, .int (nI i)), (4, .int 1), (3, .int (nI mo)), (2, .ref (bd 0)), (1, .ref (ad 0)), (0, .ref b)] rfl ?_
                have h9 := st_end0 hl D e0 B0 (v := v) (a9 := a9) hj hmo ht9 hk hn K da hs ht gf gb om L S qb db hs2 ht2 gf2 gb2 om2 L2 S2 qb2 N qf up op tr tq hg
                exact h9
            · skip
              refine x_iconst B (pc := 325) 4 dL_law_325 (by decide) ?_
              refine x_goto B (pc := 326) 342 dL_law_326 (by decide) ?_
              refine x_istore B (pc := 342) [(12, .int 4), (11, .int a9), (10, .int (nI ((j + mo) % 4))), (9, .int (nI j)), (8, .int (nI v)), (7, .int (nI q)), (6, .int (nI z)), (5, .int (nI i)), (4, .int 1), (3, .int (nI mo)), (2, .ref (bd 0)), (1, .ref (ad 0)), (0, .ref b)] dL_law_342 (by decide) rfl ?_
              refine x_lv B [0, 1, 2, 3, 4, 7, 8, 9, 10, 11, 12] [(12, .int 4), (11, .int a9), (10, .int (nI ((j + mo) % 4))), (9, .int (nI j)), (8, .int (nI v)), (5, .int (nI i)), (4, .int 1), (3, .int (nI mo)), (2, .ref (bd 0)), (1, .ref (ad 0)), (0, .ref b)] rfl ?_
              have h9 := st_begin hl D e0 B0 (v := v) (a9 := a9) hj hmo ht9 hk hn K da hs ht gf gb om L S qb db hs2 ht2 gf2 gb2 om2 L2 S2 qb2 N qf up op tr tq hg
              exact h9
          · skip
            refine x_iload B (pc := 303) 3 dL_law_303 rfl ?_
            refine x_iconst B (pc := 305) 3 dL_law_305 (by decide) ?_
            refine x_irem B (pc := 306) dL_law_306 (by decide) ?_
            refine x_if_ne B (pc := 307) 314 dL_law_307 (by decide) (fun h307 => ?_) (fun h307 => ?_)
            · skip
              refine x_iconst B (pc := 314) 3 dL_law_314 (by decide) ?_
              refine x_goto B (pc := 315) 342 dL_law_315 (by decide) ?_
              refine x_istore B (pc := 342) [(12, .int 3), (11, .int a9), (10, .int (nI ((j + mo) % 4))), (9, .int (nI j)), (8, .int (nI v)), (7, .int (nI q)), (6, .int (nI z)), (5, .int (nI i)), (4, .int 1), (3, .int (nI mo)), (2, .ref (bd 0)), (1, .ref (ad 0)), (0, .ref b)] dL_law_342 (by decide) rfl ?_
              refine x_lv B [0, 1, 2, 3, 4, 7, 8, 9, 10, 11, 12] [(12, .int 3), (11, .int a9), (10, .int (nI ((j + mo) % 4))), (9, .int (nI j)), (8, .int (nI v)), (5, .int (nI i)), (4, .int 1), (3, .int (nI mo)), (2, .ref (bd 0)), (1, .ref (ad 0)), (0, .ref b)] rfl ?_
              have h9 := st_join hl D e0 B0 (v := v) (a9 := a9) hj hmo ht9 hk hn K da hs ht gf gb om L S qb db hs2 ht2 gf2 gb2 om2 L2 S2 qb2 N qf up op tr tq hg
              exact h9
            · skip
              refine x_iconst B (pc := 310) 2 dL_law_310 (by decide) ?_
              refine x_goto B (pc := 311) 342 dL_law_311 (by decide) ?_
              refine x_istore B (pc := 342) [(12, .int 2), (11, .int a9), (10, .int (nI ((j + mo) % 4))), (9, .int (nI j)), (8, .int (nI v)), (7, .int (nI q)), (6, .int (nI z)), (5, .int (nI i)), (4, .int 1), (3, .int (nI mo)), (2, .ref (bd 0)), (1, .ref (ad 0)), (0, .ref b)] dL_law_342 (by decide) rfl ?_
              refine x_lv B [0, 1, 2, 3, 4, 7, 8, 9, 10, 11, 12] [(12, .int 2), (11, .int a9), (10, .int (nI ((j + mo) % 4))), (9, .int (nI j)), (8, .int (nI v)), (5, .int (nI i)), (4, .int 1), (3, .int (nI mo)), (2, .ref (bd 0)), (1, .ref (ad 0)), (0, .ref b)] rfl ?_
              have h9 := st_breakOff hl D e0 B0 (v := v) (a9 := a9) hj hmo ht9 hk hn K da hs ht gf gb om L S qb db hs2 ht2 gf2 gb2 om2 L2 S2 qb2 N qf up op tr tq hg
              exact h9
      · skip
        refine x_iload B (pc := 236) 4 dL_law_236 rfl ?_
        refine x_bipush B (pc := 238) 11 dL_law_238 (by decide) ?_
        refine x_icmp_ge B (pc := 240) 247 dL_law_240 (by decide) (fun h240 => ?_) (fun h240 => ?_)
        · skip
          refine x_iconst B (pc := 247) 1 dL_law_247 (by decide) ?_
          refine x_istore B (pc := 248) [(12, .int 1), (11, .int a9), (10, .int (nI ((j + mo) % 4))), (9, .int (nI j)), (8, .int (nI v)), (7, .int (nI q)), (6, .int (nI z)), (5, .int (nI i)), (4, .int 1), (3, .int (nI mo)), (2, .ref (bd 0)), (1, .ref (ad 0)), (0, .ref b)] dL_law_248 (by decide) rfl ?_
          refine x_lv B [0, 1, 2, 3, 4, 7, 8, 9, 10, 11, 12] [(12, .int 1), (11, .int a9), (10, .int (nI ((j + mo) % 4))), (9, .int (nI j)), (8, .int (nI v)), (5, .int (nI i)), (4, .int 1), (3, .int (nI mo)), (2, .ref (bd 0)), (1, .ref (ad 0)), (0, .ref b)] rfl ?_
          have h9 := st_toSender hl D e0 B0 (v := v) (a9 := a9) hj hmo ht9 hk hn K da hs ht gf gb om L S qb db hs2 ht2 gf2 gb2 om2 L2 S2 qb2 N qf up op tr tq hg
          exact h9
        · skip
          refine x_iconst B (pc := 243) 0 dL_law_243 (by decide) ?_
          refine x_goto B (pc := 244) 248 dL_law_244 (by decide) ?_
          refine x_istore B (pc := 248) [(12, .int 0), (11, .int a9), (10, .int (nI ((j + mo) % 4))), (9, .int (nI j)), (8, .int (nI v)), (7, .int (nI q)), (6, .int (nI z)), (5, .int (nI i)), (4, .int 1), (3, .int (nI mo)), (2, .ref (bd 0)), (1, .ref (ad 0)), (0, .ref b)] dL_law_248 (by decide) rfl ?_
          refine x_lv B [0, 1, 2, 3, 4, 7, 8, 9, 10, 11, 12] [(12, .int 0), (11, .int a9), (10, .int (nI ((j + mo) % 4))), (9, .int (nI j)), (8, .int (nI v)), (5, .int (nI i)), (4, .int 1), (3, .int (nI mo)), (2, .ref (bd 0)), (1, .ref (ad 0)), (0, .ref b)] rfl ?_
          have h9 := st_toReceiver hl D e0 B0 (v := v) (a9 := a9) hj hmo ht9 hk hn K da hs ht gf gb om L S qb db hs2 ht2 gf2 gb2 om2 L2 S2 qb2 N qf up op tr tq hg
          exact h9
    · skip
      refine x_iload B (pc := 171) 4 dL_law_171 rfl ?_
      refine x_iconst B (pc := 173) 4 dL_law_173 (by decide) ?_
      refine x_icmp_ge B (pc := 174) 181 dL_law_174 (by decide) (fun h174 => ?_) (fun h174 => ?_)
      · skip
        refine x_iconst B (pc := 181) 2 dL_law_181 (by decide) ?_
        refine x_istore B (pc := 182) [(12, .int 2), (11, .int a9), (10, .int (nI ((j + mo) % 4))), (9, .int (nI j)), (8, .int (nI v)), (7, .int (nI q)), (6, .int (nI z)), (5, .int (nI i)), (4, .int 1), (3, .int (nI mo)), (2, .ref (bd 0)), (1, .ref (ad 0)), (0, .ref b)] dL_law_182 (by decide) rfl ?_
        refine x_lv B [0, 1, 2, 3, 4, 7, 8, 9, 10, 11, 12] [(12, .int 2), (11, .int a9), (10, .int (nI ((j + mo) % 4))), (9, .int (nI j)), (8, .int (nI v)), (5, .int (nI i)), (4, .int 1), (3, .int (nI mo)), (2, .ref (bd 0)), (1, .ref (ad 0)), (0, .ref b)] rfl ?_
        have h9 := st_send hl D e0 B0 (v := v) (a9 := a9) hj hmo ht9 hk hn K da hs ht gf gb om L S qb db hs2 ht2 gf2 gb2 om2 L2 S2 qb2 N qf up op tr tq hg
        exact h9
      · skip
        refine x_iconst B (pc := 177) 1 dL_law_177 (by decide) ?_
        refine x_goto B (pc := 178) 182 dL_law_178 (by decide) ?_
        refine x_istore B (pc := 182) [(12, .int 1), (11, .int a9), (10, .int (nI ((j + mo) % 4))), (9, .int (nI j)), (8, .int (nI v)), (7, .int (nI q)), (6, .int (nI z)), (5, .int (nI i)), (4, .int 1), (3, .int (nI mo)), (2, .ref (bd 0)), (1, .ref (ad 0)), (0, .ref b)] dL_law_182 (by decide) rfl ?_
        refine x_lv B [0, 1, 2, 3, 4, 7, 8, 9, 10, 11, 12] [(12, .int 1), (11, .int a9), (10, .int (nI ((j + mo) % 4))), (9, .int (nI j)), (8, .int (nI v)), (5, .int (nI i)), (4, .int 1), (3, .int (nI mo)), (2, .ref (bd 0)), (1, .ref (ad 0)), (0, .ref b)] rfl ?_
        have h9 := st_grant hl D e0 B0 (v := v) (a9 := a9) hj hmo ht9 hk hn K da hs ht gf gb om L S qb db hs2 ht2 gf2 gb2 om2 L2 S2 qb2 N qf up op tr tq hg
        exact h9
  · skip
    refine x_lv B [0, 1, 2, 3, 6, 7, 8, 9, 10, 11] [(11, .int a9), (10, .int (nI ((j + mo) % 4))), (9, .int (nI j)), (8, .int (nI v)), (5, .int (nI i)), (4, .int 1), (3, .int (nI mo)), (2, .ref (bd 0)), (1, .ref (ad 0)), (0, .ref b)] rfl ?_
    have h9 := st_setMode hl D e0 B0 (v := v) (a9 := a9) hj hmo ht9 hk hn K da hs ht gf gb om L S qb db hs2 ht2 gf2 gb2 om2 L2 S2 qb2 N qf up op tr tq hg
    exact h9
