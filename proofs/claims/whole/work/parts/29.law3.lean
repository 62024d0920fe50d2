/-! the law, call by call -/
set_option maxRecDepth 100000 in
set_option maxHeartbeats 4000000 in
/-- the call underWay -/
theorem st_underWay {l : Launch} (hl : l.stackTraces = false) (D : va_G) (e0 : Nat) {b Ls : Nat} {xs : Nat → Int32} {G : xGt} {X : xXt} (B0 : xL l D e0 b Ls xs G X) {ad am : Nat → Nat} {oa i t k n : Nat} (hi : i + 3 ≤ Ls) (hLs : Ls ≤ 1536) (ht9 : t < 512) (hk : k ≤ 4000) (hn : n ≤ 300000) (K : lTo G D e0 ad am oa b i (t + 1) (k + 4) (n + 300) 1137) : lTo G D e0 ad am oa b i t k n 589 := by
  intro da hs ht gf gb om L S N qf qb up op tr tq tf tt bf bt tg bg td th f hg
  obtain ⟨hI, ⟨hok, hot, hq, hqb⟩, ⟨hmf, hmb, htd⟩, htt, hbt⟩ := hg
  obtain ⟨hup, hop, hL, hN, hS, hF, hB, hPhi, hlen, hdn⟩ := id hI
  have hT := tq_len hI
  have hin := tq_in hS
  have hin60 : ∀ i, i < tq.length → tq.getD i 0 < 60 := fun i h => Nat.lt_of_lt_of_le (hin i h) hN
  have hl4 : ∀ d, d < N → ∃ j, j < 4 ∧ S 4 d = nI j := fun d hd => (hS.2.1 d hd).1
  have h69 : ∀ d, d < N → ∃ m, m ≤ 4 ∧ S 6 d = nI m := fun d hd => (hS.2.1 d hd).2.1
  have h79 : ∀ d, d < N → S 7 d = 0 ∨ S 7 d = 1 := fun d hd => (hS.2.1 d hd).2.2.1
  have h99 : ∀ d, d < N → S 9 d = 0 ∨ S 9 d = 1 ∨ S 9 d = 2 ∨ S 9 d = 3 ∨ S 9 d = 4 := fun d hd => (hS.2.1 d hd).2.2.2.1
  have hfe := hmf.1
  have hbe := hmb.1
  obtain ⟨hh, B⟩ := B0.base
  show G 589 [(4, .int (nI i)), (3, .ref oa), (2, .ref (am 0)), (1, .ref (ad 0)), (0, .ref b)] [] [xoW ad up op tr, lkW D ad L, alW D e0 (ad 2) hs N, rwW D (ad 3) (ad 10) (ad 11) (ad 12) gf qf.length, rwW D (ad 4) (ad 13) (ad 14) (ad 15) gb qb.length, alW D e0 (ad 5) ht tq.length, dvW da N S om, moW am N tf tt bf bt up op tr tq.length th, mlW D am L, mdW D am S, rtW D am tg, rbW D am bg, tdW D am td, [(oa, .inl (D.1 12, 1, .inr (.inl f)))]] k n
  refine x_aload_n B (pc := 589) 3 dL_law_589 rfl rfl ?_
  refine x_callV B (pc := 590) (As := []) (c_X3_underWay hl D e0 ) xcl_X rfl 0 0 rfl rfl tm134 tm135 tm136 tm1 tm137 md_X3_underWay ⟨Nat.le_of_ble_eq_true rfl, Nat.le_of_ble_eq_true rfl⟩ [0, 3] rfl rfl rfl (Nat.le_of_ble_eq_true rfl) (by show k ≤ (601024 : Nat); omega) (by show n ≤ (7293034 : Nat); omega) dL_law_590 (fun E hE => False.elim hE) (fun v cs1 hp => ?_)
  obtain ⟨rfl, rfl⟩ := hp
  show G 593 [(4, .int (nI i)), (3, .ref oa), (2, .ref (am 0)), (1, .ref (ad 0)), (0, .ref b)] [.int (nI qf.length)] [xoW ad up op tr, lkW D ad L, alW D e0 (ad 2) hs N, rwW D (ad 3) (ad 10) (ad 11) (ad 12) gf qf.length, rwW D (ad 4) (ad 13) (ad 14) (ad 15) gb qb.length, alW D e0 (ad 5) ht tq.length, dvW da N S om, moW am N tf tt bf bt up op tr tq.length th, mlW D am L, mdW D am S, rtW D am tg, rbW D am bg, tdW D am td, [(oa, .inl (D.1 12, 1, .inr (.inl f)))]] k n
  refine x_aload_n B (pc := 593) 2 dL_law_593 rfl rfl ?_
  refine x_callV B (pc := 594) (As := []) (c_X4_underWay hl D e0 (by omega)) xcl_M rfl 0 0 rfl rfl tm802 tm803 tm804 tm7 tm805 md_X4_underWay ⟨Nat.le_of_ble_eq_true rfl, Nat.le_of_ble_eq_true rfl⟩ [7] rfl rfl rfl (Nat.le_of_ble_eq_true rfl) (by show k ≤ (601024 : Nat); omega) (by show n ≤ (7293034 : Nat); omega) dL_law_594 (fun E hE => False.elim hE) (fun v cs1 hp => ?_)
  obtain ⟨rfl, rfl⟩ := hp
  show G 597 [(4, .int (nI i)), (3, .ref oa), (2, .ref (am 0)), (1, .ref (ad 0)), (0, .ref b)] [.int (nI (tt - tf)), .int (nI qf.length)] [xoW ad up op tr, lkW D ad L, alW D e0 (ad 2) hs N, rwW D (ad 3) (ad 10) (ad 11) (ad 12) gf qf.length, rwW D (ad 4) (ad 13) (ad 14) (ad 15) gb qb.length, alW D e0 (ad 5) ht tq.length, dvW da N S om, moW am N tf tt bf bt up op tr tq.length 0, mlW D am L, mdW D am S, rtW D am tg, rbW D am bg, tdW D am td, [(oa, .inl (D.1 12, 1, .inr (.inl f)))]] k n
  refine x_icmp_eq B (pc := 597) 1137 dL_law_597 (by decide) (fun h597 => ?_) (fun h597 => absurd (congrArg nI (by omega)) h597)
  refine x_lv B [0, 1, 2, 3, 4] [(4, .int (nI i)), (3, .ref oa), (2, .ref (am 0)), (1, .ref (ad 0)), (0, .ref b)] rfl ?_
  refine x_wid B (k + 4) (n + 300) (by omega) (by omega) ?_
  exact K da hs ht gf gb om L S N qf qb up op tr tq tf tt bf bt tg bg td 0 f ⟨aInv_more (hI) (by omega), ⟨hok, hot, hq, hqb⟩, ⟨hmf, hmb, htd⟩, (by omega), (by omega)⟩

set_option maxRecDepth 100000 in
set_option maxHeartbeats 4000000 in
/-- the call backUnderWay -/
theorem st_backUnderWay {l : Launch} (hl : l.stackTraces = false) (D : va_G) (e0 : Nat) {b Ls : Nat} {xs : Nat → Int32} {G : xGt} {X : xXt} (B0 : xL l D e0 b Ls xs G X) {ad am : Nat → Nat} {oa i t k n : Nat} (hi : i + 3 ≤ Ls) (hLs : Ls ≤ 1536) (ht9 : t < 512) (hk : k ≤ 4000) (hn : n ≤ 300000) (K : lTo G D e0 ad am oa b i (t + 1) (k + 4) (n + 300) 1137) : lTo G D e0 ad am oa b i t k n 602 := by
  intro da hs ht gf gb om L S N qf qb up op tr tq tf tt bf bt tg bg td th f hg
  obtain ⟨hI, ⟨hok, hot, hq, hqb⟩, ⟨hmf, hmb, htd⟩, htt, hbt⟩ := hg
  obtain ⟨hup, hop, hL, hN, hS, hF, hB, hPhi, hlen, hdn⟩ := id hI
  have hT := tq_len hI
  have hin := tq_in hS
  have hin60 : ∀ i, i < tq.length → tq.getD i 0 < 60 := fun i h => Nat.lt_of_lt_of_le (hin i h) hN
  have hl4 : ∀ d, d < N → ∃ j, j < 4 ∧ S 4 d = nI j := fun d hd => (hS.2.1 d hd).1
  have h69 : ∀ d, d < N → ∃ m, m ≤ 4 ∧ S 6 d = nI m := fun d hd => (hS.2.1 d hd).2.1
  have h79 : ∀ d, d < N → S 7 d = 0 ∨ S 7 d = 1 := fun d hd => (hS.2.1 d hd).2.2.1
  have h99 : ∀ d, d < N → S 9 d = 0 ∨ S 9 d = 1 ∨ S 9 d = 2 ∨ S 9 d = 3 ∨ S 9 d = 4 := fun d hd => (hS.2.1 d hd).2.2.2.1
  have hfe := hmf.1
  have hbe := hmb.1
  obtain ⟨hh, B⟩ := B0.base
  show G 602 [(4, .int (nI i)), (3, .ref oa), (2, .ref (am 0)), (1, .ref (ad 0)), (0, .ref b)] [] [xoW ad up op tr, lkW D ad L, alW D e0 (ad 2) hs N, rwW D (ad 3) (ad 10) (ad 11) (ad 12) gf qf.length, rwW D (ad 4) (ad 13) (ad 14) (ad 15) gb qb.length, alW D e0 (ad 5) ht tq.length, dvW da N S om, moW am N tf tt bf bt up op tr tq.length th, mlW D am L, mdW D am S, rtW D am tg, rbW D am bg, tdW D am td, [(oa, .inl (D.1 12, 1, .inr (.inl f)))]] k n
  refine x_aload_n B (pc := 602) 3 dL_law_602 rfl rfl ?_
  refine x_callV B (pc := 603) (As := []) (c_X3_backUnderWay hl D e0 ) xcl_X rfl 0 0 rfl rfl tm142 tm143 tm144 tm1 tm145 md_X3_backUnderWay ⟨Nat.le_of_ble_eq_true rfl, Nat.le_of_ble_eq_true rfl⟩ [0, 4] rfl rfl rfl (Nat.le_of_ble_eq_true rfl) (by show k ≤ (601024 : Nat); omega) (by show n ≤ (7293034 : Nat); omega) dL_law_603 (fun E hE => False.elim hE) (fun v cs1 hp => ?_)
  obtain ⟨rfl, rfl⟩ := hp
  show G 606 [(4, .int (nI i)), (3, .ref oa), (2, .ref (am 0)), (1, .ref (ad 0)), (0, .ref b)] [.int (nI qb.length)] [xoW ad up op tr, lkW D ad L, alW D e0 (ad 2) hs N, rwW D (ad 3) (ad 10) (ad 11) (ad 12) gf qf.length, rwW D (ad 4) (ad 13) (ad 14) (ad 15) gb qb.length, alW D e0 (ad 5) ht tq.length, dvW da N S om, moW am N tf tt bf bt up op tr tq.length th, mlW D am L, mdW D am S, rtW D am tg, rbW D am bg, tdW D am td, [(oa, .inl (D.1 12, 1, .inr (.inl f)))]] k n
  refine x_aload_n B (pc := 606) 2 dL_law_606 rfl rfl ?_
  refine x_callV B (pc := 607) (As := []) (c_X4_backUnderWay hl D e0 (by omega)) xcl_M rfl 0 0 rfl rfl tm806 tm807 tm808 tm7 tm809 md_X4_backUnderWay ⟨Nat.le_of_ble_eq_true rfl, Nat.le_of_ble_eq_true rfl⟩ [7] rfl rfl rfl (Nat.le_of_ble_eq_true rfl) (by show k ≤ (601024 : Nat); omega) (by show n ≤ (7293034 : Nat); omega) dL_law_607 (fun E hE => False.elim hE) (fun v cs1 hp => ?_)
  obtain ⟨rfl, rfl⟩ := hp
  show G 610 [(4, .int (nI i)), (3, .ref oa), (2, .ref (am 0)), (1, .ref (ad 0)), (0, .ref b)] [.int (nI (bt - bf)), .int (nI qb.length)] [xoW ad up op tr, lkW D ad L, alW D e0 (ad 2) hs N, rwW D (ad 3) (ad 10) (ad 11) (ad 12) gf qf.length, rwW D (ad 4) (ad 13) (ad 14) (ad 15) gb qb.length, alW D e0 (ad 5) ht tq.length, dvW da N S om, moW am N tf tt bf bt up op tr tq.length 0, mlW D am L, mdW D am S, rtW D am tg, rbW D am bg, tdW D am td, [(oa, .inl (D.1 12, 1, .inr (.inl f)))]] k n
  refine x_icmp_eq B (pc := 610) 1137 dL_law_610 (by decide) (fun h610 => ?_) (fun h610 => absurd (congrArg nI (by omega)) h610)
  refine x_lv B [0, 1, 2, 3, 4] [(4, .int (nI i)), (3, .ref oa), (2, .ref (am 0)), (1, .ref (ad 0)), (0, .ref b)] rfl ?_
  refine x_wid B (k + 4) (n + 300) (by omega) (by omega) ?_
  exact K da hs ht gf gb om L S N qf qb up op tr tq tf tt bf bt tg bg td 0 f ⟨aInv_more (hI) (by omega), ⟨hok, hot, hq, hqb⟩, ⟨hmf, hmb, htd⟩, (by omega), (by omega)⟩

set_option maxRecDepth 100000 in
set_option maxHeartbeats 4000000 in
/-- the call forSender -/
theorem st_forSender {l : Launch} (hl : l.stackTraces = false) (D : va_G) (e0 : Nat) {b Ls : Nat} {xs : Nat → Int32} {G : xGt} {X : xXt} (B0 : xL l D e0 b Ls xs G X) {ad am : Nat → Nat} {oa i t k n : Nat} (hi : i + 3 ≤ Ls) (hLs : Ls ≤ 1536) (ht9 : t < 512) (hk : k ≤ 4000) (hn : n ≤ 300000) (K : lTo G D e0 ad am oa b i (t + 1) (k + 4) (n + 300) 1137) : lTo G D e0 ad am oa b i t k n 615 := by
  intro da hs ht gf gb om L S N qf qb up op tr tq tf tt bf bt tg bg td th f hg
  obtain ⟨hI, ⟨hok, hot, hq, hqb⟩, ⟨hmf, hmb, htd⟩, htt, hbt⟩ := hg
  obtain ⟨hup, hop, hL, hN, hS, hF, hB, hPhi, hlen, hdn⟩ := id hI
  have hT := tq_len hI
  have hin := tq_in hS
  have hin60 : ∀ i, i < tq.length → tq.getD i 0 < 60 := fun i h => Nat.lt_of_lt_of_le (hin i h) hN
  have hl4 : ∀ d, d < N → ∃ j, j < 4 ∧ S 4 d = nI j := fun d hd => (hS.2.1 d hd).1
  have h69 : ∀ d, d < N → ∃ m, m ≤ 4 ∧ S 6 d = nI m := fun d hd => (hS.2.1 d hd).2.1
  have h79 : ∀ d, d < N → S 7 d = 0 ∨ S 7 d = 1 := fun d hd => (hS.2.1 d hd).2.2.1
  have h99 : ∀ d, d < N → S 9 d = 0 ∨ S 9 d = 1 ∨ S 9 d = 2 ∨ S 9 d = 3 ∨ S 9 d = 4 := fun d hd => (hS.2.1 d hd).2.2.2.1
  have hfe := hmf.1
  have hbe := hmb.1
  obtain ⟨hh, B⟩ := B0.base
  show G 615 [(4, .int (nI i)), (3, .ref oa), (2, .ref (am 0)), (1, .ref (ad 0)), (0, .ref b)] [] [xoW ad up op tr, lkW D ad L, alW D e0 (ad 2) hs N, rwW D (ad 3) (ad 10) (ad 11) (ad 12) gf qf.length, rwW D (ad 4) (ad 13) (ad 14) (ad 15) gb qb.length, alW D e0 (ad 5) ht tq.length, dvW da N S om, moW am N tf tt bf bt up op tr tq.length th, mlW D am L, mdW D am S, rtW D am tg, rbW D am bg, tdW D am td, [(oa, .inl (D.1 12, 1, .inr (.inl f)))]] k n
  refine x_aload_n B (pc := 615) 3 dL_law_615 rfl rfl ?_
  refine x_aload_n B (pc := 616) 4 dL_law_616 rfl rfl ?_
  refine x_iload B (pc := 617) 0 dL_law_617 rfl ?_
  refine x_iconst B (pc := 619) 1 dL_law_619 (by decide) ?_
  refine x_iadd B (pc := 620) dL_law_620 ?_
  refine x_val B (y := nI (i + 1)) (nI_add i 1) ?_
  refine x_sldN B0 (pc := 621) (d := (i + 1)) (by omega) (by omega) dL_law_621 ?_
  refine x_aload_n B (pc := 622) 1 dL_law_622 rfl rfl ?_
  refine x_callSX B (pc := 623) (As := [.ref (ad 0), .int (xs (i + 1)), .ref oa]) (c_L_forSender hl D e0 hok hN) tm533 tm534 tm0 tm535 md_L_forSender ⟨Nat.le_of_ble_eq_true rfl, Nat.le_of_ble_eq_true rfl⟩ [0, 2, 6, 13] rfl rfl rfl (Nat.le_of_ble_eq_true rfl) (by show k + 1 ≤ (601024 : Nat); omega) (by show n + 6 ≤ (7293034 : Nat); omega) dL_law_623 (fun E hE => False.elim hE) (fun v cs1 hp => ?_)
  rcases hp with ⟨hc, rfl, rfl⟩ | ⟨hc, rfl, rfl⟩
  · show G 626 [(4, .int (nI i)), (3, .ref oa), (2, .ref (am 0)), (1, .ref (ad 0)), (0, .ref b)] [.int 0] [xoW ad up op tr, lkW D ad L, alW D e0 (ad 2) hs N, rwW D (ad 3) (ad 10) (ad 11) (ad 12) gf qf.length, rwW D (ad 4) (ad 13) (ad 14) (ad 15) gb qb.length, alW D e0 (ad 5) ht tq.length, dvW da N S om, moW am N tf tt bf bt up op tr tq.length th, mlW D am L, mdW D am S, rtW D am tg, rbW D am bg, tdW D am td, [(oa, .inl (D.1 12, 1, .inr (.inl (vp_updL f 0 ((S 7 (ix (xs (i + 1)))).toInt64)))))]] (k + 1) (n + 6)
    refine x_istore B (pc := 626) [(5, .int 0), (4, .int (nI i)), (3, .ref oa), (2, .ref (am 0)), (1, .ref (ad 0)), (0, .ref b)] dL_law_626 (by decide) rfl ?_
    refine x_aload_n B (pc := 628) 3 dL_law_628 rfl rfl ?_
    refine x_aload_n B (pc := 629) 5 dL_law_629 rfl rfl ?_
    refine x_iload B (pc := 630) 1 dL_law_630 rfl ?_
    refine x_iconst B (pc := 632) 1 dL_law_632 (by decide) ?_
    refine x_iadd B (pc := 633) dL_law_633 ?_
    refine x_val B (y := nI (i + 1)) (nI_add i 1) ?_
    refine x_sldN B0 (pc := 634) (d := (i + 1)) (by omega) (by omega) dL_law_634 ?_
    refine x_callV B (pc := 635) (As := [.int (xs (i + 1))]) (c_X4_forSender hl D e0 hN) xcl_M rfl 0 0 rfl rfl tm810 tm811 tm812 tm7 tm813 md_X4_forSender ⟨Nat.le_of_ble_eq_true rfl, Nat.le_of_ble_eq_true rfl⟩ [7, 9] rfl rfl rfl (Nat.le_of_ble_eq_true rfl) (by show k + 1 ≤ (601024 : Nat); omega) (by show n + 6 ≤ (7293034 : Nat); omega) dL_law_635 (fun E hE => False.elim hE) (fun v cs1 hp => ?_)
    rcases hp with ⟨hc2, rfl, rfl⟩ | ⟨hc2, hz2⟩
    · show G 638 [(5, .int 0), (4, .int (nI i)), (3, .ref oa), (2, .ref (am 0)), (1, .ref (ad 0)), (0, .ref b)] [.int (S 7 (ix (xs (i + 1))))] [xoW ad up op tr, lkW D ad L, alW D e0 (ad 2) hs N, rwW D (ad 3) (ad 10) (ad 11) (ad 12) gf qf.length, rwW D (ad 4) (ad 13) (ad 14) (ad 15) gb qb.length, alW D e0 (ad 5) ht tq.length, dvW da N S om, moW am N tf tt bf bt up op tr tq.length 0, mlW D am L, mdW D am S, rtW D am tg, rbW D am bg, tdW D am td, [(oa, .inl (D.1 12, 1, .inr (.inl (vp_updL f 0 ((S 7 (ix (xs (i + 1)))).toInt64)))))]] (k + 1) (n + 6)
      refine x_istore B (pc := 638) [(6, .int (S 7 (ix (xs (i + 1))))), (5, .int 0), (4, .int (nI i)), (3, .ref oa), (2, .ref (am 0)), (1, .ref (ad 0)), (0, .ref b)] dL_law_638 (by decide) rfl ?_
      refine x_aload_n B (pc := 640) 4 dL_law_640 rfl rfl ?_
      refine x_callV B (pc := 641) (As := []) (c_X4_thrown hl D e0 ) xcl_M rfl 0 0 rfl rfl tm716 tm717 tm718 tm7 tm719 md_X4_thrown ⟨Nat.le_of_ble_eq_true rfl, Nat.le_of_ble_eq_true rfl⟩ [7] rfl rfl rfl (Nat.le_of_ble_eq_true rfl) (by show k + 1 ≤ (601024 : Nat); omega) (by show n + 6 ≤ (7293034 : Nat); omega) dL_law_641 (fun E hE => False.elim hE) (fun v cs1 hp => ?_)
      obtain ⟨rfl, rfl⟩ := hp
      show G 644 [(6, .int (S 7 (ix (xs (i + 1))))), (5, .int 0), (4, .int (nI i)), (3, .ref oa), (2, .ref (am 0)), (1, .ref (ad 0)), (0, .ref b)] [.int 0] [xoW ad up op tr, lkW D ad L, alW D e0 (ad 2) hs N, rwW D (ad 3) (ad 10) (ad 11) (ad 12) gf qf.length, rwW D (ad 4) (ad 13) (ad 14) (ad 15) gb qb.length, alW D e0 (ad 5) ht tq.length, dvW da N S om, moW am N tf tt bf bt up op tr tq.length 0, mlW D am L, mdW D am S, rtW D am tg, rbW D am bg, tdW D am td, [(oa, .inl (D.1 12, 1, .inr (.inl (vp_updL f 0 ((S 7 (ix (xs (i + 1)))).toInt64)))))]] (k + 1) (n + 6)
      refine x_iload B (pc := 644) 1 dL_law_644 rfl ?_
      refine x_icmp_eq B (pc := 646) 651 dL_law_646 (by decide) (fun h646 => ?_) (fun h646 => absurd (by decide) h646)
      refine x_iload B (pc := 651) 1 dL_law_651 rfl ?_
      refine x_if_ne B (pc := 653) 668 dL_law_653 (by decide) (fun h653 => absurd (by decide) h653) (fun h653 => ?_)
      refine x_aload_n B (pc := 656) 3 dL_law_656 rfl rfl ?_
      refine x_iconst B (pc := 657) 0 dL_law_657 (by decide) ?_
      refine x_val B (y := nI 0) rfl ?_
      refine x_laldN B (pc := 658) 0 13 0 (by decide) (by decide) rfl rfl dL_law_658 ?_
      refine x_iload B (pc := 659) 0 dL_law_659 rfl ?_
      refine x_i2l B (pc := 661) dL_law_661 ?_
      refine x_lcmp B (pc := 662) dL_law_662 ?_
      refine x_val B (y := 0) out_cmp ?_
      refine x_if_eq B (pc := 663) 668 dL_law_663 (by decide) (fun h663 => ?_) (fun h663 => absurd (by decide) h663)
      refine x_goto B (pc := 668) 1137 dL_law_668 (by decide) ?_
      refine x_lv B [2, 3, 4, 5, 6] [(4, .int (nI i)), (3, .ref oa), (2, .ref (am 0)), (1, .ref (ad 0)), (0, .ref b)] rfl ?_
      refine x_wid B (k + 4) (n + 300) (by omega) (by omega) ?_
      exact K da hs ht gf gb om L S N qf qb up op tr tq tf tt bf bt tg bg td 0 (vp_updL f 0 ((S 7 (ix (xs (i + 1)))).toInt64)) ⟨aInv_more (hI) (by omega), ⟨hok, hot, hq, hqb⟩, ⟨hmf, hmb, htd⟩, (by omega), (by omega)⟩
    · exact absurd hc hc2
  · show G 626 [(4, .int (nI i)), (3, .ref oa), (2, .ref (am 0)), (1, .ref (ad 0)), (0, .ref b)] [.int (nI (cod (xinD N (xs (i + 1))) true true))] [xoW ad up op tr, lkW D ad L, alW D e0 (ad 2) hs N, rwW D (ad 3) (ad 10) (ad 11) (ad 12) gf qf.length, rwW D (ad 4) (ad 13) (ad 14) (ad 15) gb qb.length, alW D e0 (ad 5) ht tq.length, dvW da N S om, moW am N tf tt bf bt up op tr tq.length th, mlW D am L, mdW D am S, rtW D am tg, rbW D am bg, tdW D am td, [(oa, .inl (D.1 12, 1, .inr (.inl f)))]] (k + 1) (n + 6)
    refine x_istore B (pc := 626) [(5, .int (nI (cod (xinD N (xs (i + 1))) true true))), (4, .int (nI i)), (3, .ref oa), (2, .ref (am 0)), (1, .ref (ad 0)), (0, .ref b)] dL_law_626 (by decide) rfl ?_
    refine x_aload_n B (pc := 628) 3 dL_law_628 rfl rfl ?_
    refine x_aload_n B (pc := 629) 5 dL_law_629 rfl rfl ?_
    refine x_iload B (pc := 630) 1 dL_law_630 rfl ?_
    refine x_iconst B (pc := 632) 1 dL_law_632 (by decide) ?_
    refine x_iadd B (pc := 633) dL_law_633 ?_
    refine x_val B (y := nI (i + 1)) (nI_add i 1) ?_
    refine x_sldN B0 (pc := 634) (d := (i + 1)) (by omega) (by omega) dL_law_634 ?_
    refine x_callV B (pc := 635) (As := [.int (xs (i + 1))]) (c_X4_forSender hl D e0 hN) xcl_M rfl 0 0 rfl rfl tm810 tm811 tm812 tm7 tm813 md_X4_forSender ⟨Nat.le_of_ble_eq_true rfl, Nat.le_of_ble_eq_true rfl⟩ [7, 9] rfl rfl rfl (Nat.le_of_ble_eq_true rfl) (by show k + 1 ≤ (601024 : Nat); omega) (by show n + 6 ≤ (7293034 : Nat); omega) dL_law_635 (fun E hE => False.elim hE) (fun v cs1 hp => ?_)
    rcases hp with ⟨hc2, hz2⟩ | ⟨hc2, ⟨z9, rfl⟩, rfl⟩
    · exact absurd hc2 hc
    · show G 638 [(5, .int (nI (cod (xinD N (xs (i + 1))) true true))), (4, .int (nI i)), (3, .ref oa), (2, .ref (am 0)), (1, .ref (ad 0)), (0, .ref b)] [.int z9] [xoW ad up op tr, lkW D ad L, alW D e0 (ad 2) hs N, rwW D (ad 3) (ad 10) (ad 11) (ad 12) gf qf.length, rwW D (ad 4) (ad 13) (ad 14) (ad 15) gb qb.length, alW D e0 (ad 5) ht tq.length, dvW da N S om, moW am N tf tt bf bt up op tr tq.length (nI (cod (xinD N (xs (i + 1))) true true)), mlW D am L, mdW D am S, rtW D am tg, rbW D am bg, tdW D am td, [(oa, .inl (D.1 12, 1, .inr (.inl f)))]] (k + 1) (n + 6)
      refine x_istore B (pc := 638) [(6, .int z9), (5, .int (nI (cod (xinD N (xs (i + 1))) true true))), (4, .int (nI i)), (3, .ref oa), (2, .ref (am 0)), (1, .ref (ad 0)), (0, .ref b)] dL_law_638 (by decide) rfl ?_
      refine x_aload_n B (pc := 640) 4 dL_law_640 rfl rfl ?_
      refine x_callV B (pc := 641) (As := []) (c_X4_thrown hl D e0 ) xcl_M rfl 0 0 rfl rfl tm716 tm717 tm718 tm7 tm719 md_X4_thrown ⟨Nat.le_of_ble_eq_true rfl, Nat.le_of_ble_eq_true rfl⟩ [7] rfl rfl rfl (Nat.le_of_ble_eq_true rfl) (by show k + 1 ≤ (601024 : Nat); omega) (by show n + 6 ≤ (7293034 : Nat); omega) dL_law_641 (fun E hE => False.elim hE) (fun v cs1 hp => ?_)
      obtain ⟨rfl, rfl⟩ := hp
      show G 644 [(6, .int z9), (5, .int (nI (cod (xinD N (xs (i + 1))) true true))), (4, .int (nI i)), (3, .ref oa), (2, .ref (am 0)), (1, .ref (ad 0)), (0, .ref b)] [.int (nI (cod (xinD N (xs (i + 1))) true true))] [xoW ad up op tr, lkW D ad L, alW D e0 (ad 2) hs N, rwW D (ad 3) (ad 10) (ad 11) (ad 12) gf qf.length, rwW D (ad 4) (ad 13) (ad 14) (ad 15) gb qb.length, alW D e0 (ad 5) ht tq.length, dvW da N S om, moW am N tf tt bf bt up op tr tq.length (nI (cod (xinD N (xs (i + 1))) true true)), mlW D am L, mdW D am S, rtW D am tg, rbW D am bg, tdW D am td, [(oa, .inl (D.1 12, 1, .inr (.inl f)))]] (k + 1) (n + 6)
      refine x_iload B (pc := 644) 1 dL_law_644 rfl ?_
      refine x_icmp_eq B (pc := 646) 651 dL_law_646 (by decide) (fun h646 => ?_) (fun h646 => absurd rfl h646)
      refine x_iload B (pc := 651) 1 dL_law_651 rfl ?_
      refine x_if_ne B (pc := 653) 668 dL_law_653 (by decide) (fun h653 => ?_) (fun h653 => absurd h653 (cod_nz hc))
      refine x_goto B (pc := 668) 1137 dL_law_668 (by decide) ?_
      refine x_lv B [2, 3, 4, 5, 6] [(4, .int (nI i)), (3, .ref oa), (2, .ref (am 0)), (1, .ref (ad 0)), (0, .ref b)] rfl ?_
      refine x_wid B (k + 4) (n + 300) (by omega) (by omega) ?_
      exact K da hs ht gf gb om L S N qf qb up op tr tq tf tt bf bt tg bg td (nI (cod (xinD N (xs (i + 1))) true true)) f ⟨aInv_more (hI) (by omega), ⟨hok, hot, hq, hqb⟩, ⟨hmf, hmb, htd⟩, (by omega), (by omega)⟩

set_option maxRecDepth 100000 in
set_option maxHeartbeats 4000000 in
/-- the call heard -/
theorem st_heard {l : Launch} (hl : l.stackTraces = false) (D : va_G) (e0 : Nat) {b Ls : Nat} {xs : Nat → Int32} {G : xGt} {X : xXt} (B0 : xL l D e0 b Ls xs G X) {ad am : Nat → Nat} {oa i t k n : Nat} (hi : i + 3 ≤ Ls) (hLs : Ls ≤ 1536) (ht9 : t < 512) (hk : k ≤ 4000) (hn : n ≤ 300000) (K : lTo G D e0 ad am oa b i (t + 1) (k + 4) (n + 300) 1137) : lTo G D e0 ad am oa b i t k n 671 := by
  intro da hs ht gf gb om L S N qf qb up op tr tq tf tt bf bt tg bg td th f hg
  obtain ⟨hI, ⟨hok, hot, hq, hqb⟩, ⟨hmf, hmb, htd⟩, htt, hbt⟩ := hg
  obtain ⟨hup, hop, hL, hN, hS, hF, hB, hPhi, hlen, hdn⟩ := id hI
  have hT := tq_len hI
  have hin := tq_in hS
  have hin60 : ∀ i, i < tq.length → tq.getD i 0 < 60 := fun i h => Nat.lt_of_lt_of_le (hin i h) hN
  have hl4 : ∀ d, d < N → ∃ j, j < 4 ∧ S 4 d = nI j := fun d hd => (hS.2.1 d hd).1
  have h69 : ∀ d, d < N → ∃ m, m ≤ 4 ∧ S 6 d = nI m := fun d hd => (hS.2.1 d hd).2.1
  have h79 : ∀ d, d < N → S 7 d = 0 ∨ S 7 d = 1 := fun d hd => (hS.2.1 d hd).2.2.1
  have h99 : ∀ d, d < N → S 9 d = 0 ∨ S 9 d = 1 ∨ S 9 d = 2 ∨ S 9 d = 3 ∨ S 9 d = 4 := fun d hd => (hS.2.1 d hd).2.2.2.1
  have hfe := hmf.1
  have hbe := hmb.1
  obtain ⟨hh, B⟩ := B0.base
  show G 671 [(4, .int (nI i)), (3, .ref oa), (2, .ref (am 0)), (1, .ref (ad 0)), (0, .ref b)] [] [xoW ad up op tr, lkW D ad L, alW D e0 (ad 2) hs N, rwW D (ad 3) (ad 10) (ad 11) (ad 12) gf qf.length, rwW D (ad 4) (ad 13) (ad 14) (ad 15) gb qb.length, alW D e0 (ad 5) ht tq.length, dvW da N S om, moW am N tf tt bf bt up op tr tq.length th, mlW D am L, mdW D am S, rtW D am tg, rbW D am bg, tdW D am td, [(oa, .inl (D.1 12, 1, .inr (.inl f)))]] k n
  refine x_aload_n B (pc := 671) 3 dL_law_671 rfl rfl ?_
  refine x_aload_n B (pc := 672) 4 dL_law_672 rfl rfl ?_
  refine x_iload B (pc := 673) 0 dL_law_673 rfl ?_
  refine x_iconst B (pc := 675) 1 dL_law_675 (by decide) ?_
  refine x_iadd B (pc := 676) dL_law_676 ?_
  refine x_val B (y := nI (i + 1)) (nI_add i 1) ?_
  refine x_sldN B0 (pc := 677) (d := (i + 1)) (by omega) (by omega) dL_law_677 ?_
  refine x_aload_n B (pc := 678) 1 dL_law_678 rfl rfl ?_
  refine x_callSX B (pc := 679) (As := [.ref (ad 0), .int (xs (i + 1)), .ref oa]) (c_L_heard hl D e0 hok hN) tm540 tm541 tm0 tm542 md_L_heard ⟨Nat.le_of_ble_eq_true rfl, Nat.le_of_ble_eq_true rfl⟩ [0, 2, 6, 13] rfl rfl rfl (Nat.le_of_ble_eq_true rfl) (by show k + 1 ≤ (601024 : Nat); omega) (by show n + 6 ≤ (7293034 : Nat); omega) dL_law_679 (fun E hE => False.elim hE) (fun v cs1 hp => ?_)
  rcases hp with ⟨hc, rfl, rfl⟩ | ⟨hc, rfl, rfl⟩
  · show G 682 [(4, .int (nI i)), (3, .ref oa), (2, .ref (am 0)), (1, .ref (ad 0)), (0, .ref b)] [.int 0] [xoW ad up op tr, lkW D ad L, alW D e0 (ad 2) hs N, rwW D (ad 3) (ad 10) (ad 11) (ad 12) gf qf.length, rwW D (ad 4) (ad 13) (ad 14) (ad 15) gb qb.length, alW D e0 (ad 5) ht tq.length, dvW da N S om, moW am N tf tt bf bt up op tr tq.length th, mlW D am L, mdW D am S, rtW D am tg, rbW D am bg, tdW D am td, [(oa, .inl (D.1 12, 1, .inr (.inl (vp_updL f 0 ((S 8 (ix (xs (i + 1)))).toInt64)))))]] (k + 1) (n + 6)
    refine x_istore B (pc := 682) [(5, .int 0), (4, .int (nI i)), (3, .ref oa), (2, .ref (am 0)), (1, .ref (ad 0)), (0, .ref b)] dL_law_682 (by decide) rfl ?_
    refine x_aload_n B (pc := 684) 3 dL_law_684 rfl rfl ?_
    refine x_aload_n B (pc := 685) 5 dL_law_685 rfl rfl ?_
    refine x_iload B (pc := 686) 1 dL_law_686 rfl ?_
    refine x_iconst B (pc := 688) 1 dL_law_688 (by decide) ?_
    refine x_iadd B (pc := 689) dL_law_689 ?_
    refine x_val B (y := nI (i + 1)) (nI_add i 1) ?_
    refine x_sldN B0 (pc := 690) (d := (i + 1)) (by omega) (by omega) dL_law_690 ?_
    refine x_callV B (pc := 691) (As := [.int (xs (i + 1))]) (c_X4_heard hl D e0 hN) xcl_M rfl 0 0 rfl rfl tm814 tm815 tm816 tm7 tm817 md_X4_heard ⟨Nat.le_of_ble_eq_true rfl, Nat.le_of_ble_eq_true rfl⟩ [7, 9] rfl rfl rfl (Nat.le_of_ble_eq_true rfl) (by show k + 1 ≤ (601024 : Nat); omega) (by show n + 6 ≤ (7293034 : Nat); omega) dL_law_691 (fun E hE => False.elim hE) (fun v cs1 hp => ?_)
    rcases hp with ⟨hc2, rfl, rfl⟩ | ⟨hc2, hz2⟩
    · show G 694 [(5, .int 0), (4, .int (nI i)), (3, .ref oa), (2, .ref (am 0)), (1, .ref (ad 0)), (0, .ref b)] [.int (S 8 (ix (xs (i + 1))))] [xoW ad up op tr, lkW D ad L, alW D e0 (ad 2) hs N, rwW D (ad 3) (ad 10) (ad 11) (ad 12) gf qf.length, rwW D (ad 4) (ad 13) (ad 14) (ad 15) gb qb.length, alW D e0 (ad 5) ht tq.length, dvW da N S om, moW am N tf tt bf bt up op tr tq.length 0, mlW D am L, mdW D am S, rtW D am tg, rbW D am bg, tdW D am td, [(oa, .inl (D.1 12, 1, .inr (.inl (vp_updL f 0 ((S 8 (ix (xs (i + 1)))).toInt64)))))]] (k + 1) (n + 6)
      refine x_istore B (pc := 694) [(6, .int (S 8 (ix (xs (i + 1))))), (5, .int 0), (4, .int (nI i)), (3, .ref oa), (2, .ref (am 0)), (1, .ref (ad 0)), (0, .ref b)] dL_law_694 (by decide) rfl ?_
      refine x_aload_n B (pc := 696) 4 dL_law_696 rfl rfl ?_
      refine x_callV B (pc := 697) (As := []) (c_X4_thrown hl D e0 ) xcl_M rfl 0 0 rfl rfl tm716 tm717 tm718 tm7 tm719 md_X4_thrown ⟨Nat.le_of_ble_eq_true rfl, Nat.le_of_ble_eq_true rfl⟩ [7] rfl rfl rfl (Nat.le_of_ble_eq_true rfl) (by show k + 1 ≤ (601024 : Nat); omega) (by show n + 6 ≤ (7293034 : Nat); omega) dL_law_697 (fun E hE => False.elim hE) (fun v cs1 hp => ?_)
      obtain ⟨rfl, rfl⟩ := hp
      show G 700 [(6, .int (S 8 (ix (xs (i + 1))))), (5, .int 0), (4, .int (nI i)), (3, .ref oa), (2, .ref (am 0)), (1, .ref (ad 0)), (0, .ref b)] [.int 0] [xoW ad up op tr, lkW D ad L, alW D e0 (ad 2) hs N, rwW D (ad 3) (ad 10) (ad 11) (ad 12) gf qf.length, rwW D (ad 4) (ad 13) (ad 14) (ad 15) gb qb.length, alW D e0 (ad 5) ht tq.length, dvW da N S om, moW am N tf tt bf bt up op tr tq.length 0, mlW D am L, mdW D am S, rtW D am tg, rbW D am bg, tdW D am td, [(oa, .inl (D.1 12, 1, .inr (.inl (vp_updL f 0 ((S 8 (ix (xs (i + 1)))).toInt64)))))]] (k + 1) (n + 6)
      refine x_iload B (pc := 700) 1 dL_law_700 rfl ?_
      refine x_icmp_eq B (pc := 702) 707 dL_law_702 (by decide) (fun h702 => ?_) (fun h702 => absurd (by decide) h702)
      refine x_iload B (pc := 707) 1 dL_law_707 rfl ?_
      refine x_if_ne B (pc := 709) 724 dL_law_709 (by decide) (fun h709 => absurd (by decide) h709) (fun h709 => ?_)
      refine x_aload_n B (pc := 712) 3 dL_law_712 rfl rfl ?_
      refine x_iconst B (pc := 713) 0 dL_law_713 (by decide) ?_
      refine x_val B (y := nI 0) rfl ?_
      refine x_laldN B (pc := 714) 0 13 0 (by decide) (by decide) rfl rfl dL_law_714 ?_
      refine x_iload B (pc := 715) 0 dL_law_715 rfl ?_
      refine x_i2l B (pc := 717) dL_law_717 ?_
      refine x_lcmp B (pc := 718) dL_law_718 ?_
      refine x_val B (y := 0) out_cmp ?_
      refine x_if_eq B (pc := 719) 724 dL_law_719 (by decide) (fun h719 => ?_) (fun h719 => absurd (by decide) h719)
      refine x_goto B (pc := 724) 1137 dL_law_724 (by decide) ?_
      refine x_lv B [2, 3, 4, 5, 6] [(4, .int (nI i)), (3, .ref oa), (2, .ref (am 0)), (1, .ref (ad 0)), (0, .ref b)] rfl ?_
      refine x_wid B (k + 4) (n + 300) (by omega) (by omega) ?_
      exact K da hs ht gf gb om L S N qf qb up op tr tq tf tt bf bt tg bg td 0 (vp_updL f 0 ((S 8 (ix (xs (i + 1)))).toInt64)) ⟨aInv_more (hI) (by omega), ⟨hok, hot, hq, hqb⟩, ⟨hmf, hmb, htd⟩, (by omega), (by omega)⟩
    · exact absurd hc hc2
  · show G 682 [(4, .int (nI i)), (3, .ref oa), (2, .ref (am 0)), (1, .ref (ad 0)), (0, .ref b)] [.int (nI (cod (xinD N (xs (i + 1))) true true))] [xoW ad up op tr, lkW D ad L, alW D e0 (ad 2) hs N, rwW D (ad 3) (ad 10) (ad 11) (ad 12) gf qf.length, rwW D (ad 4) (ad 13) (ad 14) (ad 15) gb qb.length, alW D e0 (ad 5) ht tq.length, dvW da N S om, moW am N tf tt bf bt up op tr tq.length th, mlW D am L, mdW D am S, rtW D am tg, rbW D am bg, tdW D am td, [(oa, .inl (D.1 12, 1, .inr (.inl f)))]] (k + 1) (n + 6)
    refine x_istore B (pc := 682) [(5, .int (nI (cod (xinD N (xs (i + 1))) true true))), (4, .int (nI i)), (3, .ref oa), (2, .ref (am 0)), (1, .ref (ad 0)), (0, .ref b)] dL_law_682 (by decide) rfl ?_
    refine x_aload_n B (pc := 684) 3 dL_law_684 rfl rfl ?_
    refine x_aload_n B (pc := 685) 5 dL_law_685 rfl rfl ?_
    refine x_iload B (pc := 686) 1 dL_law_686 rfl ?_
    refine x_iconst B (pc := 688) 1 dL_law_688 (by decide) ?_
    refine x_iadd B (pc := 689) dL_law_689 ?_
    refine x_val B (y := nI (i + 1)) (nI_add i 1) ?_
    refine x_sldN B0 (pc := 690) (d := (i + 1)) (by omega) (by omega) dL_law_690 ?_
    refine x_callV B (pc := 691) (As := [.int (xs (i + 1))]) (c_X4_heard hl D e0 hN) xcl_M rfl 0 0 rfl rfl tm814 tm815 tm816 tm7 tm817 md_X4_heard ⟨Nat.le_of_ble_eq_true rfl, Nat.le_of_ble_eq_true rfl⟩ [7, 9] rfl rfl rfl (Nat.le_of_ble_eq_true rfl) (by show k + 1 ≤ (601024 : Nat); omega) (by show n + 6 ≤ (7293034 : Nat); omega) dL_law_691 (fun E hE => False.elim hE) (fun v cs1 hp => ?_)
    rcases hp with ⟨hc2, hz2⟩ | ⟨hc2, ⟨z9, rfl⟩, rfl⟩
    · exact absurd hc2 hc
    · show G 694 [(5, .int (nI (cod (xinD N (xs (i + 1))) true true))), (4, .int (nI i)), (3, .ref oa), (2, .ref (am 0)), (1, .ref (ad 0)), (0, .ref b)] [.int z9] [xoW ad up op tr, lkW D ad L, alW D e0 (ad 2) hs N, rwW D (ad 3) (ad 10) (ad 11) (ad 12) gf qf.length, rwW D (ad 4) (ad 13) (ad 14) (ad 15) gb qb.length, alW D e0 (ad 5) ht tq.length, dvW da N S om, moW am N tf tt bf bt up op tr tq.length (nI (cod (xinD N (xs (i + 1))) true true)), mlW D am L, mdW D am S, rtW D am tg, rbW D am bg, tdW D am td, [(oa, .inl (D.1 12, 1, .inr (.inl f)))]] (k + 1) (n + 6)
      refine x_istore B (pc := 694) [(6, .int z9), (5, .int (nI (cod (xinD N (xs (i + 1))) true true))), (4, .int (nI i)), (3, .ref oa), (2, .ref (am 0)), (1, .ref (ad 0)), (0, .ref b)] dL_law_694 (by decide) rfl ?_
      refine x_aload_n B (pc := 696) 4 dL_law_696 rfl rfl ?_
      refine x_callV B (pc := 697) (As := []) (c_X4_thrown hl D e0 ) xcl_M rfl 0 0 rfl rfl tm716 tm717 tm718 tm7 tm719 md_X4_thrown ⟨Nat.le_of_ble_eq_true rfl, Nat.le_of_ble_eq_true rfl⟩ [7] rfl rfl rfl (Nat.le_of_ble_eq_true rfl) (by show k + 1 ≤ (601024 : Nat); omega) (by show n + 6 ≤ (7293034 : Nat); omega) dL_law_697 (fun E hE => False.elim hE) (fun v cs1 hp => ?_)
      obtain ⟨rfl, rfl⟩ := hp
      show G 700 [(6, .int z9), (5, .int (nI (cod (xinD N (xs (i + 1))) true true))), (4, .int (nI i)), (3, .ref oa), (2, .ref (am 0)), (1, .ref (ad 0)), (0, .ref b)] [.int (nI (cod (xinD N (xs (i + 1))) true true))] [xoW ad up op tr, lkW D ad L, alW D e0 (ad 2) hs N, rwW D (ad 3) (ad 10) (ad 11) (ad 12) gf qf.length, rwW D (ad 4) (ad 13) (ad 14) (ad 15) gb qb.length, alW D e0 (ad 5) ht tq.length, dvW da N S om, moW am N tf tt bf bt up op tr tq.length (nI (cod (xinD N (xs (i + 1))) true true)), mlW D am L, mdW D am S, rtW D am tg, rbW D am bg, tdW D am td, [(oa, .inl (D.1 12, 1, .inr (.inl f)))]] (k + 1) (n + 6)
      refine x_iload B (pc := 700) 1 dL_law_700 rfl ?_
      refine x_icmp_eq B (pc := 702) 707 dL_law_702 (by decide) (fun h702 => ?_) (fun h702 => absurd rfl h702)
      refine x_iload B (pc := 707) 1 dL_law_707 rfl ?_
      refine x_if_ne B (pc := 709) 724 dL_law_709 (by decide) (fun h709 => ?_) (fun h709 => absurd h709 (cod_nz hc))
      refine x_goto B (pc := 724) 1137 dL_law_724 (by decide) ?_
      refine x_lv B [2, 3, 4, 5, 6] [(4, .int (nI i)), (3, .ref oa), (2, .ref (am 0)), (1, .ref (ad 0)), (0, .ref b)] rfl ?_
      refine x_wid B (k + 4) (n + 300) (by omega) (by omega) ?_
      exact K da hs ht gf gb om L S N qf qb up op tr tq tf tt bf bt tg bg td (nI (cod (xinD N (xs (i + 1))) true true)) f ⟨aInv_more (hI) (by omega), ⟨hok, hot, hq, hqb⟩, ⟨hmf, hmb, htd⟩, (by omega), (by omega)⟩

set_option maxRecDepth 100000 in
set_option maxHeartbeats 4000000 in
/-- the call forReceiver -/
theorem st_forReceiver {l : Launch} (hl : l.stackTraces = false) (D : va_G) (e0 : Nat) {b Ls : Nat} {xs : Nat → Int32} {G : xGt} {X : xXt} (B0 : xL l D e0 b Ls xs G X) {ad am : Nat → Nat} {oa i t k n : Nat} (hi : i + 3 ≤ Ls) (hLs : Ls ≤ 1536) (ht9 : t < 512) (hk : k ≤ 4000) (hn : n ≤ 300000) (K : lTo G D e0 ad am oa b i (t + 1) (k + 4) (n + 300) 1137) : lTo G D e0 ad am oa b i t k n 727 := by
  intro da hs ht gf gb om L S N qf qb up op tr tq tf tt bf bt tg bg td th f hg
  obtain ⟨hI, ⟨hok, hot, hq, hqb⟩, ⟨hmf, hmb, htd⟩, htt, hbt⟩ := hg
  obtain ⟨hup, hop, hL, hN, hS, hF, hB, hPhi, hlen, hdn⟩ := id hI
  have hT := tq_len hI
  have hin := tq_in hS
  have hin60 : ∀ i, i < tq.length → tq.getD i 0 < 60 := fun i h => Nat.lt_of_lt_of_le (hin i h) hN
  have hl4 : ∀ d, d < N → ∃ j, j < 4 ∧ S 4 d = nI j := fun d hd => (hS.2.1 d hd).1
  have h69 : ∀ d, d < N → ∃ m, m ≤ 4 ∧ S 6 d = nI m := fun d hd => (hS.2.1 d hd).2.1
  have h79 : ∀ d, d < N → S 7 d = 0 ∨ S 7 d = 1 := fun d hd => (hS.2.1 d hd).2.2.1
  have h99 : ∀ d, d < N → S 9 d = 0 ∨ S 9 d = 1 ∨ S 9 d = 2 ∨ S 9 d = 3 ∨ S 9 d = 4 := fun d hd => (hS.2.1 d hd).2.2.2.1
  have hfe := hmf.1
  have hbe := hmb.1
  obtain ⟨hh, B⟩ := B0.base
  show G 727 [(4, .int (nI i)), (3, .ref oa), (2, .ref (am 0)), (1, .ref (ad 0)), (0, .ref b)] [] [xoW ad up op tr, lkW D ad L, alW D e0 (ad 2) hs N, rwW D (ad 3) (ad 10) (ad 11) (ad 12) gf qf.length, rwW D (ad 4) (ad 13) (ad 14) (ad 15) gb qb.length, alW D e0 (ad 5) ht tq.length, dvW da N S om, moW am N tf tt bf bt up op tr tq.length th, mlW D am L, mdW D am S, rtW D am tg, rbW D am bg, tdW D am td, [(oa, .inl (D.1 12, 1, .inr (.inl f)))]] k n
  refine x_aload_n B (pc := 727) 3 dL_law_727 rfl rfl ?_
  refine x_aload_n B (pc := 728) 4 dL_law_728 rfl rfl ?_
  refine x_iload B (pc := 729) 0 dL_law_729 rfl ?_
  refine x_iconst B (pc := 731) 1 dL_law_731 (by decide) ?_
  refine x_iadd B (pc := 732) dL_law_732 ?_
  refine x_val B (y := nI (i + 1)) (nI_add i 1) ?_
  refine x_sldN B0 (pc := 733) (d := (i + 1)) (by omega) (by omega) dL_law_733 ?_
  refine x_aload_n B (pc := 734) 1 dL_law_734 rfl rfl ?_
  refine x_callSX B (pc := 735) (As := [.ref (ad 0), .int (xs (i + 1)), .ref oa]) (c_L_forReceiver hl D e0 hok hN) tm547 tm548 tm0 tm549 md_L_forReceiver ⟨Nat.le_of_ble_eq_true rfl, Nat.le_of_ble_eq_true rfl⟩ [0, 2, 6, 13] rfl rfl rfl (Nat.le_of_ble_eq_true rfl) (by show k + 1 ≤ (601024 : Nat); omega) (by show n + 6 ≤ (7293034 : Nat); omega) dL_law_735 (fun E hE => False.elim hE) (fun v cs1 hp => ?_)
  rcases hp with ⟨hc, rfl, rfl⟩ | ⟨hc, rfl, rfl⟩
  · show G 738 [(4, .int (nI i)), (3, .ref oa), (2, .ref (am 0)), (1, .ref (ad 0)), (0, .ref b)] [.int 0] [xoW ad up op tr, lkW D ad L, alW D e0 (ad 2) hs N, rwW D (ad 3) (ad 10) (ad 11) (ad 12) gf qf.length, rwW D (ad 4) (ad 13) (ad 14) (ad 15) gb qb.length, alW D e0 (ad 5) ht tq.length, dvW da N S om, moW am N tf tt bf bt up op tr tq.length th, mlW D am L, mdW D am S, rtW D am tg, rbW D am bg, tdW D am td, [(oa, .inl (D.1 12, 1, .inr (.inl (vp_updL f 0 ((S 9 (ix (xs (i + 1)))).toInt64)))))]] (k + 1) (n + 6)
    refine x_istore B (pc := 738) [(5, .int 0), (4, .int (nI i)), (3, .ref oa), (2, .ref (am 0)), (1, .ref (ad 0)), (0, .ref b)] dL_law_738 (by decide) rfl ?_
    refine x_aload_n B (pc := 740) 3 dL_law_740 rfl rfl ?_
    refine x_aload_n B (pc := 741) 5 dL_law_741 rfl rfl ?_
    refine x_iload B (pc := 742) 1 dL_law_742 rfl ?_
    refine x_iconst B (pc := 744) 1 dL_law_744 (by decide) ?_
    refine x_iadd B (pc := 745) dL_law_745 ?_
    refine x_val B (y := nI (i + 1)) (nI_add i 1) ?_
    refine x_sldN B0 (pc := 746) (d := (i + 1)) (by omega) (by omega) dL_law_746 ?_
    refine x_callV B (pc := 747) (As := [.int (xs (i + 1))]) (c_X4_forReceiver hl D e0 hN) xcl_M rfl 0 0 rfl rfl tm818 tm819 tm820 tm7 tm821 md_X4_forReceiver ⟨Nat.le_of_ble_eq_true rfl, Nat.le_of_ble_eq_true rfl⟩ [7, 9] rfl rfl rfl (Nat.le_of_ble_eq_true rfl) (by show k + 1 ≤ (601024 : Nat); omega) (by show n + 6 ≤ (7293034 : Nat); omega) dL_law_747 (fun E hE => False.elim hE) (fun v cs1 hp => ?_)
    rcases hp with ⟨hc2, rfl, rfl⟩ | ⟨hc2, hz2⟩
    · show G 750 [(5, .int 0), (4, .int (nI i)), (3, .ref oa), (2, .ref (am 0)), (1, .ref (ad 0)), (0, .ref b)] [.int (S 9 (ix (xs (i + 1))))] [xoW ad up op tr, lkW D ad L, alW D e0 (ad 2) hs N, rwW D (ad 3) (ad 10) (ad 11) (ad 12) gf qf.length, rwW D (ad 4) (ad 13) (ad 14) (ad 15) gb qb.length, alW D e0 (ad 5) ht tq.length, dvW da N S om, moW am N tf tt bf bt up op tr tq.length 0, mlW D am L, mdW D am S, rtW D am tg, rbW D am bg, tdW D am td, [(oa, .inl (D.1 12, 1, .inr (.inl (vp_updL f 0 ((S 9 (ix (xs (i + 1)))).toInt64)))))]] (k + 1) (n + 6)
      refine x_istore B (pc := 750) [(6, .int (S 9 (ix (xs (i + 1))))), (5, .int 0), (4, .int (nI i)), (3, .ref oa), (2, .ref (am 0)), (1, .ref (ad 0)), (0, .ref b)] dL_law_750 (by decide) rfl ?_
      refine x_aload_n B (pc := 752) 4 dL_law_752 rfl rfl ?_
      refine x_callV B (pc := 753) (As := []) (c_X4_thrown hl D e0 ) xcl_M rfl 0 0 rfl rfl tm716 tm717 tm718 tm7 tm719 md_X4_thrown ⟨Nat.le_of_ble_eq_true rfl, Nat.le_of_ble_eq_true rfl⟩ [7] rfl rfl rfl (Nat.le_of_ble_eq_true rfl) (by show k + 1 ≤ (601024 : Nat); omega) (by show n + 6 ≤ (7293034 : Nat); omega) dL_law_753 (fun E hE => False.elim hE) (fun v cs1 hp => ?_)
      obtain ⟨rfl, rfl⟩ := hp
      show G 756 [(6, .int (S 9 (ix (xs (i + 1))))), (5, .int 0), (4, .int (nI i)), (3, .ref oa), (2, .ref (am 0)), (1, .ref (ad 0)), (0, .ref b)] [.int 0] [xoW ad up op tr, lkW D ad L, alW D e0 (ad 2) hs N, rwW D (ad 3) (ad 10) (ad 11) (ad 12) gf qf.length, rwW D (ad 4) (ad 13) (ad 14) (ad 15) gb qb.length, alW D e0 (ad 5) ht tq.length, dvW da N S om, moW am N tf tt bf bt up op tr tq.length 0, mlW D am L, mdW D am S, rtW D am tg, rbW D am bg, tdW D am td, [(oa, .inl (D.1 12, 1, .inr (.inl (vp_updL f 0 ((S 9 (ix (xs (i + 1)))).toInt64)))))]] (k + 1) (n + 6)
      refine x_iload B (pc := 756) 1 dL_law_756 rfl ?_
      refine x_icmp_eq B (pc := 758) 763 dL_law_758 (by decide) (fun h758 => ?_) (fun h758 => absurd (by decide) h758)
      refine x_iload B (pc := 763) 1 dL_law_763 rfl ?_
      refine x_if_ne B (pc := 765) 780 dL_law_765 (by decide) (fun h765 => absurd (by decide) h765) (fun h765 => ?_)
      refine x_aload_n B (pc := 768) 3 dL_law_768 rfl rfl ?_
      refine x_iconst B (pc := 769) 0 dL_law_769 (by decide) ?_
      refine x_val B (y := nI 0) rfl ?_
      refine x_laldN B (pc := 770) 0 13 0 (by decide) (by decide) rfl rfl dL_law_770 ?_
      refine x_iload B (pc := 771) 0 dL_law_771 rfl ?_
      refine x_i2l B (pc := 773) dL_law_773 ?_
      refine x_lcmp B (pc := 774) dL_law_774 ?_
      refine x_val B (y := 0) out_cmp ?_
      refine x_if_eq B (pc := 775) 780 dL_law_775 (by decide) (fun h775 => ?_) (fun h775 => absurd (by decide) h775)
      refine x_goto B (pc := 780) 1137 dL_law_780 (by decide) ?_
      refine x_lv B [2, 3, 4, 5, 6] [(4, .int (nI i)), (3, .ref oa), (2, .ref (am 0)), (1, .ref (ad 0)), (0, .ref b)] rfl ?_
      refine x_wid B (k + 4) (n + 300) (by omega) (by omega) ?_
      exact K da hs ht gf gb om L S N qf qb up op tr tq tf tt bf bt tg bg td 0 (vp_updL f 0 ((S 9 (ix (xs (i + 1)))).toInt64)) ⟨aInv_more (hI) (by omega), ⟨hok, hot, hq, hqb⟩, ⟨hmf, hmb, htd⟩, (by omega), (by omega)⟩
    · exact absurd hc hc2
  · show G 738 [(4, .int (nI i)), (3, .ref oa), (2, .ref (am 0)), (1, .ref (ad 0)), (0, .ref b)] [.int (nI (cod (xinD N (xs (i + 1))) true true))] [xoW ad up op tr, lkW D ad L, alW D e0 (ad 2) hs N, rwW D (ad 3) (ad 10) (ad 11) (ad 12) gf qf.length, rwW D (ad 4) (ad 13) (ad 14) (ad 15) gb qb.length, alW D e0 (ad 5) ht tq.length, dvW da N S om, moW am N tf tt bf bt up op tr tq.length th, mlW D am L, mdW D am S, rtW D am tg, rbW D am bg, tdW D am td, [(oa, .inl (D.1 12, 1, .inr (.inl f)))]] (k + 1) (n + 6)
    refine x_istore B (pc := 738) [(5, .int (nI (cod (xinD N (xs (i + 1))) true true))), (4, .int (nI i)), (3, .ref oa), (2, .ref (am 0)), (1, .ref (ad 0)), (0, .ref b)] dL_law_738 (by decide) rfl ?_
    refine x_aload_n B (pc := 740) 3 dL_law_740 rfl rfl ?_
    refine x_aload_n B (pc := 741) 5 dL_law_741 rfl rfl ?_
    refine x_iload B (pc := 742) 1 dL_law_742 rfl ?_
    refine x_iconst B (pc := 744) 1 dL_law_744 (by decide) ?_
    refine x_iadd B (pc := 745) dL_law_745 ?_
    refine x_val B (y := nI (i + 1)) (nI_add i 1) ?_
    refine x_sldN B0 (pc := 746) (d := (i + 1)) (by omega) (by omega) dL_law_746 ?_
    refine x_callV B (pc := 747) (As := [.int (xs (i + 1))]) (c_X4_forReceiver hl D e0 hN) xcl_M rfl 0 0 rfl rfl tm818 tm819 tm820 tm7 tm821 md_X4_forReceiver ⟨Nat.le_of_ble_eq_true rfl, Nat.le_of_ble_eq_true rfl⟩ [7, 9] rfl rfl rfl (Nat.le_of_ble_eq_true rfl) (by show k + 1 ≤ (601024 : Nat); omega) (by show n + 6 ≤ (7293034 : Nat); omega) dL_law_747 (fun E hE => False.elim hE) (fun v cs1 hp => ?_)
    rcases hp with ⟨hc2, hz2⟩ | ⟨hc2, ⟨z9, rfl⟩, rfl⟩
    · exact absurd hc2 hc
    · show G 750 [(5, .int (nI (cod (xinD N (xs (i + 1))) true true))), (4, .int (nI i)), (3, .ref oa), (2, .ref (am 0)), (1, .ref (ad 0)), (0, .ref b)] [.int z9] [xoW ad up op tr, lkW D ad L, alW D e0 (ad 2) hs N, rwW D (ad 3) (ad 10) (ad 11) (ad 12) gf qf.length, rwW D (ad 4) (ad 13) (ad 14) (ad 15) gb qb.length, alW D e0 (ad 5) ht tq.length, dvW da N S om, moW am N tf tt bf bt up op tr tq.length (nI (cod (xinD N (xs (i + 1))) true true)), mlW D am L, mdW D am S, rtW D am tg, rbW D am bg, tdW D am td, [(oa, .inl (D.1 12, 1, .inr (.inl f)))]] (k + 1) (n + 6)
      refine x_istore B (pc := 750) [(6, .int z9), (5, .int (nI (cod (xinD N (xs (i + 1))) true true))), (4, .int (nI i)), (3, .ref oa), (2, .ref (am 0)), (1, .ref (ad 0)), (0, .ref b)] dL_law_750 (by decide) rfl ?_
      refine x_aload_n B (pc := 752) 4 dL_law_752 rfl rfl ?_
      refine x_callV B (pc := 753) (As := []) (c_X4_thrown hl D e0 ) xcl_M rfl 0 0 rfl rfl tm716 tm717 tm718 tm7 tm719 md_X4_thrown ⟨Nat.le_of_ble_eq_true rfl, Nat.le_of_ble_eq_true rfl⟩ [7] rfl rfl rfl (Nat.le_of_ble_eq_true rfl) (by show k + 1 ≤ (601024 : Nat); omega) (by show n + 6 ≤ (7293034 : Nat); omega) dL_law_753 (fun E hE => False.elim hE) (fun v cs1 hp => ?_)
      obtain ⟨rfl, rfl⟩ := hp
      show G 756 [(6, .int z9), (5, .int (nI (cod (xinD N (xs (i + 1))) true true))), (4, .int (nI i)), (3, .ref oa), (2, .ref (am 0)), (1, .ref (ad 0)), (0, .ref b)] [.int (nI (cod (xinD N (xs (i + 1))) true true))] [xoW ad up op tr, lkW D ad L, alW D e0 (ad 2) hs N, rwW D (ad 3) (ad 10) (ad 11) (ad 12) gf qf.length, rwW D (ad 4) (ad 13) (ad 14) (ad 15) gb qb.length, alW D e0 (ad 5) ht tq.length, dvW da N S om, moW am N tf tt bf bt up op tr tq.length (nI (cod (xinD N (xs (i + 1))) true true)), mlW D am L, mdW D am S, rtW D am tg, rbW D am bg, tdW D am td, [(oa, .inl (D.1 12, 1, .inr (.inl f)))]] (k + 1) (n + 6)
      refine x_iload B (pc := 756) 1 dL_law_756 rfl ?_
      refine x_icmp_eq B (pc := 758) 763 dL_law_758 (by decide) (fun h758 => ?_) (fun h758 => absurd rfl h758)
      refine x_iload B (pc := 763) 1 dL_law_763 rfl ?_
      refine x_if_ne B (pc := 765) 780 dL_law_765 (by decide) (fun h765 => ?_) (fun h765 => absurd h765 (cod_nz hc))
      refine x_goto B (pc := 780) 1137 dL_law_780 (by decide) ?_
      refine x_lv B [2, 3, 4, 5, 6] [(4, .int (nI i)), (3, .ref oa), (2, .ref (am 0)), (1, .ref (ad 0)), (0, .ref b)] rfl ?_
      refine x_wid B (k + 4) (n + 300) (by omega) (by omega) ?_
      exact K da hs ht gf gb om L S N qf qb up op tr tq tf tt bf bt tg bg td (nI (cod (xinD N (xs (i + 1))) true true)) f ⟨aInv_more (hI) (by omega), ⟨hok, hot, hq, hqb⟩, ⟨hmf, hmb, htd⟩, (by omega), (by omega)⟩
