theorem gOk_more {da : Nat → Nat} {hs ht : xAg} {gf gb : xRg} {om : Nat → Int32} {L S : xS} {N : Nat} {qf qb : List xFr} {up op : Int32} {tq : List Nat} {tf tt bf bt : Nat} {tg bg td : Nat → Int32} {t : Nat} (h : gOk da hs ht gf gb om L S N qf qb up op tq tf tt bf bt tg bg td t) : gOk da hs ht gf gb om L S N qf qb up op tq tf tt bf bt tg bg td (t + 1) :=
  ⟨aInv_more h.1 (Nat.le_succ t), h.2.1, h.2.2.1, Nat.le_trans h.2.2.2.1 (by omega), Nat.le_trans h.2.2.2.2 (by omega)⟩
set_option maxRecDepth 100000 in
set_option maxHeartbeats 4000000 in
/-- the law's loop -/
theorem law_loop {l : Launch} (hl : l.stackTraces = false) (D : va_G) (e0 : Nat) {b Ls : Nat} {xs : Nat → Int32} {G : xGt} {X : xXt} (B0 : xL l D e0 b Ls xs G X) (hLs : Ls ≤ 1536) {ad am : Nat → Nat} {oa : Nat} : ∀ (fu t k n : Nat), 513 ≤ t + fu → t ≤ 512 → k ≤ 100 + 4 * t → n ≤ 10000 + 300 * t → lTo G D e0 ad am oa b (3 * t) t k n 23 := by
  obtain ⟨hh, B⟩ := B0.base
  intro fu
  induction fu with
  | zero =>
    intro t k n h1 h2
    omega
  | succ fu ih =>
    intro t k n h1 h2 h3 h4
    intro da hs ht gf gb om L S N qf qb up op tr tq tf tt bf bt tg bg td th f hg
    show G 23 [(4, .int (nI (3 * t))), (3, .ref oa), (2, .ref (am 0)), (1, .ref (ad 0)), (0, .ref b)] [] [xoW ad up op tr, lkW D ad L, alW D e0 (ad 2) hs N, rwW D (ad 3) (ad 10) (ad 11) (ad 12) gf qf.length, rwW D (ad 4) (ad 13) (ad 14) (ad 15) gb qb.length, alW D e0 (ad 5) ht tq.length, dvW da N S om, moW am N tf tt bf bt up op tr tq.length th, mlW D am L, mdW D am S, rtW D am tg, rbW D am bg, tdW D am td, [(oa, .inl (D.1 12, 1, .inr (.inl f)))]] k n
    refine x_iload B (pc := 23) 0 dL_law_23 rfl ?_
    refine x_aload_n B (pc := 25) 4 dL_law_25 rfl rfl ?_
    refine x_slen B0 (pc := 26) dL_law_26 ?_
    refine x_iconst B (pc := 27) 3 dL_law_27 (by decide) ?_
    refine x_isub B (pc := 28) dL_law_28 ?_
    refine x_icmp_gt B (pc := 29) 1143 dL_law_29 (by decide) (fun h29 => ?_) (fun h29 => ?_)
    · skip
      refine x_iconst B (pc := 1143) 1 dL_law_1143 (by decide) ?_
      exact x_lawend B0 (pc := 1144) dL_law_1144 (by omega) (by omega)
    · skip
      have hlt : 3 * t + 3 ≤ Ls := by
        refine Nat.le_of_not_lt (fun e => h29 ?_)
        apply Int32.lt_iff_toInt_lt.mpr
        have e1 := pk_sub_toInt (a := Ls) (b := 3) (by omega) (by decide)
        have e2 : (nI Ls - 3).toInt = (Ls : Int) - ((3 : Nat) : Int) := e1
        rw [e2, nI_toInt (by omega)]
        omega
      have ht9 : t < 512 := by omega
      have hk9 : k ≤ 4000 := by omega
      have hn9 : n ≤ 300000 := by omega
      have K : lTo G D e0 ad am oa b (3 * t) (t + 1) (k + 4) (n + 300) 1137 := by
        intro da hs ht gf gb om L S N qf qb up op tr tq tf tt bf bt tg bg td th f hg2
        show G 1137 [(4, .int (nI (3 * t))), (3, .ref oa), (2, .ref (am 0)), (1, .ref (ad 0)), (0, .ref b)] [] [xoW ad up op tr, lkW D ad L, alW D e0 (ad 2) hs N, rwW D (ad 3) (ad 10) (ad 11) (ad 12) gf qf.length, rwW D (ad 4) (ad 13) (ad 14) (ad 15) gb qb.length, alW D e0 (ad 5) ht tq.length, dvW da N S om, moW am N tf tt bf bt up op tr tq.length th, mlW D am L, mdW D am S, rtW D am tg, rbW D am bg, tdW D am td, [(oa, .inl (D.1 12, 1, .inr (.inl f)))]] (k + 4) (n + 300)
        refine x_iinc B (pc := 1137) 0 (nI (3 * (t + 1))) [(4, .int (nI (3 * (t + 1)))), (3, .ref oa), (2, .ref (am 0)), (1, .ref (ad 0)), (0, .ref b)] dL_law_1137 rfl (nI_add (3 * t) 3) (by decide) rfl ?_
        refine x_goto B (pc := 1140) 23 dL_law_1140 (by decide) ?_
        exact ih (t + 1) (k + 4) (n + 300) (by omega) (by omega) (by omega) (by omega) da hs ht gf gb om L S N qf qb up op tr tq tf tt bf bt tg bg td th f hg2
      obtain ⟨v, hv, ev⟩ := pk_andE (xs (3 * t)) (m := 31) 5 (by decide)
      refine x_aload_n B (pc := 32) 4 dL_law_32 rfl rfl ?_
      refine x_iload B (pc := 33) 0 dL_law_33 rfl ?_
      refine x_sldN B0 (pc := 35) (d := (3 * t)) (by omega) (by omega) dL_law_35 ?_
      refine x_bipush B (pc := 36) 31 dL_law_36 (by decide) ?_
      refine x_iand B (pc := 38) dL_law_38 ?_
      refine x_val B (y := nI v) ev ?_
      by_cases hv21 : v < 21
      · rcases (show v = 0 ∨ v = 1 ∨ v = 2 ∨ v = 3 ∨ v = 4 ∨ v = 5 ∨ v = 6 ∨ v = 7 ∨ v = 8 ∨ v = 9 ∨ v = 10 ∨ v = 11 ∨ v = 12 ∨ v = 13 ∨ v = 14 ∨ v = 15 ∨ v = 16 ∨ v = 17 ∨ v = 18 ∨ v = 19 ∨ v = 20 by omega) with rfl | rfl | rfl | rfl | rfl | rfl | rfl | rfl | rfl | rfl | rfl | rfl | rfl | rfl | rfl | rfl | rfl | rfl | rfl | rfl | rfl
        · exact x_tabIn B (pc := 39) (off := 97) 136 dL_law_39 (by decide) (by decide) rfl (by decide) (by have h9 := st_setMode hl D e0 B0 hlt hLs ht9 hk9 hn9 K da hs ht gf gb om L S N qf qb up op tr tq tf tt bf bt tg bg td th f hg; exact h9)
        · exact x_tabIn B (pc := 39) (off := 165) 204 dL_law_39 (by decide) (by decide) rfl (by decide) (by have h9 := st_grant hl D e0 B0 hlt hLs ht9 hk9 hn9 K da hs ht gf gb om L S N qf qb up op tr tq tf tt bf bt tg bg td th f hg; exact h9)
        · exact x_tabIn B (pc := 39) (off := 233) 272 dL_law_39 (by decide) (by decide) rfl (by decide) (by have h9 := st_credit hl D e0 B0 hlt hLs ht9 hk9 hn9 K da hs ht gf gb om L S N qf qb up op tr tq tf tt bf bt tg bg td th f hg; exact h9)
        · exact x_tabIn B (pc := 39) (off := 289) 328 dL_law_39 (by decide) (by decide) rfl (by decide) (by have h9 := st_send hl D e0 B0 hlt hLs ht9 hk9 hn9 K da hs ht gf gb om L S N qf qb up op tr tq tf tt bf bt tg bg td th f hg; exact h9)
        · exact x_tabIn B (pc := 39) (off := 357) 396 dL_law_39 (by decide) (by decide) rfl (by decide) (by have h9 := st_toReceiver hl D e0 B0 hlt hLs ht9 hk9 hn9 K da hs ht gf gb om L S N qf qb up op tr tq tf tt bf bt tg bg td th f hg; exact h9)
        · exact x_tabIn B (pc := 39) (off := 413) 452 dL_law_39 (by decide) (by decide) rfl (by decide) (by have h9 := st_toSender hl D e0 B0 hlt hLs ht9 hk9 hn9 K da hs ht gf gb om L S N qf qb up op tr tq tf tt bf bt tg bg td th f hg; exact h9)
        · exact x_tabIn B (pc := 39) (off := 469) 508 dL_law_39 (by decide) (by decide) rfl (by decide) (by have h9 := st_decide hl D e0 B0 hlt hLs ht9 hk9 hn9 K da hs ht gf gb om L S N qf qb up op tr tq tf tt bf bt tg bg td th f hg; exact h9)
        · exact x_tabIn B (pc := 39) (off := 537) 576 dL_law_39 (by decide) (by decide) rfl (by decide) (by have h9 := st_deliveries hl D e0 B0 hlt hLs ht9 hk9 hn9 K da hs ht gf gb om L S N qf qb up op tr tq tf tt bf bt tg bg td th f hg; exact h9)
        · exact x_tabIn B (pc := 39) (off := 550) 589 dL_law_39 (by decide) (by decide) rfl (by decide) (by have h9 := st_underWay hl D e0 B0 hlt hLs ht9 hk9 hn9 K da hs ht gf gb om L S N qf qb up op tr tq tf tt bf bt tg bg td th f hg; exact h9)
        · exact x_tabIn B (pc := 39) (off := 563) 602 dL_law_39 (by decide) (by decide) rfl (by decide) (by have h9 := st_backUnderWay hl D e0 B0 hlt hLs ht9 hk9 hn9 K da hs ht gf gb om L S N qf qb up op tr tq tf tt bf bt tg bg td th f hg; exact h9)
        · exact x_tabIn B (pc := 39) (off := 576) 615 dL_law_39 (by decide) (by decide) rfl (by decide) (by have h9 := st_forSender hl D e0 B0 hlt hLs ht9 hk9 hn9 K da hs ht gf gb om L S N qf qb up op tr tq tf tt bf bt tg bg td th f hg; exact h9)
        · exact x_tabIn B (pc := 39) (off := 632) 671 dL_law_39 (by decide) (by decide) rfl (by decide) (by have h9 := st_heard hl D e0 B0 hlt hLs ht9 hk9 hn9 K da hs ht gf gb om L S N qf qb up op tr tq tf tt bf bt tg bg td th f hg; exact h9)
        · exact x_tabIn B (pc := 39) (off := 688) 727 dL_law_39 (by decide) (by decide) rfl (by decide) (by have h9 := st_forReceiver hl D e0 B0 hlt hLs ht9 hk9 hn9 K da hs ht gf gb om L S N qf qb up op tr tq tf tt bf bt tg bg td th f hg; exact h9)
        · exact x_tabIn B (pc := 39) (off := 744) 783 dL_law_39 (by decide) (by decide) rfl (by decide) (by have h9 := st_effects hl D e0 B0 hlt hLs ht9 hk9 hn9 K da hs ht gf gb om L S N qf qb up op tr tq tf tt bf bt tg bg td th f hg; exact h9)
        · exact x_tabIn B (pc := 39) (off := 800) 839 dL_law_39 (by decide) (by decide) rfl (by decide) (by have h9 := st_breakOff hl D e0 B0 hlt hLs ht9 hk9 hn9 K da hs ht gf gb om L S N qf qb up op tr tq tf tt bf bt tg bg td th f hg; exact h9)
        · exact x_tabIn B (pc := 39) (off := 844) 883 dL_law_39 (by decide) (by decide) rfl (by decide) (by have h9 := st_join hl D e0 B0 hlt hLs ht9 hk9 hn9 K da hs ht gf gb om L S N qf qb up op tr tq tf tt bf bt tg bg td th f hg; exact h9)
        · exact x_tabIn B (pc := 39) (off := 888) 927 dL_law_39 (by decide) (by decide) rfl (by decide) (by have h9 := st_wouldResend hl D e0 B0 hlt hLs ht9 hk9 hn9 K da hs ht gf gb om L S N qf qb up op tr tq tf tt bf bt tg bg td th f hg; exact h9)
        · exact x_tabIn B (pc := 39) (off := 901) 940 dL_law_39 (by decide) (by decide) rfl (by decide) (by have h9 := st_isUp hl D e0 B0 hlt hLs ht9 hk9 hn9 K da hs ht gf gb om L S N qf qb up op tr tq tf tt bf bt tg bg td th f hg; exact h9)
        · exact x_tabIn B (pc := 39) (off := 914) 953 dL_law_39 (by decide) (by decide) rfl (by decide) (by have h9 := st_begin hl D e0 B0 hlt hLs ht9 hk9 hn9 K da hs ht gf gb om L S N qf qb up op tr tq tf tt bf bt tg bg td th f hg; exact h9)
        · exact x_tabIn B (pc := 39) (off := 958) 997 dL_law_39 (by decide) (by decide) rfl (by decide) (by have h9 := st_tell hl D e0 B0 hlt hLs ht9 hk9 hn9 K da hs ht gf gb om L S N qf qb up op tr tq tf tt bf bt tg bg td th f hg; exact h9)
        · exact x_tabIn B (pc := 39) (off := 1026) 1065 dL_law_39 (by decide) (by decide) rfl (by decide) (by have h9 := st_end hl D e0 B0 hlt hLs ht9 hk9 hn9 K da hs ht gf gb om L S N qf qb up op tr tq tf tt bf bt tg bg td th f hg; exact h9)
      · exact x_tabOut B (pc := 39) 1137 dL_law_39 (Or.inr (by rw [nI_toInt (by omega)]; omega)) (by decide) (x_wid B (k + 4) (n + 300) (by omega) (by omega) (K da hs ht gf gb om L S N qf qb up op tr tq tf tt bf bt tg bg td th f (gOk_more hg)))
set_option maxRecDepth 100000 in
set_option maxHeartbeats 4000000 in
/-- the law from its entry -/
theorem law_all {l : Launch} (hl : l.stackTraces = false) (D : va_G) (e0 : Nat) {b Ls : Nat} {xs : Nat → Int32} {G : xGt} {X : xXt} (B0 : xL l D e0 b Ls xs G X) (hLs : Ls ≤ 1536) : G 0 [(0, .ref b)] [] [] 0 0 := by
  obtain ⟨hh, B⟩ := B0.base
  refine x_new B (pc := 0) (fs := [.null, .null, .null, .null, .null, .int 0, .int 0, .int 0]) xcl_X tm21 tm22 tm1 (fun j hj => by rcases (show j = 0 ∨ j = 1 ∨ j = 2 ∨ j = 3 ∨ j = 4 ∨ j = 5 ∨ j = 6 ∨ j = 7 by omega) with rfl | rfl | rfl | rfl | rfl | rfl | rfl | rfl <;> rfl) (by show 1 ≤ (601024 : Nat); omega) (by show 8 ≤ (7293034 : Nat); omega) dL_law_0 (fun x0 => ?_)
  show G 3 [(0, .ref b)] [.ref x0] [[(x0, .inr (4, [.null, .null, .null, .null, .null, .int 0, .int 0, .int 0]))]] 1 8
  refine x_dup B (pc := 3) dL_law_3 rfl ?_
  refine x_callI B (pc := 4) (As := []) (c_X3_init hl D e0 ) rfl tm23 tm24 tm1 tm25 md_X3_init ⟨Nat.le_of_ble_eq_true rfl, Nat.le_of_ble_eq_true rfl⟩ [0] rfl rfl rfl (Nat.le_of_ble_eq_true rfl) (by show 16 ≤ (601024 : Nat); omega) (by show 3116 ≤ (7293034 : Nat); omega) dL_law_4 (fun E hE => False.elim hE) (fun v cs1 hp => ?_)
  obtain ⟨rfl, ad, had, rfl⟩ := hp
  show G 7 [(0, .ref b)] [.ref x0] [xoW ad 1 0 0, lkW D ad (fun _ _ => 0), alW D e0 (ad 2) (0, none) 0, rwW D (ad 3) (ad 10) (ad 11) (ad 12) xg0 0, rwW D (ad 4) (ad 13) (ad 14) (ad 15) xg0 0, alW D e0 (ad 5) (0, none) 0] 16 3116
  subst had
  refine x_astore_n B (pc := 7) [(1, .ref (ad 0)), (0, .ref b)] dL_law_7 rfl (by decide) rfl ?_
  refine x_new B (pc := 8) (fs := [.null, .null, .null, .null, .null, .null, .null, .null, .null, .null, .null, .null, .null, .null, .null, .int 0, .null, .int 0, .int 0, .null, .int 0, .int 0, .int 0, .int 0, .int 0, .null, .int 0, .int 0]) xcl_M tm624 tm625 tm7 (fun j hj => by rcases (show j = 0 ∨ j = 1 ∨ j = 2 ∨ j = 3 ∨ j = 4 ∨ j = 5 ∨ j = 6 ∨ j = 7 ∨ j = 8 ∨ j = 9 ∨ j = 10 ∨ j = 11 ∨ j = 12 ∨ j = 13 ∨ j = 14 ∨ j = 15 ∨ j = 16 ∨ j = 17 ∨ j = 18 ∨ j = 19 ∨ j = 20 ∨ j = 21 ∨ j = 22 ∨ j = 23 ∨ j = 24 ∨ j = 25 ∨ j = 26 ∨ j = 27 by omega) with rfl | rfl | rfl | rfl | rfl | rfl | rfl | rfl | rfl | rfl | rfl | rfl | rfl | rfl | rfl | rfl | rfl | rfl | rfl | rfl | rfl | rfl | rfl | rfl | rfl | rfl | rfl | rfl <;> rfl) (by show 17 ≤ (601024 : Nat); omega) (by show 3144 ≤ (7293034 : Nat); omega) dL_law_8 (fun y0 => ?_)
  show G 11 [(1, .ref (ad 0)), (0, .ref b)] [.ref y0] [xoW ad 1 0 0, lkW D ad (fun _ _ => 0), alW D e0 (ad 2) (0, none) 0, rwW D (ad 3) (ad 10) (ad 11) (ad 12) xg0 0, rwW D (ad 4) (ad 13) (ad 14) (ad 15) xg0 0, alW D e0 (ad 5) (0, none) 0, [(y0, .inr (5, [.null, .null, .null, .null, .null, .null, .null, .null, .null, .null, .null, .null, .null, .null, .null, .int 0, .null, .int 0, .int 0, .null, .int 0, .int 0, .int 0, .int 0, .int 0, .null, .int 0, .int 0]))]] 17 3144
  refine x_dup B (pc := 11) dL_law_11 rfl ?_
  refine x_callI B (pc := 12) (As := []) (c_X4_init hl D e0 ) rfl tm626 tm627 tm7 tm628 md_X4_init ⟨Nat.le_of_ble_eq_true rfl, Nat.le_of_ble_eq_true rfl⟩ [6] rfl rfl rfl (Nat.le_of_ble_eq_true rfl) (by show 35 ≤ (601024 : Nat); omega) (by show 7976 ≤ (7293034 : Nat); omega) dL_law_12 (fun E hE => False.elim hE) (fun v cs1 hp => ?_)
  obtain ⟨rfl, am, ham, rfl⟩ := hp
  show G 15 [(1, .ref (ad 0)), (0, .ref b)] [.ref y0] [xoW ad 1 0 0, lkW D ad (fun _ _ => 0), alW D e0 (ad 2) (0, none) 0, rwW D (ad 3) (ad 10) (ad 11) (ad 12) xg0 0, rwW D (ad 4) (ad 13) (ad 14) (ad 15) xg0 0, alW D e0 (ad 5) (0, none) 0, moW am 0 0 0 0 0 1 0 0 0 0, mlW D am (fun _ _ => 0), mdW D am (fun _ _ => 0), rtW D am (fun _ => 0), rbW D am (fun _ => 0), tdW D am (fun _ => 0)] 35 7976
  subst ham
  refine x_astore_n B (pc := 15) [(2, .ref (am 0)), (1, .ref (ad 0)), (0, .ref b)] dL_law_15 rfl (by decide) rfl ?_
  refine x_iconst B (pc := 16) 1 dL_law_16 (by decide) ?_
  refine x_val B (y := nI 1) rfl ?_
  refine x_newJ B (pc := 17) 1 tm862 (by decide) (by decide) (by decide) (by show 36 ≤ (601024 : Nat); omega) (by show 7977 ≤ (7293034 : Nat); omega) dL_law_17 (fun oa => ?_)
  show G 19 [(2, .ref (am 0)), (1, .ref (ad 0)), (0, .ref b)] [.ref oa] [xoW ad 1 0 0, lkW D ad (fun _ _ => 0), alW D e0 (ad 2) (0, none) 0, rwW D (ad 3) (ad 10) (ad 11) (ad 12) xg0 0, rwW D (ad 4) (ad 13) (ad 14) (ad 15) xg0 0, alW D e0 (ad 5) (0, none) 0, moW am 0 0 0 0 0 1 0 0 0 0, mlW D am (fun _ _ => 0), mdW D am (fun _ _ => 0), rtW D am (fun _ => 0), rbW D am (fun _ => 0), tdW D am (fun _ => 0), [(oa, .inl (D.1 12, 1, .inr (.inl (fun _ => 0))))]] 36 7977
  refine x_astore_n B (pc := 19) [(3, .ref oa), (2, .ref (am 0)), (1, .ref (ad 0)), (0, .ref b)] dL_law_19 rfl (by decide) rfl ?_
  refine x_iconst B (pc := 20) 0 dL_law_20 (by decide) ?_
  refine x_val B (y := nI 0) rfl ?_
  refine x_istore B (pc := 21) [(4, .int (nI 0)), (3, .ref oa), (2, .ref (am 0)), (1, .ref (ad 0)), (0, .ref b)] dL_law_21 (by decide) rfl ?_
  refine x_lv B [0, 1, 2, 3, 4] [(4, .int (nI 0)), (3, .ref oa), (2, .ref (am 0)), (1, .ref (ad 0)), (0, .ref b)] rfl ?_
  refine x_flat B (cs1 := [xoW ad 1 0 0, lkW D ad (fun _ _ => 0), alW D e0 (ad 2) (0, none) 0, rwW D (ad 3) (ad 10) (ad 11) (ad 12) xg0 0, rwW D (ad 4) (ad 13) (ad 14) (ad 15) xg0 0, alW D e0 (ad 5) (0, none) 0, dvW (fun _ => 0) 0 (fun _ _ => 0) (fun _ => 0), moW am 0 0 0 0 0 1 0 0 0 0, mlW D am (fun _ _ => 0), mdW D am (fun _ _ => 0), rtW D am (fun _ => 0), rbW D am (fun _ => 0), tdW D am (fun _ => 0), [(oa, .inl (D.1 12, 1, .inr (.inl (fun _ => 0))))]]) rfl ?_
  have hg : gOk (fun _ => 0) (0, none) (0, none) xg0 xg0 (fun _ => 0) (fun _ _ => 0) (fun _ _ => 0) 0 [] [] 1 0 [] 0 0 0 0 (fun _ => 0) (fun _ => 0) (fun _ => 0) 0 := by
    refine ⟨⟨Or.inr rfl, Or.inl rfl, fun k j _ _ _ => ⟨0, by decide, rfl⟩, Nat.zero_le _, ⟨fun d => Or.inl rfl, fun d hd => absurd hd (Nat.not_lt_zero d), fun d _ => ⟨rfl, rfl, rfl, rfl⟩, List.nodup_nil, (fun d hd => nomatch hd)⟩, (fun y hy => nomatch hy), (fun y hy => nomatch hy), Nat.le_refl _, Nat.le_refl _, fun e => absurd e (by decide)⟩, ⟨rfl, rfl, rw_nil xg0, rw_nil xg0⟩, ⟨mg_nil, mg_nil, fun i hi => absurd hi (Nat.not_lt_zero i)⟩, Nat.le_refl _, Nat.le_refl _⟩
  exact law_loop hl D e0 B0 hLs 513 0 36 7977 (by omega) (by omega) (by omega) (by omega) _ _ _ _ _ _ _ _ _ _ _ _ _ _ _ _ _ _ _ _ _ _ _ _ hg
