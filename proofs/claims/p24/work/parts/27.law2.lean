/-! the law, step by step -/
set_option maxRecDepth 100000 in
set_option maxHeartbeats 4000000 in
/-- the call toSender -/
theorem st_toSender {l : Launch} (hl : l.stackTraces = false) (D : va_G) (e0 : Nat) {b Ls : Nat} {xs : Nat → Int32} {G : xGt} {X : xXt} (B0 : xL l D e0 b Ls xs G X) {ad bd : Nat → Nat} {i j mo v t k n : Nat} {a9 : Int32} (hj : j < 4) (hmo : mo < 4) (ht9 : t < 400) (hk : k ≤ 8000) (hn : n ≤ 300000) (K : lTo G D e0 ad bd mo (t + 1) (k + 4) (n + 424) 425 [(11, .int a9), (10, .int (nI ((j + mo) % 4))), (9, .int (nI j)), (5, .int (nI i)), (4, .int 1), (3, .int (nI mo)), (2, .ref (bd 0)), (1, .ref (ad 0)), (0, .ref b)]) : lTo G D e0 ad bd mo t k n 250 [(12, .int 1), (11, .int a9), (10, .int (nI ((j + mo) % 4))), (9, .int (nI j)), (8, .int (nI v)), (5, .int (nI i)), (4, .int 1), (3, .int (nI mo)), (2, .ref (bd 0)), (1, .ref (ad 0)), (0, .ref b)] := by
  intro da hs ht gf gb om L S qb db hs2 ht2 gf2 gb2 om2 L2 S2 qb2 N qf up op tr tq hg
  obtain ⟨hI, hI2, hR, ⟨hok, hot, hq, hqb⟩, ⟨hok2, hot2, hq2, hqb2⟩⟩ := id hg
  obtain ⟨hup, hop, hL, hN, hS, hF, hB, hPhi, hlen, hdn⟩ := id hI
  obtain ⟨-, -, hL2, -, hS2, -, hB2, hPhi2, hlen2, -⟩ := id hI2
  have hT := tq_len hI
  have hin := tq_in hS
  have hql2 := rl_len hR
  have hl4 : ∀ d, d < N → ∃ j, j < 4 ∧ S 4 d = nI j := fun d hd => (hS.2.1 d hd).1
  have hl42 : ∀ d, d < N → ∃ j, j < 4 ∧ S2 4 d = nI j := fun d hd => (hS2.2.1 d hd).1
  have h69 : ∀ d, d < N → ∃ m, m ≤ 4 ∧ S 6 d = nI m := fun d hd => (hS.2.1 d hd).2.1
  have h692 : ∀ d, d < N → ∃ m, m ≤ 4 ∧ S2 6 d = nI m := fun d hd => (hS2.2.1 d hd).2.1
  obtain ⟨hh, B, BS⟩ := B0.base
  show G 250 [(12, .int 1), (11, .int a9), (10, .int (nI ((j + mo) % 4))), (9, .int (nI j)), (8, .int (nI v)), (5, .int (nI i)), (4, .int 1), (3, .int (nI mo)), (2, .ref (bd 0)), (1, .ref (ad 0)), (0, .ref b)] [] [xoW ad up op tr, lkW D ad L, alW D e0 (ad 2) hs N, rwW D (ad 3) (ad 10) (ad 11) (ad 12) gf qf.length, rwW D (ad 4) (ad 13) (ad 14) (ad 15) gb qb.length, alW D e0 (ad 5) ht tq.length, dvW da N S om, xoW bd up op tr, lkW D bd L2, alW D e0 (bd 2) hs2 N, rwW D (bd 3) (bd 10) (bd 11) (bd 12) gf2 qf.length, rwW D (bd 4) (bd 13) (bd 14) (bd 15) gb2 qb2.length, alW D e0 (bd 5) ht2 tq.length, dvW db N S2 om2] k n
  obtain ⟨x9, hx9⟩ : ∃ x9 : Int32, x9 = 1 + (nI v - nI v / 8 * 8) := ⟨_, rfl⟩
  have hCe : cod (xinB 1 100 x9) true true = cod (xinB 1 100 x9) true true := rfl
  refine x_aload_n B (pc := 250) 9 dL_law_250 rfl rfl ?_
  refine x_iload B (pc := 251) 0 dL_law_251 rfl ?_
  refine x_iconst B (pc := 253) 1 dL_law_253 (by decide) ?_
  refine x_iload B (pc := 254) 4 dL_law_254 rfl ?_
  refine x_bipush B (pc := 256) 8 dL_law_256 (by decide) ?_
  refine x_irem B (pc := 258) dL_law_258 (by decide) ?_
  refine x_iadd B (pc := 259) dL_law_259 ?_
  refine x_val B (y := x9) hx9.symm ?_
  refine x_callSX B (pc := 260) (As := [.ref (ad 0), .int 1, .int x9]) (c_goes_toSender hl D e0 hok hN hq hqb (fun x hx => by rcases hB x hx with e | e; exact Or.inl ⟨e.1, e.2.1⟩; exact Or.inr ⟨e.1, e.2.1⟩) (by omega)) tm470 tm471 tm0 tm472 md_L_goes ⟨Nat.le_of_ble_eq_true rfl, Nat.le_of_ble_eq_true rfl⟩ [0, 1, 2, 3, 4, 6] rfl rfl rfl (Nat.le_of_ble_eq_true rfl) (by show k + 1 ≤ (619123 : Nat); omega) (by show n + 6 ≤ (7243813 : Nat); omega) dL_law_260 (fun E hE => False.elim hE) (fun v cs1 hp => ?_)
  rcases hp with ⟨hc, rfl, g1, g2, hf0, hf1, rfl⟩ | ⟨hc, rfl, rfl⟩
  · show G 263 [(12, .int 1), (11, .int a9), (10, .int (nI ((j + mo) % 4))), (9, .int (nI j)), (8, .int (nI v)), (5, .int (nI i)), (4, .int 1), (3, .int (nI mo)), (2, .ref (bd 0)), (1, .ref (ad 0)), (0, .ref b)] [.int ((sndN (ix x9) L S qf qb 0).2.2.2.2)] [xoW ad up op tr, lkW D ad ((sndN (ix x9) L S qf qb 0).1), alW D e0 (ad 2) hs N, rwW D (ad 3) (ad 10) (ad 11) (ad 12) g1 (((sndN (ix x9) L S qf qb 0).2.2.1).length), rwW D (ad 4) (ad 13) (ad 14) (ad 15) g2 (((sndN (ix x9) L S qf qb 0).2.2.2.1).length), alW D e0 (ad 5) ht tq.length, dvW da N ((sndN (ix x9) L S qf qb 0).2.1) om, xoW bd up op tr, lkW D bd L2, alW D e0 (bd 2) hs2 N, rwW D (bd 3) (bd 10) (bd 11) (bd 12) gf2 qf.length, rwW D (bd 4) (bd 13) (bd 14) (bd 15) gb2 qb2.length, alW D e0 (bd 5) ht2 tq.length, dvW db N S2 om2] (k + 1) (n + 6)
    refine x_aload_n B (pc := 263) 8 dL_law_263 rfl rfl ?_
    refine x_iload B (pc := 264) 0 dL_law_264 rfl ?_
    refine x_iconst B (pc := 266) 1 dL_law_266 (by decide) ?_
    refine x_iload B (pc := 267) 4 dL_law_267 rfl ?_
    refine x_bipush B (pc := 269) 8 dL_law_269 (by decide) ?_
    refine x_irem B (pc := 271) dL_law_271 (by decide) ?_
    refine x_iadd B (pc := 272) dL_law_272 ?_
    refine x_val B (y := x9) hx9.symm ?_
    refine x_callSX B (pc := 273) (As := [.ref (bd 0), .int 1, .int x9]) (c_goes_toSender hl D e0 hok2 hN hq2 hqb2 (fun x hx => by rcases hB2 x hx with e | e; exact Or.inl ⟨e.1, e.2.1⟩; exact Or.inr ⟨e.1, e.2.1⟩) (by omega)) tm470 tm471 tm0 tm472 md_L_goes ⟨Nat.le_of_ble_eq_true rfl, Nat.le_of_ble_eq_true rfl⟩ [7, 8, 9, 10, 11, 13] rfl rfl rfl (Nat.le_of_ble_eq_true rfl) (by show k + 1 + 1 ≤ (619123 : Nat); omega) (by show n + 6 + 6 ≤ (7243813 : Nat); omega) dL_law_273 (fun E hE => False.elim hE) (fun v cs1 hp => ?_)
    rcases hp with ⟨hc2, rfl, g1b, g2b, hg0, hg1, rfl⟩ | ⟨hc2, hz2⟩
    · show G 276 [(12, .int 1), (11, .int a9), (10, .int (nI ((j + mo) % 4))), (9, .int (nI j)), (8, .int (nI v)), (5, .int (nI i)), (4, .int 1), (3, .int (nI mo)), (2, .ref (bd 0)), (1, .ref (ad 0)), (0, .ref b)] [.int ((sndN (ix x9) L2 S2 qf qb2 0).2.2.2.2), .int ((sndN (ix x9) L S qf qb 0).2.2.2.2)] [xoW ad up op tr, lkW D ad ((sndN (ix x9) L S qf qb 0).1), alW D e0 (ad 2) hs N, rwW D (ad 3) (ad 10) (ad 11) (ad 12) g1 (((sndN (ix x9) L S qf qb 0).2.2.1).length), rwW D (ad 4) (ad 13) (ad 14) (ad 15) g2 (((sndN (ix x9) L S qf qb 0).2.2.2.1).length), alW D e0 (ad 5) ht tq.length, dvW da N ((sndN (ix x9) L S qf qb 0).2.1) om, xoW bd up op tr, lkW D bd ((sndN (ix x9) L2 S2 qf qb2 0).1), alW D e0 (bd 2) hs2 N, rwW D (bd 3) (bd 10) (bd 11) (bd 12) g1b (((sndN (ix x9) L2 S2 qf qb2 0).2.2.1).length), rwW D (bd 4) (bd 13) (bd 14) (bd 15) g2b (((sndN (ix x9) L2 S2 qf qb2 0).2.2.2.1).length), alW D e0 (bd 5) ht2 tq.length, dvW db N ((sndN (ix x9) L2 S2 qf qb2 0).2.1) om2] (k + 1 + 1) (n + 6 + 6)
      obtain ⟨-, he, he2⟩ := rl_toS (ix x9) hR hI
      rw [he] at hg0 ⊢
      rw [he2]
      refine x_icmp_ne B (pc := 276) 283 dL_law_276 (by decide) (fun h276 => absurd rfl h276) (fun h276 => ?_)
      refine x_iconst B (pc := 279) 1 dL_law_279 (by decide) ?_
      refine x_goto B (pc := 280) 284 dL_law_280 (by decide) ?_
      refine x_istore B (pc := 284) [(4, .int 1), (12, .int 1), (11, .int a9), (10, .int (nI ((j + mo) % 4))), (9, .int (nI j)), (8, .int (nI v)), (5, .int (nI i)), (3, .int (nI mo)), (2, .ref (bd 0)), (1, .ref (ad 0)), (0, .ref b)] dL_law_284 (by decide) rfl ?_
      refine x_goto B (pc := 286) 425 dL_law_286 (by decide) ?_
      refine x_lv B [2, 3, 4, 6, 0, 7, 8, 9, 10] [(11, .int a9), (10, .int (nI ((j + mo) % 4))), (9, .int (nI j)), (5, .int (nI i)), (4, .int 1), (3, .int (nI mo)), (2, .ref (bd 0)), (1, .ref (ad 0)), (0, .ref b)] rfl ?_
      refine x_wid B (k + 4) (n + 424) (by omega) (by omega) ?_
      exact K da hs ht g1 g2 om ((sndN (ix x9) L S qf qb 0).1) ((sndN (ix x9) L S qf qb 0).2.1) ((sndN (ix x9) L S qf qb 0).2.2.2.1) db hs2 ht2 g1b g2b om2 ((sndN (ix x9) L2 S2 qf qb2 0).1) ((sndN (ix x9) L2 S2 qf qb2 0).2.1) ((sndN (ix x9) L2 S2 qf qb2 0).2.2.2.1) N ((sndN (ix x9) L S qf qb 0).2.2.1) up op tr tq ⟨aInv_more (aInv_snd (ix x9) L S qf qb 0 hI) (by omega), aInv_more ((by have h9 := aInv_snd (ix x9) L2 S2 qf qb2 0 hI2; rw [(rl_toS (ix x9) hR hI).2.1] at h9; exact h9)) (by omega), (rl_toS (ix x9) hR hI).1, ⟨hok, hot, hf0, hf1⟩, ⟨hok2, hot2, hg0, hg1⟩⟩
    · exact absurd (hCe.trans hc) hc2
  · show G 263 [(12, .int 1), (11, .int a9), (10, .int (nI ((j + mo) % 4))), (9, .int (nI j)), (8, .int (nI v)), (5, .int (nI i)), (4, .int 1), (3, .int (nI mo)), (2, .ref (bd 0)), (1, .ref (ad 0)), (0, .ref b)] [.int (-8)] [xoW ad up op tr, lkW D ad L, alW D e0 (ad 2) hs N, rwW D (ad 3) (ad 10) (ad 11) (ad 12) gf qf.length, rwW D (ad 4) (ad 13) (ad 14) (ad 15) gb qb.length, alW D e0 (ad 5) ht tq.length, dvW da N S om, xoW bd up op tr, lkW D bd L2, alW D e0 (bd 2) hs2 N, rwW D (bd 3) (bd 10) (bd 11) (bd 12) gf2 qf.length, rwW D (bd 4) (bd 13) (bd 14) (bd 15) gb2 qb2.length, alW D e0 (bd 5) ht2 tq.length, dvW db N S2 om2] (k + 1) (n + 6)
    refine x_aload_n B (pc := 263) 8 dL_law_263 rfl rfl ?_
    refine x_iload B (pc := 264) 0 dL_law_264 rfl ?_
    refine x_iconst B (pc := 266) 1 dL_law_266 (by decide) ?_
    refine x_iload B (pc := 267) 4 dL_law_267 rfl ?_
    refine x_bipush B (pc := 269) 8 dL_law_269 (by decide) ?_
    refine x_irem B (pc := 271) dL_law_271 (by decide) ?_
    refine x_iadd B (pc := 272) dL_law_272 ?_
    refine x_val B (y := x9) hx9.symm ?_
    refine x_callSX B (pc := 273) (As := [.ref (bd 0), .int 1, .int x9]) (c_goes_toSender hl D e0 hok2 hN hq2 hqb2 (fun x hx => by rcases hB2 x hx with e | e; exact Or.inl ⟨e.1, e.2.1⟩; exact Or.inr ⟨e.1, e.2.1⟩) (by omega)) tm470 tm471 tm0 tm472 md_L_goes ⟨Nat.le_of_ble_eq_true rfl, Nat.le_of_ble_eq_true rfl⟩ [7, 8, 9, 10, 11, 13] rfl rfl rfl (Nat.le_of_ble_eq_true rfl) (by show k + 1 + 1 ≤ (619123 : Nat); omega) (by show n + 6 + 6 ≤ (7243813 : Nat); omega) dL_law_273 (fun E hE => False.elim hE) (fun v cs1 hp => ?_)
    rcases hp with ⟨hc2, hz2⟩ | ⟨hc2, rfl, rfl⟩
    · exact absurd (hCe.symm.trans hc2) hc
    · show G 276 [(12, .int 1), (11, .int a9), (10, .int (nI ((j + mo) % 4))), (9, .int (nI j)), (8, .int (nI v)), (5, .int (nI i)), (4, .int 1), (3, .int (nI mo)), (2, .ref (bd 0)), (1, .ref (ad 0)), (0, .ref b)] [.int (-8), .int (-8)] [xoW ad up op tr, lkW D ad L, alW D e0 (ad 2) hs N, rwW D (ad 3) (ad 10) (ad 11) (ad 12) gf qf.length, rwW D (ad 4) (ad 13) (ad 14) (ad 15) gb qb.length, alW D e0 (ad 5) ht tq.length, dvW da N S om, xoW bd up op tr, lkW D bd L2, alW D e0 (bd 2) hs2 N, rwW D (bd 3) (bd 10) (bd 11) (bd 12) gf2 qf.length, rwW D (bd 4) (bd 13) (bd 14) (bd 15) gb2 qb2.length, alW D e0 (bd 5) ht2 tq.length, dvW db N S2 om2] (k + 1 + 1) (n + 6 + 6)
      refine x_icmp_ne B (pc := 276) 283 dL_law_276 (by decide) (fun h276 => absurd rfl h276) (fun h276 => ?_)
      refine x_iconst B (pc := 279) 1 dL_law_279 (by decide) ?_
      refine x_goto B (pc := 280) 284 dL_law_280 (by decide) ?_
      refine x_istore B (pc := 284) [(4, .int 1), (12, .int 1), (11, .int a9), (10, .int (nI ((j + mo) % 4))), (9, .int (nI j)), (8, .int (nI v)), (5, .int (nI i)), (3, .int (nI mo)), (2, .ref (bd 0)), (1, .ref (ad 0)), (0, .ref b)] dL_law_284 (by decide) rfl ?_
      refine x_goto B (pc := 286) 425 dL_law_286 (by decide) ?_
      refine x_lv B [2, 3, 4, 6, 0, 7, 8, 9, 10] [(11, .int a9), (10, .int (nI ((j + mo) % 4))), (9, .int (nI j)), (5, .int (nI i)), (4, .int 1), (3, .int (nI mo)), (2, .ref (bd 0)), (1, .ref (ad 0)), (0, .ref b)] rfl ?_
      refine x_wid B (k + 4) (n + 424) (by omega) (by omega) ?_
      exact K da hs ht gf gb om L S qb db hs2 ht2 gf2 gb2 om2 L2 S2 qb2 N qf up op tr tq ⟨aInv_more hI (by omega), aInv_more hI2 (by omega), hR, ⟨hok, hot, hq, hqb⟩, ⟨hok2, hot2, hq2, hqb2⟩⟩

set_option maxRecDepth 100000 in
set_option maxHeartbeats 4000000 in
/-- the call breakOff -/
theorem st_breakOff {l : Launch} (hl : l.stackTraces = false) (D : va_G) (e0 : Nat) {b Ls : Nat} {xs : Nat → Int32} {G : xGt} {X : xXt} (B0 : xL l D e0 b Ls xs G X) {ad bd : Nat → Nat} {i j mo v t k n : Nat} {a9 : Int32} (hj : j < 4) (hmo : mo < 4) (ht9 : t < 400) (hk : k ≤ 8000) (hn : n ≤ 300000) (K : lTo G D e0 ad bd mo (t + 1) (k + 4) (n + 424) 425 [(11, .int a9), (10, .int (nI ((j + mo) % 4))), (9, .int (nI j)), (5, .int (nI i)), (4, .int 1), (3, .int (nI mo)), (2, .ref (bd 0)), (1, .ref (ad 0)), (0, .ref b)]) : lTo G D e0 ad bd mo t k n 344 [(12, .int 2), (11, .int a9), (10, .int (nI ((j + mo) % 4))), (9, .int (nI j)), (8, .int (nI v)), (5, .int (nI i)), (4, .int 1), (3, .int (nI mo)), (2, .ref (bd 0)), (1, .ref (ad 0)), (0, .ref b)] := by
  intro da hs ht gf gb om L S qb db hs2 ht2 gf2 gb2 om2 L2 S2 qb2 N qf up op tr tq hg
  obtain ⟨hI, hI2, hR, ⟨hok, hot, hq, hqb⟩, ⟨hok2, hot2, hq2, hqb2⟩⟩ := id hg
  obtain ⟨hup, hop, hL, hN, hS, hF, hB, hPhi, hlen, hdn⟩ := id hI
  obtain ⟨-, -, hL2, -, hS2, -, hB2, hPhi2, hlen2, -⟩ := id hI2
  have hT := tq_len hI
  have hin := tq_in hS
  have hql2 := rl_len hR
  have hl4 : ∀ d, d < N → ∃ j, j < 4 ∧ S 4 d = nI j := fun d hd => (hS.2.1 d hd).1
  have hl42 : ∀ d, d < N → ∃ j, j < 4 ∧ S2 4 d = nI j := fun d hd => (hS2.2.1 d hd).1
  have h69 : ∀ d, d < N → ∃ m, m ≤ 4 ∧ S 6 d = nI m := fun d hd => (hS.2.1 d hd).2.1
  have h692 : ∀ d, d < N → ∃ m, m ≤ 4 ∧ S2 6 d = nI m := fun d hd => (hS2.2.1 d hd).2.1
  obtain ⟨hh, B, BS⟩ := B0.base
  show G 344 [(12, .int 2), (11, .int a9), (10, .int (nI ((j + mo) % 4))), (9, .int (nI j)), (8, .int (nI v)), (5, .int (nI i)), (4, .int 1), (3, .int (nI mo)), (2, .ref (bd 0)), (1, .ref (ad 0)), (0, .ref b)] [] [xoW ad up op tr, lkW D ad L, alW D e0 (ad 2) hs N, rwW D (ad 3) (ad 10) (ad 11) (ad 12) gf qf.length, rwW D (ad 4) (ad 13) (ad 14) (ad 15) gb qb.length, alW D e0 (ad 5) ht tq.length, dvW da N S om, xoW bd up op tr, lkW D bd L2, alW D e0 (bd 2) hs2 N, rwW D (bd 3) (bd 10) (bd 11) (bd 12) gf2 qf.length, rwW D (bd 4) (bd 13) (bd 14) (bd 15) gb2 qb2.length, alW D e0 (bd 5) ht2 tq.length, dvW db N S2 om2] k n
  have hCe : cod (decide (up = 1)) true true = cod (decide (up = 1)) true true := rfl
  refine x_aload_n B (pc := 344) 9 dL_law_344 rfl rfl ?_
  refine x_iload B (pc := 345) 0 dL_law_345 rfl ?_
  refine x_iconst B (pc := 347) 1 dL_law_347 (by decide) ?_
  refine x_callSX B (pc := 348) (As := [.ref (ad 0), .int 2, .int 1]) (c_goes_breakOff hl D e0 hup hot hT hin) tm470 tm471 tm0 tm472 md_L_goes ⟨Nat.le_of_ble_eq_true rfl, Nat.le_of_ble_eq_true rfl⟩ [0, 3, 4, 5, 6] rfl rfl rfl (Nat.le_of_ble_eq_true rfl) (by show k + 1 ≤ (619123 : Nat); omega) (by show n + 6 ≤ (7243813 : Nat); omega) dL_law_348 (fun E hE => False.elim hE) (fun v cs1 hp => ?_)
  rcases hp with ⟨hc, rfl, h1, g1, g2, hf0, hf1, hf2, rfl⟩ | ⟨hc, rfl, rfl⟩
  · show G 351 [(12, .int 2), (11, .int a9), (10, .int (nI ((j + mo) % 4))), (9, .int (nI j)), (8, .int (nI v)), (5, .int (nI i)), (4, .int 1), (3, .int (nI mo)), (2, .ref (bd 0)), (1, .ref (ad 0)), (0, .ref b)] [.int (nI (qf.length + qb.length))] [xoW ad 0 0 tr, lkW D ad L, alW D e0 (ad 2) hs N, rwW D (ad 3) (ad 10) (ad 11) (ad 12) g1 ((@List.nil xFr).length), rwW D (ad 4) (ad 13) (ad 14) (ad 15) g2 ((@List.nil xFr).length), alW D e0 (ad 5) h1 0, dvW da N (clrS S tq) om, xoW bd up op tr, lkW D bd L2, alW D e0 (bd 2) hs2 N, rwW D (bd 3) (bd 10) (bd 11) (bd 12) gf2 qf.length, rwW D (bd 4) (bd 13) (bd 14) (bd 15) gb2 qb2.length, alW D e0 (bd 5) ht2 tq.length, dvW db N S2 om2] (k + 1) (n + 6)
    refine x_aload_n B (pc := 351) 8 dL_law_351 rfl rfl ?_
    refine x_iload B (pc := 352) 0 dL_law_352 rfl ?_
    refine x_iconst B (pc := 354) 1 dL_law_354 (by decide) ?_
    refine x_callSX B (pc := 355) (As := [.ref (bd 0), .int 2, .int 1]) (c_goes_breakOff hl D e0 hup hot2 hT hin) tm470 tm471 tm0 tm472 md_L_goes ⟨Nat.le_of_ble_eq_true rfl, Nat.le_of_ble_eq_true rfl⟩ [7, 10, 11, 12, 13] rfl rfl rfl (Nat.le_of_ble_eq_true rfl) (by show k + 1 + 1 ≤ (619123 : Nat); omega) (by show n + 6 + 6 ≤ (7243813 : Nat); omega) dL_law_355 (fun E hE => False.elim hE) (fun v cs1 hp => ?_)
    rcases hp with ⟨hc2, rfl, h1b, g1b, g2b, hg0, hg1, hg2, rfl⟩ | ⟨hc2, hz2⟩
    · show G 358 [(12, .int 2), (11, .int a9), (10, .int (nI ((j + mo) % 4))), (9, .int (nI j)), (8, .int (nI v)), (5, .int (nI i)), (4, .int 1), (3, .int (nI mo)), (2, .ref (bd 0)), (1, .ref (ad 0)), (0, .ref b)] [.int (nI (qf.length + qb2.length)), .int (nI (qf.length + qb.length))] [xoW ad 0 0 tr, lkW D ad L, alW D e0 (ad 2) hs N, rwW D (ad 3) (ad 10) (ad 11) (ad 12) g1 ((@List.nil xFr).length), rwW D (ad 4) (ad 13) (ad 14) (ad 15) g2 ((@List.nil xFr).length), alW D e0 (ad 5) h1 0, dvW da N (clrS S tq) om, xoW bd 0 0 tr, lkW D bd L2, alW D e0 (bd 2) hs2 N, rwW D (bd 3) (bd 10) (bd 11) (bd 12) g1b ((@List.nil xFr).length), rwW D (bd 4) (bd 13) (bd 14) (bd 15) g2b ((@List.nil xFr).length), alW D e0 (bd 5) h1b 0, dvW db N (clrS S2 tq) om2] (k + 1 + 1) (n + 6 + 6)
      refine x_icmp_ne B (pc := 358) 365 dL_law_358 (by decide) (fun h358 => absurd (by rw [hql2]) h358) (fun h358 => ?_)
      refine x_iconst B (pc := 361) 1 dL_law_361 (by decide) ?_
      refine x_goto B (pc := 362) 366 dL_law_362 (by decide) ?_
      refine x_istore B (pc := 366) [(4, .int 1), (12, .int 2), (11, .int a9), (10, .int (nI ((j + mo) % 4))), (9, .int (nI j)), (8, .int (nI v)), (5, .int (nI i)), (3, .int (nI mo)), (2, .ref (bd 0)), (1, .ref (ad 0)), (0, .ref b)] dL_law_366 (by decide) rfl ?_
      refine x_goto B (pc := 368) 425 dL_law_368 (by decide) ?_
      refine x_lv B [2, 3, 4, 6, 0, 7, 8, 9, 10] [(11, .int a9), (10, .int (nI ((j + mo) % 4))), (9, .int (nI j)), (5, .int (nI i)), (4, .int 1), (3, .int (nI mo)), (2, .ref (bd 0)), (1, .ref (ad 0)), (0, .ref b)] rfl ?_
      refine x_wid B (k + 4) (n + 424) (by omega) (by omega) ?_
      exact K da hs h1 g1 g2 om L (clrS S tq) ([]) db hs2 h1b g1b g2b om2 L2 (clrS S2 tq) ([]) N ([]) 0 0 tr ([]) ⟨aInv_more (aInv_break hI) (by omega), aInv_more (aInv_break hI2) (by omega), rl_break hR, ⟨hok, hf0 _, hf1, hf2⟩, ⟨hok2, hg0 _, hg1, hg2⟩⟩
    · exact absurd (hCe.trans hc) hc2
  · show G 351 [(12, .int 2), (11, .int a9), (10, .int (nI ((j + mo) % 4))), (9, .int (nI j)), (8, .int (nI v)), (5, .int (nI i)), (4, .int 1), (3, .int (nI mo)), (2, .ref (bd 0)), (1, .ref (ad 0)), (0, .ref b)] [.int (-8)] [xoW ad up op tr, lkW D ad L, alW D e0 (ad 2) hs N, rwW D (ad 3) (ad 10) (ad 11) (ad 12) gf qf.length, rwW D (ad 4) (ad 13) (ad 14) (ad 15) gb qb.length, alW D e0 (ad 5) ht tq.length, dvW da N S om, xoW bd up op tr, lkW D bd L2, alW D e0 (bd 2) hs2 N, rwW D (bd 3) (bd 10) (bd 11) (bd 12) gf2 qf.length, rwW D (bd 4) (bd 13) (bd 14) (bd 15) gb2 qb2.length, alW D e0 (bd 5) ht2 tq.length, dvW db N S2 om2] (k + 1) (n + 6)
    refine x_aload_n B (pc := 351) 8 dL_law_351 rfl rfl ?_
    refine x_iload B (pc := 352) 0 dL_law_352 rfl ?_
    refine x_iconst B (pc := 354) 1 dL_law_354 (by decide) ?_
    refine x_callSX B (pc := 355) (As := [.ref (bd 0), .int 2, .int 1]) (c_goes_breakOff hl D e0 hup hot2 hT hin) tm470 tm471 tm0 tm472 md_L_goes ⟨Nat.le_of_ble_eq_true rfl, Nat.le_of_ble_eq_true rfl⟩ [7, 10, 11, 12, 13] rfl rfl rfl (Nat.le_of_ble_eq_true rfl) (by show k + 1 + 1 ≤ (619123 : Nat); omega) (by show n + 6 + 6 ≤ (7243813 : Nat); omega) dL_law_355 (fun E hE => False.elim hE) (fun v cs1 hp => ?_)
    rcases hp with ⟨hc2, hz2⟩ | ⟨hc2, rfl, rfl⟩
    · exact absurd (hCe.symm.trans hc2) hc
    · show G 358 [(12, .int 2), (11, .int a9), (10, .int (nI ((j + mo) % 4))), (9, .int (nI j)), (8, .int (nI v)), (5, .int (nI i)), (4, .int 1), (3, .int (nI mo)), (2, .ref (bd 0)), (1, .ref (ad 0)), (0, .ref b)] [.int (-8), .int (-8)] [xoW ad up op tr, lkW D ad L, alW D e0 (ad 2) hs N, rwW D (ad 3) (ad 10) (ad 11) (ad 12) gf qf.length, rwW D (ad 4) (ad 13) (ad 14) (ad 15) gb qb.length, alW D e0 (ad 5) ht tq.length, dvW da N S om, xoW bd up op tr, lkW D bd L2, alW D e0 (bd 2) hs2 N, rwW D (bd 3) (bd 10) (bd 11) (bd 12) gf2 qf.length, rwW D (bd 4) (bd 13) (bd 14) (bd 15) gb2 qb2.length, alW D e0 (bd 5) ht2 tq.length, dvW db N S2 om2] (k + 1 + 1) (n + 6 + 6)
      refine x_icmp_ne B (pc := 358) 365 dL_law_358 (by decide) (fun h358 => absurd rfl h358) (fun h358 => ?_)
      refine x_iconst B (pc := 361) 1 dL_law_361 (by decide) ?_
      refine x_goto B (pc := 362) 366 dL_law_362 (by decide) ?_
      refine x_istore B (pc := 366) [(4, .int 1), (12, .int 2), (11, .int a9), (10, .int (nI ((j + mo) % 4))), (9, .int (nI j)), (8, .int (nI v)), (5, .int (nI i)), (3, .int (nI mo)), (2, .ref (bd 0)), (1, .ref (ad 0)), (0, .ref b)] dL_law_366 (by decide) rfl ?_
      refine x_goto B (pc := 368) 425 dL_law_368 (by decide) ?_
      refine x_lv B [2, 3, 4, 6, 0, 7, 8, 9, 10] [(11, .int a9), (10, .int (nI ((j + mo) % 4))), (9, .int (nI j)), (5, .int (nI i)), (4, .int 1), (3, .int (nI mo)), (2, .ref (bd 0)), (1, .ref (ad 0)), (0, .ref b)] rfl ?_
      refine x_wid B (k + 4) (n + 424) (by omega) (by omega) ?_
      exact K da hs ht gf gb om L S qb db hs2 ht2 gf2 gb2 om2 L2 S2 qb2 N qf up op tr tq ⟨aInv_more hI (by omega), aInv_more hI2 (by omega), hR, ⟨hok, hot, hq, hqb⟩, ⟨hok2, hot2, hq2, hqb2⟩⟩

set_option maxRecDepth 100000 in
set_option maxHeartbeats 4000000 in
/-- the call join -/
theorem st_join {l : Launch} (hl : l.stackTraces = false) (D : va_G) (e0 : Nat) {b Ls : Nat} {xs : Nat → Int32} {G : xGt} {X : xXt} (B0 : xL l D e0 b Ls xs G X) {ad bd : Nat → Nat} {i j mo v t k n : Nat} {a9 : Int32} (hj : j < 4) (hmo : mo < 4) (ht9 : t < 400) (hk : k ≤ 8000) (hn : n ≤ 300000) (K : lTo G D e0 ad bd mo (t + 1) (k + 4) (n + 424) 425 [(11, .int a9), (10, .int (nI ((j + mo) % 4))), (9, .int (nI j)), (5, .int (nI i)), (4, .int 1), (3, .int (nI mo)), (2, .ref (bd 0)), (1, .ref (ad 0)), (0, .ref b)]) : lTo G D e0 ad bd mo t k n 344 [(12, .int 3), (11, .int a9), (10, .int (nI ((j + mo) % 4))), (9, .int (nI j)), (8, .int (nI v)), (5, .int (nI i)), (4, .int 1), (3, .int (nI mo)), (2, .ref (bd 0)), (1, .ref (ad 0)), (0, .ref b)] := by
  intro da hs ht gf gb om L S qb db hs2 ht2 gf2 gb2 om2 L2 S2 qb2 N qf up op tr tq hg
  obtain ⟨hI, hI2, hR, ⟨hok, hot, hq, hqb⟩, ⟨hok2, hot2, hq2, hqb2⟩⟩ := id hg
  obtain ⟨hup, hop, hL, hN, hS, hF, hB, hPhi, hlen, hdn⟩ := id hI
  obtain ⟨-, -, hL2, -, hS2, -, hB2, hPhi2, hlen2, -⟩ := id hI2
  have hT := tq_len hI
  have hin := tq_in hS
  have hql2 := rl_len hR
  have hl4 : ∀ d, d < N → ∃ j, j < 4 ∧ S 4 d = nI j := fun d hd => (hS.2.1 d hd).1
  have hl42 : ∀ d, d < N → ∃ j, j < 4 ∧ S2 4 d = nI j := fun d hd => (hS2.2.1 d hd).1
  have h69 : ∀ d, d < N → ∃ m, m ≤ 4 ∧ S 6 d = nI m := fun d hd => (hS.2.1 d hd).2.1
  have h692 : ∀ d, d < N → ∃ m, m ≤ 4 ∧ S2 6 d = nI m := fun d hd => (hS2.2.1 d hd).2.1
  obtain ⟨hh, B, BS⟩ := B0.base
  show G 344 [(12, .int 3), (11, .int a9), (10, .int (nI ((j + mo) % 4))), (9, .int (nI j)), (8, .int (nI v)), (5, .int (nI i)), (4, .int 1), (3, .int (nI mo)), (2, .ref (bd 0)), (1, .ref (ad 0)), (0, .ref b)] [] [xoW ad up op tr, lkW D ad L, alW D e0 (ad 2) hs N, rwW D (ad 3) (ad 10) (ad 11) (ad 12) gf qf.length, rwW D (ad 4) (ad 13) (ad 14) (ad 15) gb qb.length, alW D e0 (ad 5) ht tq.length, dvW da N S om, xoW bd up op tr, lkW D bd L2, alW D e0 (bd 2) hs2 N, rwW D (bd 3) (bd 10) (bd 11) (bd 12) gf2 qf.length, rwW D (bd 4) (bd 13) (bd 14) (bd 15) gb2 qb2.length, alW D e0 (bd 5) ht2 tq.length, dvW db N S2 om2] k n
  have hCe : cod (decide (up = 0)) true true = cod (decide (up = 0)) true true := rfl
  refine x_aload_n B (pc := 344) 9 dL_law_344 rfl rfl ?_
  refine x_iload B (pc := 345) 0 dL_law_345 rfl ?_
  refine x_iconst B (pc := 347) 1 dL_law_347 (by decide) ?_
  refine x_callSX B (pc := 348) (As := [.ref (ad 0), .int 3, .int 1]) (c_goes_join hl D e0 hup hok hN hq (by omega) (fun d hd e => (hS.2.1 d hd).2.2.2.2 e) h69) tm470 tm471 tm0 tm472 md_L_goes ⟨Nat.le_of_ble_eq_true rfl, Nat.le_of_ble_eq_true rfl⟩ [0, 1, 2, 3, 6] rfl rfl rfl (Nat.le_of_ble_eq_true rfl) (by show k + 1 ≤ (619123 : Nat); omega) (by show n + 6 ≤ (7243813 : Nat); omega) dL_law_348 (fun E hE => False.elim hE) (fun v cs1 hp => ?_)
  rcases hp with ⟨hc, rfl, g1, hf0, rfl⟩ | ⟨hc, rfl, rfl⟩
  · show G 351 [(12, .int 3), (11, .int a9), (10, .int (nI ((j + mo) % 4))), (9, .int (nI j)), (8, .int (nI v)), (5, .int (nI i)), (4, .int 1), (3, .int (nI mo)), (2, .ref (bd 0)), (1, .ref (ad 0)), (0, .ref b)] [.int ((jn S qf N).2.2)] [xoW ad 1 op tr, lkW D ad (jnL L 4), alW D e0 (ad 2) hs N, rwW D (ad 3) (ad 10) (ad 11) (ad 12) g1 (((jn S qf N).2.1).length), rwW D (ad 4) (ad 13) (ad 14) (ad 15) gb qb.length, alW D e0 (ad 5) ht tq.length, dvW da N ((jn S qf N).1) om, xoW bd up op tr, lkW D bd L2, alW D e0 (bd 2) hs2 N, rwW D (bd 3) (bd 10) (bd 11) (bd 12) gf2 qf.length, rwW D (bd 4) (bd 13) (bd 14) (bd 15) gb2 qb2.length, alW D e0 (bd 5) ht2 tq.length, dvW db N S2 om2] (k + 1) (n + 6)
    refine x_aload_n B (pc := 351) 8 dL_law_351 rfl rfl ?_
    refine x_iload B (pc := 352) 0 dL_law_352 rfl ?_
    refine x_iconst B (pc := 354) 1 dL_law_354 (by decide) ?_
    refine x_callSX B (pc := 355) (As := [.ref (bd 0), .int 3, .int 1]) (c_goes_join hl D e0 hup hok2 hN hq2 (by omega) (fun d hd e => (hS2.2.1 d hd).2.2.2.2 e) h692) tm470 tm471 tm0 tm472 md_L_goes ⟨Nat.le_of_ble_eq_true rfl, Nat.le_of_ble_eq_true rfl⟩ [7, 8, 9, 10, 13] rfl rfl rfl (Nat.le_of_ble_eq_true rfl) (by show k + 1 + 1 ≤ (619123 : Nat); omega) (by show n + 6 + 6 ≤ (7243813 : Nat); omega) dL_law_355 (fun E hE => False.elim hE) (fun v cs1 hp => ?_)
    rcases hp with ⟨hc2, rfl, g1b, hg0, rfl⟩ | ⟨hc2, hz2⟩
    · show G 358 [(12, .int 3), (11, .int a9), (10, .int (nI ((j + mo) % 4))), (9, .int (nI j)), (8, .int (nI v)), (5, .int (nI i)), (4, .int 1), (3, .int (nI mo)), (2, .ref (bd 0)), (1, .ref (ad 0)), (0, .ref b)] [.int ((jn S2 qf N).2.2), .int ((jn S qf N).2.2)] [xoW ad 1 op tr, lkW D ad (jnL L 4), alW D e0 (ad 2) hs N, rwW D (ad 3) (ad 10) (ad 11) (ad 12) g1 (((jn S qf N).2.1).length), rwW D (ad 4) (ad 13) (ad 14) (ad 15) gb qb.length, alW D e0 (ad 5) ht tq.length, dvW da N ((jn S qf N).1) om, xoW bd 1 op tr, lkW D bd (jnL L2 4), alW D e0 (bd 2) hs2 N, rwW D (bd 3) (bd 10) (bd 11) (bd 12) g1b (((jn S2 qf N).2.1).length), rwW D (bd 4) (bd 13) (bd 14) (bd 15) gb2 qb2.length, alW D e0 (bd 5) ht2 tq.length, dvW db N ((jn S2 qf N).1) om2] (k + 1 + 1) (n + 6 + 6)
      have he := (sR_jn (i := N) (q := qf) hR.2.1).2
      rw [he] at hg0 ⊢
      refine x_icmp_ne B (pc := 358) 365 dL_law_358 (by decide) (fun h358 => absurd rfl h358) (fun h358 => ?_)
      refine x_iconst B (pc := 361) 1 dL_law_361 (by decide) ?_
      refine x_goto B (pc := 362) 366 dL_law_362 (by decide) ?_
      refine x_istore B (pc := 366) [(4, .int 1), (12, .int 3), (11, .int a9), (10, .int (nI ((j + mo) % 4))), (9, .int (nI j)), (8, .int (nI v)), (5, .int (nI i)), (3, .int (nI mo)), (2, .ref (bd 0)), (1, .ref (ad 0)), (0, .ref b)] dL_law_366 (by decide) rfl ?_
      refine x_goto B (pc := 368) 425 dL_law_368 (by decide) ?_
      refine x_lv B [2, 3, 4, 6, 0, 7, 8, 9, 10] [(11, .int a9), (10, .int (nI ((j + mo) % 4))), (9, .int (nI j)), (5, .int (nI i)), (4, .int 1), (3, .int (nI mo)), (2, .ref (bd 0)), (1, .ref (ad 0)), (0, .ref b)] rfl ?_
      refine x_wid B (k + 4) (n + 424) (by omega) (by omega) ?_
      exact K da hs ht g1 gb om (jnL L 4) ((jn S qf N).1) qb db hs2 ht2 g1b gb2 om2 (jnL L2 4) ((jn S2 qf N).1) qb2 N ((jn S qf N).2.1) 1 op tr tq ⟨aInv_more (aInv_join hI hc) (by omega), aInv_more ((by have h9 := aInv_join hI2 hc2; rw [(sR_jn (i := N) (q := qf) hR.2.1).2] at h9; exact h9)) (by omega), rl_join hR, ⟨hok, hot, hf0, hqb⟩, ⟨hok2, hot2, hg0, hqb2⟩⟩
    · exact absurd (hCe.trans hc) hc2
  · show G 351 [(12, .int 3), (11, .int a9), (10, .int (nI ((j + mo) % 4))), (9, .int (nI j)), (8, .int (nI v)), (5, .int (nI i)), (4, .int 1), (3, .int (nI mo)), (2, .ref (bd 0)), (1, .ref (ad 0)), (0, .ref b)] [.int (-8)] [xoW ad up op tr, lkW D ad L, alW D e0 (ad 2) hs N, rwW D (ad 3) (ad 10) (ad 11) (ad 12) gf qf.length, rwW D (ad 4) (ad 13) (ad 14) (ad 15) gb qb.length, alW D e0 (ad 5) ht tq.length, dvW da N S om, xoW bd up op tr, lkW D bd L2, alW D e0 (bd 2) hs2 N, rwW D (bd 3) (bd 10) (bd 11) (bd 12) gf2 qf.length, rwW D (bd 4) (bd 13) (bd 14) (bd 15) gb2 qb2.length, alW D e0 (bd 5) ht2 tq.length, dvW db N S2 om2] (k + 1) (n + 6)
    refine x_aload_n B (pc := 351) 8 dL_law_351 rfl rfl ?_
    refine x_iload B (pc := 352) 0 dL_law_352 rfl ?_
    refine x_iconst B (pc := 354) 1 dL_law_354 (by decide) ?_
    refine x_callSX B (pc := 355) (As := [.ref (bd 0), .int 3, .int 1]) (c_goes_join hl D e0 hup hok2 hN hq2 (by omega) (fun d hd e => (hS2.2.1 d hd).2.2.2.2 e) h692) tm470 tm471 tm0 tm472 md_L_goes ⟨Nat.le_of_ble_eq_true rfl, Nat.le_of_ble_eq_true rfl⟩ [7, 8, 9, 10, 13] rfl rfl rfl (Nat.le_of_ble_eq_true rfl) (by show k + 1 + 1 ≤ (619123 : Nat); omega) (by show n + 6 + 6 ≤ (7243813 : Nat); omega) dL_law_355 (fun E hE => False.elim hE) (fun v cs1 hp => ?_)
    rcases hp with ⟨hc2, hz2⟩ | ⟨hc2, rfl, rfl⟩
    · exact absurd (hCe.symm.trans hc2) hc
    · show G 358 [(12, .int 3), (11, .int a9), (10, .int (nI ((j + mo) % 4))), (9, .int (nI j)), (8, .int (nI v)), (5, .int (nI i)), (4, .int 1), (3, .int (nI mo)), (2, .ref (bd 0)), (1, .ref (ad 0)), (0, .ref b)] [.int (-8), .int (-8)] [xoW ad up op tr, lkW D ad L, alW D e0 (ad 2) hs N, rwW D (ad 3) (ad 10) (ad 11) (ad 12) gf qf.length, rwW D (ad 4) (ad 13) (ad 14) (ad 15) gb qb.length, alW D e0 (ad 5) ht tq.length, dvW da N S om, xoW bd up op tr, lkW D bd L2, alW D e0 (bd 2) hs2 N, rwW D (bd 3) (bd 10) (bd 11) (bd 12) gf2 qf.length, rwW D (bd 4) (bd 13) (bd 14) (bd 15) gb2 qb2.length, alW D e0 (bd 5) ht2 tq.length, dvW db N S2 om2] (k + 1 + 1) (n + 6 + 6)
      refine x_icmp_ne B (pc := 358) 365 dL_law_358 (by decide) (fun h358 => absurd rfl h358) (fun h358 => ?_)
      refine x_iconst B (pc := 361) 1 dL_law_361 (by decide) ?_
      refine x_goto B (pc := 362) 366 dL_law_362 (by decide) ?_
      refine x_istore B (pc := 366) [(4, .int 1), (12, .int 3), (11, .int a9), (10, .int (nI ((j + mo) % 4))), (9, .int (nI j)), (8, .int (nI v)), (5, .int (nI i)), (3, .int (nI mo)), (2, .ref (bd 0)), (1, .ref (ad 0)), (0, .ref b)] dL_law_366 (by decide) rfl ?_
      refine x_goto B (pc := 368) 425 dL_law_368 (by decide) ?_
      refine x_lv B [2, 3, 4, 6, 0, 7, 8, 9, 10] [(11, .int a9), (10, .int (nI ((j + mo) % 4))), (9, .int (nI j)), (5, .int (nI i)), (4, .int 1), (3, .int (nI mo)), (2, .ref (bd 0)), (1, .ref (ad 0)), (0, .ref b)] rfl ?_
      refine x_wid B (k + 4) (n + 424) (by omega) (by omega) ?_
      exact K da hs ht gf gb om L S qb db hs2 ht2 gf2 gb2 om2 L2 S2 qb2 N qf up op tr tq ⟨aInv_more hI (by omega), aInv_more hI2 (by omega), hR, ⟨hok, hot, hq, hqb⟩, ⟨hok2, hot2, hq2, hqb2⟩⟩

set_option maxRecDepth 100000 in
set_option maxHeartbeats 4000000 in
/-- the call begin -/
theorem st_begin {l : Launch} (hl : l.stackTraces = false) (D : va_G) (e0 : Nat) {b Ls : Nat} {xs : Nat → Int32} {G : xGt} {X : xXt} (B0 : xL l D e0 b Ls xs G X) {ad bd : Nat → Nat} {i j mo v t k n : Nat} {a9 : Int32} (hj : j < 4) (hmo : mo < 4) (ht9 : t < 400) (hk : k ≤ 8000) (hn : n ≤ 300000) (K : lTo G D e0 ad bd mo (t + 1) (k + 4) (n + 424) 425 [(11, .int a9), (10, .int (nI ((j + mo) % 4))), (9, .int (nI j)), (5, .int (nI i)), (4, .int 1), (3, .int (nI mo)), (2, .ref (bd 0)), (1, .ref (ad 0)), (0, .ref b)]) : lTo G D e0 ad bd mo t k n 344 [(12, .int 4), (11, .int a9), (10, .int (nI ((j + mo) % 4))), (9, .int (nI j)), (8, .int (nI v)), (5, .int (nI i)), (4, .int 1), (3, .int (nI mo)), (2, .ref (bd 0)), (1, .ref (ad 0)), (0, .ref b)] := by
  intro da hs ht gf gb om L S qb db hs2 ht2 gf2 gb2 om2 L2 S2 qb2 N qf up op tr tq hg
  obtain ⟨hI, hI2, hR, ⟨hok, hot, hq, hqb⟩, ⟨hok2, hot2, hq2, hqb2⟩⟩ := id hg
  obtain ⟨hup, hop, hL, hN, hS, hF, hB, hPhi, hlen, hdn⟩ := id hI
  obtain ⟨-, -, hL2, -, hS2, -, hB2, hPhi2, hlen2, -⟩ := id hI2
  have hT := tq_len hI
  have hin := tq_in hS
  have hql2 := rl_len hR
  have hl4 : ∀ d, d < N → ∃ j, j < 4 ∧ S 4 d = nI j := fun d hd => (hS.2.1 d hd).1
  have hl42 : ∀ d, d < N → ∃ j, j < 4 ∧ S2 4 d = nI j := fun d hd => (hS2.2.1 d hd).1
  have h69 : ∀ d, d < N → ∃ m, m ≤ 4 ∧ S 6 d = nI m := fun d hd => (hS.2.1 d hd).2.1
  have h692 : ∀ d, d < N → ∃ m, m ≤ 4 ∧ S2 6 d = nI m := fun d hd => (hS2.2.1 d hd).2.1
  obtain ⟨hh, B, BS⟩ := B0.base
  show G 344 [(12, .int 4), (11, .int a9), (10, .int (nI ((j + mo) % 4))), (9, .int (nI j)), (8, .int (nI v)), (5, .int (nI i)), (4, .int 1), (3, .int (nI mo)), (2, .ref (bd 0)), (1, .ref (ad 0)), (0, .ref b)] [] [xoW ad up op tr, lkW D ad L, alW D e0 (ad 2) hs N, rwW D (ad 3) (ad 10) (ad 11) (ad 12) gf qf.length, rwW D (ad 4) (ad 13) (ad 14) (ad 15) gb qb.length, alW D e0 (ad 5) ht tq.length, dvW da N S om, xoW bd up op tr, lkW D bd L2, alW D e0 (bd 2) hs2 N, rwW D (bd 3) (bd 10) (bd 11) (bd 12) gf2 qf.length, rwW D (bd 4) (bd 13) (bd 14) (bd 15) gb2 qb2.length, alW D e0 (bd 5) ht2 tq.length, dvW db N S2 om2] k n
  have hCe : cod (decide (up = 1) && decide (op = 0)) true true = cod (decide (up = 1) && decide (op = 0)) true true := rfl
  refine x_aload_n B (pc := 344) 9 dL_law_344 rfl rfl ?_
  refine x_iload B (pc := 345) 0 dL_law_345 rfl ?_
  refine x_iconst B (pc := 347) 1 dL_law_347 (by decide) ?_
  refine x_callSX B (pc := 348) (As := [.ref (ad 0), .int 4, .int 1]) (c_goes_begin hl D e0 hup hop) tm470 tm471 tm0 tm472 md_L_goes ⟨Nat.le_of_ble_eq_true rfl, Nat.le_of_ble_eq_true rfl⟩ [0] rfl rfl rfl (Nat.le_of_ble_eq_true rfl) (by show k + 1 ≤ (619123 : Nat); omega) (by show n + 6 ≤ (7243813 : Nat); omega) dL_law_348 (fun E hE => False.elim hE) (fun v cs1 hp => ?_)
  rcases hp with ⟨hc, rfl, rfl⟩ | ⟨hc, rfl, rfl⟩
  · show G 351 [(12, .int 4), (11, .int a9), (10, .int (nI ((j + mo) % 4))), (9, .int (nI j)), (8, .int (nI v)), (5, .int (nI i)), (4, .int 1), (3, .int (nI mo)), (2, .ref (bd 0)), (1, .ref (ad 0)), (0, .ref b)] [.int (tr + 1)] [xoW ad up 1 (tr + 1), lkW D ad L, alW D e0 (ad 2) hs N, rwW D (ad 3) (ad 10) (ad 11) (ad 12) gf qf.length, rwW D (ad 4) (ad 13) (ad 14) (ad 15) gb qb.length, alW D e0 (ad 5) ht tq.length, dvW da N S om, xoW bd up op tr, lkW D bd L2, alW D e0 (bd 2) hs2 N, rwW D (bd 3) (bd 10) (bd 11) (bd 12) gf2 qf.length, rwW D (bd 4) (bd 13) (bd 14) (bd 15) gb2 qb2.length, alW D e0 (bd 5) ht2 tq.length, dvW db N S2 om2] (k + 1) (n + 6)
    refine x_aload_n B (pc := 351) 8 dL_law_351 rfl rfl ?_
    refine x_iload B (pc := 352) 0 dL_law_352 rfl ?_
    refine x_iconst B (pc := 354) 1 dL_law_354 (by decide) ?_
    refine x_callSX B (pc := 355) (As := [.ref (bd 0), .int 4, .int 1]) (c_goes_begin hl D e0 hup hop) tm470 tm471 tm0 tm472 md_L_goes ⟨Nat.le_of_ble_eq_true rfl, Nat.le_of_ble_eq_true rfl⟩ [7] rfl rfl rfl (Nat.le_of_ble_eq_true rfl) (by show k + 1 + 1 ≤ (619123 : Nat); omega) (by show n + 6 + 6 ≤ (7243813 : Nat); omega) dL_law_355 (fun E hE => False.elim hE) (fun v cs1 hp => ?_)
    rcases hp with ⟨hc2, rfl, rfl⟩ | ⟨hc2, hz2⟩
    · show G 358 [(12, .int 4), (11, .int a9), (10, .int (nI ((j + mo) % 4))), (9, .int (nI j)), (8, .int (nI v)), (5, .int (nI i)), (4, .int 1), (3, .int (nI mo)), (2, .ref (bd 0)), (1, .ref (ad 0)), (0, .ref b)] [.int (tr + 1), .int (tr + 1)] [xoW ad up 1 (tr + 1), lkW D ad L, alW D e0 (ad 2) hs N, rwW D (ad 3) (ad 10) (ad 11) (ad 12) gf qf.length, rwW D (ad 4) (ad 13) (ad 14) (ad 15) gb qb.length, alW D e0 (ad 5) ht tq.length, dvW da N S om, xoW bd up 1 (tr + 1), lkW D bd L2, alW D e0 (bd 2) hs2 N, rwW D (bd 3) (bd 10) (bd 11) (bd 12) gf2 qf.length, rwW D (bd 4) (bd 13) (bd 14) (bd 15) gb2 qb2.length, alW D e0 (bd 5) ht2 tq.length, dvW db N S2 om2] (k + 1 + 1) (n + 6 + 6)
      refine x_icmp_ne B (pc := 358) 365 dL_law_358 (by decide) (fun h358 => absurd rfl h358) (fun h358 => ?_)
      refine x_iconst B (pc := 361) 1 dL_law_361 (by decide) ?_
      refine x_goto B (pc := 362) 366 dL_law_362 (by decide) ?_
      refine x_istore B (pc := 366) [(4, .int 1), (12, .int 4), (11, .int a9), (10, .int (nI ((j + mo) % 4))), (9, .int (nI j)), (8, .int (nI v)), (5, .int (nI i)), (3, .int (nI mo)), (2, .ref (bd 0)), (1, .ref (ad 0)), (0, .ref b)] dL_law_366 (by decide) rfl ?_
      refine x_goto B (pc := 368) 425 dL_law_368 (by decide) ?_
      refine x_lv B [2, 3, 4, 6, 0, 7, 8, 9, 10] [(11, .int a9), (10, .int (nI ((j + mo) % 4))), (9, .int (nI j)), (5, .int (nI i)), (4, .int 1), (3, .int (nI mo)), (2, .ref (bd 0)), (1, .ref (ad 0)), (0, .ref b)] rfl ?_
      refine x_wid B (k + 4) (n + 424) (by omega) (by omega) ?_
      exact K da hs ht gf gb om L S qb db hs2 ht2 gf2 gb2 om2 L2 S2 qb2 N qf up 1 (tr + 1) tq ⟨aInv_more (aInv_begin hI hc) (by omega), aInv_more (aInv_begin hI2 hc2) (by omega), hR, ⟨hok, hot, hq, hqb⟩, ⟨hok2, hot2, hq2, hqb2⟩⟩
    · exact absurd (hCe.trans hc) hc2
  · show G 351 [(12, .int 4), (11, .int a9), (10, .int (nI ((j + mo) % 4))), (9, .int (nI j)), (8, .int (nI v)), (5, .int (nI i)), (4, .int 1), (3, .int (nI mo)), (2, .ref (bd 0)), (1, .ref (ad 0)), (0, .ref b)] [.int (-8)] [xoW ad up op tr, lkW D ad L, alW D e0 (ad 2) hs N, rwW D (ad 3) (ad 10) (ad 11) (ad 12) gf qf.length, rwW D (ad 4) (ad 13) (ad 14) (ad 15) gb qb.length, alW D e0 (ad 5) ht tq.length, dvW da N S om, xoW bd up op tr, lkW D bd L2, alW D e0 (bd 2) hs2 N, rwW D (bd 3) (bd 10) (bd 11) (bd 12) gf2 qf.length, rwW D (bd 4) (bd 13) (bd 14) (bd 15) gb2 qb2.length, alW D e0 (bd 5) ht2 tq.length, dvW db N S2 om2] (k + 1) (n + 6)
    refine x_aload_n B (pc := 351) 8 dL_law_351 rfl rfl ?_
    refine x_iload B (pc := 352) 0 dL_law_352 rfl ?_
    refine x_iconst B (pc := 354) 1 dL_law_354 (by decide) ?_
    refine x_callSX B (pc := 355) (As := [.ref (bd 0), .int 4, .int 1]) (c_goes_begin hl D e0 hup hop) tm470 tm471 tm0 tm472 md_L_goes ⟨Nat.le_of_ble_eq_true rfl, Nat.le_of_ble_eq_true rfl⟩ [7] rfl rfl rfl (Nat.le_of_ble_eq_true rfl) (by show k + 1 + 1 ≤ (619123 : Nat); omega) (by show n + 6 + 6 ≤ (7243813 : Nat); omega) dL_law_355 (fun E hE => False.elim hE) (fun v cs1 hp => ?_)
    rcases hp with ⟨hc2, hz2⟩ | ⟨hc2, rfl, rfl⟩
    · exact absurd (hCe.symm.trans hc2) hc
    · show G 358 [(12, .int 4), (11, .int a9), (10, .int (nI ((j + mo) % 4))), (9, .int (nI j)), (8, .int (nI v)), (5, .int (nI i)), (4, .int 1), (3, .int (nI mo)), (2, .ref (bd 0)), (1, .ref (ad 0)), (0, .ref b)] [.int (-8), .int (-8)] [xoW ad up op tr, lkW D ad L, alW D e0 (ad 2) hs N, rwW D (ad 3) (ad 10) (ad 11) (ad 12) gf qf.length, rwW D (ad 4) (ad 13) (ad 14) (ad 15) gb qb.length, alW D e0 (ad 5) ht tq.length, dvW da N S om, xoW bd up op tr, lkW D bd L2, alW D e0 (bd 2) hs2 N, rwW D (bd 3) (bd 10) (bd 11) (bd 12) gf2 qf.length, rwW D (bd 4) (bd 13) (bd 14) (bd 15) gb2 qb2.length, alW D e0 (bd 5) ht2 tq.length, dvW db N S2 om2] (k + 1 + 1) (n + 6 + 6)
      refine x_icmp_ne B (pc := 358) 365 dL_law_358 (by decide) (fun h358 => absurd rfl h358) (fun h358 => ?_)
      refine x_iconst B (pc := 361) 1 dL_law_361 (by decide) ?_
      refine x_goto B (pc := 362) 366 dL_law_362 (by decide) ?_
      refine x_istore B (pc := 366) [(4, .int 1), (12, .int 4), (11, .int a9), (10, .int (nI ((j + mo) % 4))), (9, .int (nI j)), (8, .int (nI v)), (5, .int (nI i)), (3, .int (nI mo)), (2, .ref (bd 0)), (1, .ref (ad 0)), (0, .ref b)] dL_law_366 (by decide) rfl ?_
      refine x_goto B (pc := 368) 425 dL_law_368 (by decide) ?_
      refine x_lv B [2, 3, 4, 6, 0, 7, 8, 9, 10] [(11, .int a9), (10, .int (nI ((j + mo) % 4))), (9, .int (nI j)), (5, .int (nI i)), (4, .int 1), (3, .int (nI mo)), (2, .ref (bd 0)), (1, .ref (ad 0)), (0, .ref b)] rfl ?_
      refine x_wid B (k + 4) (n + 424) (by omega) (by omega) ?_
      exact K da hs ht gf gb om L S qb db hs2 ht2 gf2 gb2 om2 L2 S2 qb2 N qf up op tr tq ⟨aInv_more hI (by omega), aInv_more hI2 (by omega), hR, ⟨hok, hot, hq, hqb⟩, ⟨hok2, hot2, hq2, hqb2⟩⟩
