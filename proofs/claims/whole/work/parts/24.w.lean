/-! the law's own methods: a call each, its exceptions as numbers -/
theorem cod_ne2 {p r : Bool} (h : cod p true r = 2) : False := by
  cases p <;> cases r <;> exact absurd h (by decide)
theorem cod_ne3 {p q : Bool} (h : cod p q true = 3) : False := by
  cases p <;> cases q <;> exact absurd h (by decide)
set_option maxRecDepth 100000 in
set_option maxHeartbeats 4000000 in
theorem c_L_setMode {l : Launch} (hl : l.stackTraces = false) (D : va_G) (e0 : Nat) {ad : Nat → Nat} {up op tr : Int32} {L : xS} {a b : Int32} {oa : Nat} {f : Nat → Int64}  : xC l yL_setMode (.codeWith yL_setMode cL_setMode 5 (some .int) [(0, 10, 13, 13), (0, 10, 17, 15)]) ({ frames := 8, cells := 1, slots := 6, locals := 127 } : Room) D e0 [.ref (ad 0), .int a, .int b, .ref oa] [xoW ad up op tr, lkW D ad L, [(oa, .inl (D.1 12, 1, .inr (.inl f)))]] (fun w cs => (cod (xinB 0 3 a) (xinB 0 2 b) true = 0 ∧ w = some (.int 0) ∧ cs = [xoW ad up op tr, lkW D ad (xup L 0 (ix a) b), [(oa, .inl (D.1 12, 1, .inr (.inl (vp_updL f 0 ((L 0 (ix a)).toInt64)))))]]) ∨ (cod (xinB 0 3 a) (xinB 0 2 b) true ≠ 0 ∧ w = some (.int (nI (cod (xinB 0 3 a) (xinB 0 2 b) true))) ∧ cs = [xoW ad up op tr, lkW D ad L, [(oa, .inl (D.1 12, 1, .inr (.inl f)))]])) (fun _ => False) := by
  refine xCw_of hl (by decide +kernel) (Nat.le_of_ble_eq_true rfl) (fun G X F => ?_)
  have B : xB l D e0 "CreditLinksLaw" cL_setMode 5 (some .int) [(0, 10, 13, 13), (0, 10, 17, 15)] _ G X := F.base
  show G 0 [(0, .ref (ad 0)), (1, .int a), (2, .int b), (3, .ref oa)] [] [xoW ad up op tr, lkW D ad L, [(oa, .inl (D.1 12, 1, .inr (.inl f)))]] 0 0
  refine x_aload_n B (pc := 0) 3 dL_setMode_0 rfl rfl ?_
  refine x_iconst B (pc := 1) 0 dL_setMode_1 (by decide) ?_
  refine x_val B (y := nI 0) rfl ?_
  refine x_aload_n B (pc := 2) 0 dL_setMode_2 rfl rfl ?_
  refine x_iload_n B (pc := 3) 1 dL_setMode_3 rfl rfl ?_
  refine x_iload_n B (pc := 4) 2 dL_setMode_4 rfl rfl ?_
  have hkx : ∀ E, xpo (cod (xinB 0 3 a) (xinB 0 2 b) true) xIOB xIAE xISE E → X E 5 [(0, .ref (ad 0)), (1, .int a), (2, .int b), (3, .ref oa)] [xoW ad up op tr, lkW D ad L, [(oa, .inl (D.1 12, 1, .inr (.inl f)))]] 1 6 := by
    intro E hE
    rcases hE with ⟨hc, rfl⟩ | ⟨hc, rfl⟩ | ⟨hc, rfl⟩
    · refine x_catch B [] ⟨0, 10, 13, 13⟩ [⟨0, 10, 17, 15⟩] rfl (fun z hz => nomatch hz) (by decide) (by decide) tm176 (by decide +kernel) (fun q => ?_)
      show G 13 [(0, .ref (ad 0)), (1, .int a), (2, .int b), (3, .ref oa)] [.ref q] [xoW ad up op tr, lkW D ad L, [(oa, .inl (D.1 12, 1, .inr (.inl f)))]] 1 6
      refine x_astore B (pc := 13) [(4, .ref q), (0, .ref (ad 0)), (1, .int a), (2, .int b), (3, .ref oa)] dL_setMode_13 (by decide) rfl ?_
      refine x_iconst B (pc := 15) 1 dL_setMode_15 (by decide) ?_
      exact x_iret F (pc := 16) rfl dL_setMode_16 (Or.inr ⟨by rw [hc]; decide, by rw [hc]; rfl, rfl⟩) (Nat.le_of_ble_eq_true rfl) (Nat.le_of_ble_eq_true rfl)
    · refine x_catch B [⟨0, 10, 13, 13⟩] ⟨0, 10, 17, 15⟩ [] rfl (List.forall_mem_cons.mpr ⟨⟨by decide, _, tm176, by decide +kernel⟩, (fun z hz => nomatch hz)⟩) (by decide) (by decide) tm177 (by decide +kernel) (fun q => ?_)
      show G 17 [(0, .ref (ad 0)), (1, .int a), (2, .int b), (3, .ref oa)] [.ref q] [xoW ad up op tr, lkW D ad L, [(oa, .inl (D.1 12, 1, .inr (.inl f)))]] 1 6
      refine x_astore B (pc := 17) [(4, .ref q), (0, .ref (ad 0)), (1, .int a), (2, .int b), (3, .ref oa)] dL_setMode_17 (by decide) rfl ?_
      refine x_iconst B (pc := 19) 2 dL_setMode_19 (by decide) ?_
      exact x_iret F (pc := 20) rfl dL_setMode_20 (Or.inr ⟨by rw [hc]; decide, by rw [hc]; rfl, rfl⟩) (Nat.le_of_ble_eq_true rfl) (Nat.le_of_ble_eq_true rfl)
    · exact (cod_ne3 hc).elim
  refine x_callV B (pc := 5) (As := [.int a, .int b]) (c_X3_setMode hl D e0 ) xcl_X rfl 0 0 rfl rfl tm178 tm179 tm180 tm1 tm181 md_X3_setMode ⟨Nat.le_of_ble_eq_true rfl, Nat.le_of_ble_eq_true rfl⟩ [0, 1] rfl rfl rfl (Nat.le_of_ble_eq_true rfl) (Nat.le_of_ble_eq_true rfl) (Nat.le_of_ble_eq_true rfl) dL_setMode_5 (fun E hE => hkx E hE) (fun v cs1 hp => ?_)
  obtain ⟨hc, rfl, rfl⟩ := hp
  show G 8 [(0, .ref (ad 0)), (1, .int a), (2, .int b), (3, .ref oa)] [.int (L 0 (ix a)), .int (nI 0), .ref oa] [xoW ad up op tr, lkW D ad (xup L 0 (ix a) b), [(oa, .inl (D.1 12, 1, .inr (.inl f)))]] 1 6
  refine x_i2l B (pc := 8) dL_setMode_8 ?_
  refine x_lastN B (pc := 9) 0 2 0 [xoW ad up op tr, lkW D ad (xup L 0 (ix a) b), [(oa, .inl (D.1 12, 1, .inr (.inl (vp_updL f 0 ((L 0 (ix a)).toInt64)))))]] (by decide) (by decide) rfl rfl rfl rfl dL_setMode_9 ?_
  refine x_goto B (pc := 10) 21 dL_setMode_10 (by decide) ?_
  refine x_iconst B (pc := 21) 0 dL_setMode_21 (by decide) ?_
  exact x_iret F (pc := 22) rfl dL_setMode_22 (Or.inl ⟨hc, rfl, rfl⟩) (Nat.le_of_ble_eq_true rfl) (Nat.le_of_ble_eq_true rfl)

set_option maxRecDepth 100000 in
set_option maxHeartbeats 4000000 in
theorem c_L_grant {l : Launch} (hl : l.stackTraces = false) (D : va_G) (e0 : Nat) {ad : Nat → Nat} {up op tr : Int32} {L : xS} {gb : xRg} {qb : List xFr} {a b : Int32} {oa : Nat} {f : Nat → Int64} (hup : up = 0 ∨ up = 1) (hq : rwOk qb gb) (hql : qb.length < 512) : xC l yL_grant (.codeWith yL_grant cL_grant 5 (some .int) [(0, 10, 13, 13), (0, 10, 17, 15), (0, 10, 21, 20)]) ({ frames := 8, cells := 1, slots := 6, locals := 127 } : Room) D e0 [.ref (ad 0), .int a, .int b, .ref oa] [xoW ad up op tr, lkW D ad L, rwW D (ad 4) (ad 13) (ad 14) (ad 15) gb qb.length, [(oa, .inl (D.1 12, 1, .inr (.inl f)))]] (fun w cs => (cod (xinB 0 3 a) (xinB 0 15 b) (decide (up = 1)) = 0 ∧ w = some (.int 0) ∧ ∃ g1, rwOk (qb ++ [(3, ix a, ix (grV L a b))]) g1 ∧ cs = [xoW ad up op tr, lkW D ad L, rwW D (ad 4) (ad 13) (ad 14) (ad 15) g1 ((qb ++ [(3, ix a, ix (grV L a b))]).length), [(oa, .inl (D.1 12, 1, .inr (.inl (vp_updL f 0 ((grV L a b).toInt64)))))]]) ∨ (cod (xinB 0 3 a) (xinB 0 15 b) (decide (up = 1)) ≠ 0 ∧ w = some (.int (nI (cod (xinB 0 3 a) (xinB 0 15 b) (decide (up = 1))))) ∧ cs = [xoW ad up op tr, lkW D ad L, rwW D (ad 4) (ad 13) (ad 14) (ad 15) gb qb.length, [(oa, .inl (D.1 12, 1, .inr (.inl f)))]])) (fun _ => False) := by
  refine xCw_of hl (by decide +kernel) (Nat.le_of_ble_eq_true rfl) (fun G X F => ?_)
  have B : xB l D e0 "CreditLinksLaw" cL_grant 5 (some .int) [(0, 10, 13, 13), (0, 10, 17, 15), (0, 10, 21, 20)] _ G X := F.base
  show G 0 [(0, .ref (ad 0)), (1, .int a), (2, .int b), (3, .ref oa)] [] [xoW ad up op tr, lkW D ad L, rwW D (ad 4) (ad 13) (ad 14) (ad 15) gb qb.length, [(oa, .inl (D.1 12, 1, .inr (.inl f)))]] 0 0
  refine x_aload_n B (pc := 0) 3 dL_grant_0 rfl rfl ?_
  refine x_iconst B (pc := 1) 0 dL_grant_1 (by decide) ?_
  refine x_val B (y := nI 0) rfl ?_
  refine x_aload_n B (pc := 2) 0 dL_grant_2 rfl rfl ?_
  refine x_iload_n B (pc := 3) 1 dL_grant_3 rfl rfl ?_
  refine x_iload_n B (pc := 4) 2 dL_grant_4 rfl rfl ?_
  have hkx : ∀ E, xpo (cod (xinB 0 3 a) (xinB 0 15 b) (decide (up = 1))) xIOB xIAE xISE E → X E 5 [(0, .ref (ad 0)), (1, .int a), (2, .int b), (3, .ref oa)] [xoW ad up op tr, lkW D ad L, rwW D (ad 4) (ad 13) (ad 14) (ad 15) gb qb.length, [(oa, .inl (D.1 12, 1, .inr (.inl f)))]] 1 6 := by
    intro E hE
    rcases hE with ⟨hc, rfl⟩ | ⟨hc, rfl⟩ | ⟨hc, rfl⟩
    · refine x_catch B [] ⟨0, 10, 13, 13⟩ [⟨0, 10, 17, 15⟩, ⟨0, 10, 21, 20⟩] rfl (fun z hz => nomatch hz) (by decide) (by decide) tm176 (by decide +kernel) (fun q => ?_)
      show G 13 [(0, .ref (ad 0)), (1, .int a), (2, .int b), (3, .ref oa)] [.ref q] [xoW ad up op tr, lkW D ad L, rwW D (ad 4) (ad 13) (ad 14) (ad 15) gb qb.length, [(oa, .inl (D.1 12, 1, .inr (.inl f)))]] 1 6
      refine x_astore B (pc := 13) [(4, .ref q), (0, .ref (ad 0)), (1, .int a), (2, .int b), (3, .ref oa)] dL_grant_13 (by decide) rfl ?_
      refine x_iconst B (pc := 15) 1 dL_grant_15 (by decide) ?_
      exact x_iret F (pc := 16) rfl dL_grant_16 (Or.inr ⟨by rw [hc]; decide, by rw [hc]; rfl, rfl⟩) (Nat.le_of_ble_eq_true rfl) (Nat.le_of_ble_eq_true rfl)
    · refine x_catch B [⟨0, 10, 13, 13⟩] ⟨0, 10, 17, 15⟩ [⟨0, 10, 21, 20⟩] rfl (List.forall_mem_cons.mpr ⟨⟨by decide, _, tm176, by decide +kernel⟩, (fun z hz => nomatch hz)⟩) (by decide) (by decide) tm177 (by decide +kernel) (fun q => ?_)
      show G 17 [(0, .ref (ad 0)), (1, .int a), (2, .int b), (3, .ref oa)] [.ref q] [xoW ad up op tr, lkW D ad L, rwW D (ad 4) (ad 13) (ad 14) (ad 15) gb qb.length, [(oa, .inl (D.1 12, 1, .inr (.inl f)))]] 1 6
      refine x_astore B (pc := 17) [(4, .ref q), (0, .ref (ad 0)), (1, .int a), (2, .int b), (3, .ref oa)] dL_grant_17 (by decide) rfl ?_
      refine x_iconst B (pc := 19) 2 dL_grant_19 (by decide) ?_
      exact x_iret F (pc := 20) rfl dL_grant_20 (Or.inr ⟨by rw [hc]; decide, by rw [hc]; rfl, rfl⟩) (Nat.le_of_ble_eq_true rfl) (Nat.le_of_ble_eq_true rfl)
    · refine x_catch B [⟨0, 10, 13, 13⟩, ⟨0, 10, 17, 15⟩] ⟨0, 10, 21, 20⟩ [] rfl (List.forall_mem_cons.mpr ⟨⟨by decide, _, tm176, by decide +kernel⟩, (List.forall_mem_cons.mpr ⟨⟨by decide, _, tm177, by decide +kernel⟩, (fun z hz => nomatch hz)⟩)⟩) (by decide) (by decide) tm273 (by decide +kernel) (fun q => ?_)
      show G 21 [(0, .ref (ad 0)), (1, .int a), (2, .int b), (3, .ref oa)] [.ref q] [xoW ad up op tr, lkW D ad L, rwW D (ad 4) (ad 13) (ad 14) (ad 15) gb qb.length, [(oa, .inl (D.1 12, 1, .inr (.inl f)))]] 1 6
      refine x_astore B (pc := 21) [(4, .ref q), (0, .ref (ad 0)), (1, .int a), (2, .int b), (3, .ref oa)] dL_grant_21 (by decide) rfl ?_
      refine x_iconst B (pc := 23) 3 dL_grant_23 (by decide) ?_
      exact x_iret F (pc := 24) rfl dL_grant_24 (Or.inr ⟨by rw [hc]; decide, by rw [hc]; rfl, rfl⟩) (Nat.le_of_ble_eq_true rfl) (Nat.le_of_ble_eq_true rfl)
  refine x_callV B (pc := 5) (As := [.int a, .int b]) (c_X3_grant hl D e0 hup hq hql) xcl_X rfl 0 0 rfl rfl tm274 tm275 tm276 tm1 tm277 md_X3_grant ⟨Nat.le_of_ble_eq_true rfl, Nat.le_of_ble_eq_true rfl⟩ [0, 1, 2] rfl rfl rfl (Nat.le_of_ble_eq_true rfl) (Nat.le_of_ble_eq_true rfl) (Nat.le_of_ble_eq_true rfl) dL_grant_5 (fun E hE => hkx E hE) (fun v cs1 hp => ?_)
  obtain ⟨hc, rfl, g1, hf0, rfl⟩ := hp
  show G 8 [(0, .ref (ad 0)), (1, .int a), (2, .int b), (3, .ref oa)] [.int (grV L a b), .int (nI 0), .ref oa] [xoW ad up op tr, lkW D ad L, rwW D (ad 4) (ad 13) (ad 14) (ad 15) g1 ((qb ++ [(3, ix a, ix (grV L a b))]).length), [(oa, .inl (D.1 12, 1, .inr (.inl f)))]] 1 6
  refine x_i2l B (pc := 8) dL_grant_8 ?_
  refine x_lastN B (pc := 9) 0 3 0 [xoW ad up op tr, lkW D ad L, rwW D (ad 4) (ad 13) (ad 14) (ad 15) g1 ((qb ++ [(3, ix a, ix (grV L a b))]).length), [(oa, .inl (D.1 12, 1, .inr (.inl (vp_updL f 0 ((grV L a b).toInt64)))))]] (by decide) (by decide) rfl rfl rfl rfl dL_grant_9 ?_
  refine x_goto B (pc := 10) 25 dL_grant_10 (by decide) ?_
  refine x_iconst B (pc := 25) 0 dL_grant_25 (by decide) ?_
  exact x_iret F (pc := 26) rfl dL_grant_26 (Or.inl ⟨hc, rfl, g1, hf0, rfl⟩) (Nat.le_of_ble_eq_true rfl) (Nat.le_of_ble_eq_true rfl)

set_option maxRecDepth 100000 in
set_option maxHeartbeats 4000000 in
theorem c_L_credit {l : Launch} (hl : l.stackTraces = false) (D : va_G) (e0 : Nat) {ad : Nat → Nat} {up op tr : Int32} {L : xS} {a : Int32} {oa : Nat} {f : Nat → Int64}  : xC l yL_credit (.codeWith yL_credit cL_credit 4 (some .int) [(0, 9, 12, 13)]) ({ frames := 8, cells := 1, slots := 6, locals := 124 } : Room) D e0 [.ref (ad 0), .int a, .ref oa] [xoW ad up op tr, lkW D ad L, [(oa, .inl (D.1 12, 1, .inr (.inl f)))]] (fun w cs => (cod (xinB 0 3 a) true true = 0 ∧ w = some (.int 0) ∧ cs = [xoW ad up op tr, lkW D ad L, [(oa, .inl (D.1 12, 1, .inr (.inl (vp_updL f 0 ((crd L (ix a)).toInt64)))))]]) ∨ (cod (xinB 0 3 a) true true ≠ 0 ∧ w = some (.int (nI (cod (xinB 0 3 a) true true))) ∧ cs = [xoW ad up op tr, lkW D ad L, [(oa, .inl (D.1 12, 1, .inr (.inl f)))]])) (fun _ => False) := by
  refine xCw_of hl (by decide +kernel) (Nat.le_of_ble_eq_true rfl) (fun G X F => ?_)
  have B : xB l D e0 "CreditLinksLaw" cL_credit 4 (some .int) [(0, 9, 12, 13)] _ G X := F.base
  show G 0 [(0, .ref (ad 0)), (1, .int a), (2, .ref oa)] [] [xoW ad up op tr, lkW D ad L, [(oa, .inl (D.1 12, 1, .inr (.inl f)))]] 0 0
  refine x_aload_n B (pc := 0) 2 dL_credit_0 rfl rfl ?_
  refine x_iconst B (pc := 1) 0 dL_credit_1 (by decide) ?_
  refine x_val B (y := nI 0) rfl ?_
  refine x_aload_n B (pc := 2) 0 dL_credit_2 rfl rfl ?_
  refine x_iload_n B (pc := 3) 1 dL_credit_3 rfl rfl ?_
  have hkx : ∀ E, xpo (cod (xinB 0 3 a) true true) xIOB xIAE xISE E → X E 4 [(0, .ref (ad 0)), (1, .int a), (2, .ref oa)] [xoW ad up op tr, lkW D ad L, [(oa, .inl (D.1 12, 1, .inr (.inl f)))]] 1 6 := by
    intro E hE
    rcases hE with ⟨hc, rfl⟩ | ⟨hc, rfl⟩ | ⟨hc, rfl⟩
    · refine x_catch B [] ⟨0, 9, 12, 13⟩ [] rfl (fun z hz => nomatch hz) (by decide) (by decide) tm176 (by decide +kernel) (fun q => ?_)
      show G 12 [(0, .ref (ad 0)), (1, .int a), (2, .ref oa)] [.ref q] [xoW ad up op tr, lkW D ad L, [(oa, .inl (D.1 12, 1, .inr (.inl f)))]] 1 6
      refine x_astore_n B (pc := 12) [(3, .ref q), (0, .ref (ad 0)), (1, .int a), (2, .ref oa)] dL_credit_12 rfl (by decide) rfl ?_
      refine x_iconst B (pc := 13) 1 dL_credit_13 (by decide) ?_
      exact x_iret F (pc := 14) rfl dL_credit_14 (Or.inr ⟨by rw [hc]; decide, by rw [hc]; rfl, rfl⟩) (Nat.le_of_ble_eq_true rfl) (Nat.le_of_ble_eq_true rfl)
    · exact (cod_ne2 hc).elim
    · exact (cod_ne3 hc).elim
  refine x_callV B (pc := 4) (As := [.int a]) (c_X3_credit hl D e0 ) xcl_X rfl 0 0 rfl rfl tm312 tm313 tm314 tm1 tm315 md_X3_credit ⟨Nat.le_of_ble_eq_true rfl, Nat.le_of_ble_eq_true rfl⟩ [0, 1] rfl rfl rfl (Nat.le_of_ble_eq_true rfl) (Nat.le_of_ble_eq_true rfl) (Nat.le_of_ble_eq_true rfl) dL_credit_4 (fun E hE => hkx E hE) (fun v cs1 hp => ?_)
  obtain ⟨hc, rfl, rfl⟩ := hp
  show G 7 [(0, .ref (ad 0)), (1, .int a), (2, .ref oa)] [.int (crd L (ix a)), .int (nI 0), .ref oa] [xoW ad up op tr, lkW D ad L, [(oa, .inl (D.1 12, 1, .inr (.inl f)))]] 1 6
  refine x_i2l B (pc := 7) dL_credit_7 ?_
  refine x_lastN B (pc := 8) 0 2 0 [xoW ad up op tr, lkW D ad L, [(oa, .inl (D.1 12, 1, .inr (.inl (vp_updL f 0 ((crd L (ix a)).toInt64)))))]] (by decide) (by decide) rfl rfl rfl rfl dL_credit_8 ?_
  refine x_goto B (pc := 9) 15 dL_credit_9 (by decide) ?_
  refine x_iconst B (pc := 15) 0 dL_credit_15 (by decide) ?_
  exact x_iret F (pc := 16) rfl dL_credit_16 (Or.inl ⟨hc, rfl, rfl⟩) (Nat.le_of_ble_eq_true rfl) (Nat.le_of_ble_eq_true rfl)

set_option maxRecDepth 100000 in
set_option maxHeartbeats 4000000 in
theorem c_L_send {l : Launch} (hl : l.stackTraces = false) (D : va_G) (e0 : Nat) {ad : Nat → Nat} {up op tr : Int32} {L : xS} {hs : xAg} {N : Nat} {gf : xRg} {qf : List xFr} {da : Nat → Nat} {S : xS} {om : Nat → Int32} {a b : Int32} {oa : Nat} {f : Nat → Int64} (hup : up = 0 ∨ up = 1) (hok : alOk hs N da) (hN : N ≤ 60) (hq : rwOk qf gf) (hql : qf.length + 4 ≤ 512) (hz : S 9 N = 0 ∧ S 10 N = 0 ∧ S 11 N = 0 ∧ S 13 N = 0) : xC l yL_send (.codeWith yL_send cL_send 5 (some .int) [(0, 10, 13, 13), (0, 10, 17, 15), (0, 10, 21, 20)]) ({ frames := 8, cells := 2, slots := 212, locals := 185 } : Room) D e0 [.ref (ad 0), .int a, .int b, .ref oa] [xoW ad up op tr, lkW D ad L, alW D e0 (ad 2) hs N, rwW D (ad 3) (ad 10) (ad 11) (ad 12) gf qf.length, dvW da N S om, [(oa, .inl (D.1 12, 1, .inr (.inl f)))]] (fun w cs => (cod (xinB 0 3 a) (xinB 1 4 b) (decide (up = 1) && (decide (N < 60) && !decide (crd L (ix a) = 0))) = 0 ∧ w = some (.int 0) ∧ ∃ h1 g1 da1, alOk h1 (N + 1) da1 ∧ (∀ i, i < N → da1 i = da i) ∧ rwOk (qf ++ pts 0 N (ix b)) g1 ∧ cs = [xoW ad up op tr, lkW D ad (xup L 1 (ix a) ((L 1 (ix a) + 1) &&& 15)), alW D e0 (ad 2) h1 (N + 1), rwW D (ad 3) (ad 10) (ad 11) (ad 12) g1 ((qf ++ pts 0 N (ix b)).length), dvW da1 (N + 1) (sendS L S N a b) (upd om N (-1)), [(oa, .inl (D.1 12, 1, .inr (.inl (vp_updL f 0 ((nI N).toInt64)))))]]) ∨ (cod (xinB 0 3 a) (xinB 1 4 b) (decide (up = 1) && (decide (N < 60) && !decide (crd L (ix a) = 0))) ≠ 0 ∧ w = some (.int (nI (cod (xinB 0 3 a) (xinB 1 4 b) (decide (up = 1) && (decide (N < 60) && !decide (crd L (ix a) = 0)))))) ∧ cs = [xoW ad up op tr, lkW D ad L, alW D e0 (ad 2) hs N, rwW D (ad 3) (ad 10) (ad 11) (ad 12) gf qf.length, dvW da N S om, [(oa, .inl (D.1 12, 1, .inr (.inl f)))]])) (fun _ => False) := by
  refine xCw_of hl (by decide +kernel) (Nat.le_of_ble_eq_true rfl) (fun G X F => ?_)
  have B : xB l D e0 "CreditLinksLaw" cL_send 5 (some .int) [(0, 10, 13, 13), (0, 10, 17, 15), (0, 10, 21, 20)] _ G X := F.base
  show G 0 [(0, .ref (ad 0)), (1, .int a), (2, .int b), (3, .ref oa)] [] [xoW ad up op tr, lkW D ad L, alW D e0 (ad 2) hs N, rwW D (ad 3) (ad 10) (ad 11) (ad 12) gf qf.length, dvW da N S om, [(oa, .inl (D.1 12, 1, .inr (.inl f)))]] 0 0
  refine x_aload_n B (pc := 0) 3 dL_send_0 rfl rfl ?_
  refine x_iconst B (pc := 1) 0 dL_send_1 (by decide) ?_
  refine x_val B (y := nI 0) rfl ?_
  refine x_aload_n B (pc := 2) 0 dL_send_2 rfl rfl ?_
  refine x_iload_n B (pc := 3) 1 dL_send_3 rfl rfl ?_
  refine x_iload_n B (pc := 4) 2 dL_send_4 rfl rfl ?_
  have hkx : ∀ E, xpo (cod (xinB 0 3 a) (xinB 1 4 b) (decide (up = 1) && (decide (N < 60) && !decide (crd L (ix a) = 0)))) xIOB xIAE xISE E → X E 5 [(0, .ref (ad 0)), (1, .int a), (2, .int b), (3, .ref oa)] [xoW ad up op tr, lkW D ad L, alW D e0 (ad 2) hs N, rwW D (ad 3) (ad 10) (ad 11) (ad 12) gf qf.length, dvW da N S om, [(oa, .inl (D.1 12, 1, .inr (.inl f)))]] 2 212 := by
    intro E hE
    rcases hE with ⟨hc, rfl⟩ | ⟨hc, rfl⟩ | ⟨hc, rfl⟩
    · refine x_catch B [] ⟨0, 10, 13, 13⟩ [⟨0, 10, 17, 15⟩, ⟨0, 10, 21, 20⟩] rfl (fun z hz => nomatch hz) (by decide) (by decide) tm176 (by decide +kernel) (fun q => ?_)
      show G 13 [(0, .ref (ad 0)), (1, .int a), (2, .int b), (3, .ref oa)] [.ref q] [xoW ad up op tr, lkW D ad L, alW D e0 (ad 2) hs N, rwW D (ad 3) (ad 10) (ad 11) (ad 12) gf qf.length, dvW da N S om, [(oa, .inl (D.1 12, 1, .inr (.inl f)))]] 2 212
      refine x_astore B (pc := 13) [(4, .ref q), (0, .ref (ad 0)), (1, .int a), (2, .int b), (3, .ref oa)] dL_send_13 (by decide) rfl ?_
      refine x_iconst B (pc := 15) 1 dL_send_15 (by decide) ?_
      exact x_iret F (pc := 16) rfl dL_send_16 (Or.inr ⟨by rw [hc]; decide, by rw [hc]; rfl, rfl⟩) (Nat.le_of_ble_eq_true rfl) (Nat.le_of_ble_eq_true rfl)
    · refine x_catch B [⟨0, 10, 13, 13⟩] ⟨0, 10, 17, 15⟩ [⟨0, 10, 21, 20⟩] rfl (List.forall_mem_cons.mpr ⟨⟨by decide, _, tm176, by decide +kernel⟩, (fun z hz => nomatch hz)⟩) (by decide) (by decide) tm177 (by decide +kernel) (fun q => ?_)
      show G 17 [(0, .ref (ad 0)), (1, .int a), (2, .int b), (3, .ref oa)] [.ref q] [xoW ad up op tr, lkW D ad L, alW D e0 (ad 2) hs N, rwW D (ad 3) (ad 10) (ad 11) (ad 12) gf qf.length, dvW da N S om, [(oa, .inl (D.1 12, 1, .inr (.inl f)))]] 2 212
      refine x_astore B (pc := 17) [(4, .ref q), (0, .ref (ad 0)), (1, .int a), (2, .int b), (3, .ref oa)] dL_send_17 (by decide) rfl ?_
      refine x_iconst B (pc := 19) 2 dL_send_19 (by decide) ?_
      exact x_iret F (pc := 20) rfl dL_send_20 (Or.inr ⟨by rw [hc]; decide, by rw [hc]; rfl, rfl⟩) (Nat.le_of_ble_eq_true rfl) (Nat.le_of_ble_eq_true rfl)
    · refine x_catch B [⟨0, 10, 13, 13⟩, ⟨0, 10, 17, 15⟩] ⟨0, 10, 21, 20⟩ [] rfl (List.forall_mem_cons.mpr ⟨⟨by decide, _, tm176, by decide +kernel⟩, (List.forall_mem_cons.mpr ⟨⟨by decide, _, tm177, by decide +kernel⟩, (fun z hz => nomatch hz)⟩)⟩) (by decide) (by decide) tm273 (by decide +kernel) (fun q => ?_)
      show G 21 [(0, .ref (ad 0)), (1, .int a), (2, .int b), (3, .ref oa)] [.ref q] [xoW ad up op tr, lkW D ad L, alW D e0 (ad 2) hs N, rwW D (ad 3) (ad 10) (ad 11) (ad 12) gf qf.length, dvW da N S om, [(oa, .inl (D.1 12, 1, .inr (.inl f)))]] 2 212
      refine x_astore B (pc := 21) [(4, .ref q), (0, .ref (ad 0)), (1, .int a), (2, .int b), (3, .ref oa)] dL_send_21 (by decide) rfl ?_
      refine x_iconst B (pc := 23) 3 dL_send_23 (by decide) ?_
      exact x_iret F (pc := 24) rfl dL_send_24 (Or.inr ⟨by rw [hc]; decide, by rw [hc]; rfl, rfl⟩) (Nat.le_of_ble_eq_true rfl) (Nat.le_of_ble_eq_true rfl)
  refine x_callV B (pc := 5) (As := [.int a, .int b]) (c_X3_send hl D e0 hup hok hN hq hql hz) xcl_X rfl 0 0 rfl rfl tm324 tm325 tm326 tm1 tm327 md_X3_send ⟨Nat.le_of_ble_eq_true rfl, Nat.le_of_ble_eq_true rfl⟩ [0, 1, 2, 3, 4] rfl rfl rfl (Nat.le_of_ble_eq_true rfl) (Nat.le_of_ble_eq_true rfl) (Nat.le_of_ble_eq_true rfl) dL_send_5 (fun E hE => hkx E hE) (fun v cs1 hp => ?_)
  obtain ⟨hc, rfl, h1, g1, da1, hf0, hf1, hf2, rfl⟩ := hp
  show G 8 [(0, .ref (ad 0)), (1, .int a), (2, .int b), (3, .ref oa)] [.int (nI N), .int (nI 0), .ref oa] [xoW ad up op tr, lkW D ad (xup L 1 (ix a) ((L 1 (ix a) + 1) &&& 15)), alW D e0 (ad 2) h1 (N + 1), rwW D (ad 3) (ad 10) (ad 11) (ad 12) g1 ((qf ++ pts 0 N (ix b)).length), dvW da1 (N + 1) (sendS L S N a b) (upd om N (-1)), [(oa, .inl (D.1 12, 1, .inr (.inl f)))]] 2 212
  refine x_i2l B (pc := 8) dL_send_8 ?_
  refine x_lastN B (pc := 9) 0 5 0 [xoW ad up op tr, lkW D ad (xup L 1 (ix a) ((L 1 (ix a) + 1) &&& 15)), alW D e0 (ad 2) h1 (N + 1), rwW D (ad 3) (ad 10) (ad 11) (ad 12) g1 ((qf ++ pts 0 N (ix b)).length), dvW da1 (N + 1) (sendS L S N a b) (upd om N (-1)), [(oa, .inl (D.1 12, 1, .inr (.inl (vp_updL f 0 ((nI N).toInt64)))))]] (by decide) (by decide) rfl rfl rfl rfl dL_send_9 ?_
  refine x_goto B (pc := 10) 25 dL_send_10 (by decide) ?_
  refine x_iconst B (pc := 25) 0 dL_send_25 (by decide) ?_
  exact x_iret F (pc := 26) rfl dL_send_26 (Or.inl ⟨hc, rfl, h1, g1, da1, hf0, hf1, hf2, rfl⟩) (Nat.le_of_ble_eq_true rfl) (Nat.le_of_ble_eq_true rfl)

set_option maxRecDepth 100000 in
set_option maxHeartbeats 4000000 in
theorem c_L_toReceiver {l : Launch} (hl : l.stackTraces = false) (D : va_G) (e0 : Nat) {ad : Nat → Nat} {up op tr : Int32} {L : xS} {hs : xAg} {N : Nat} {gf : xRg} {qf : List xFr} {da : Nat → Nat} {S : xS} {om : Nat → Int32} {a : Int32} {oa : Nat} {f : Nat → Int64} (hok : alOk hs N da) (hN : N ≤ 60) (hq : rwOk qf gf) (hfr : (∀ x, x ∈ qf → x.1 ≤ 2 ∧ x.2.1 < N ∧ x.2.2 < 4)) (hl4 : ∀ d, d < N → ∃ j, j < 4 ∧ S 4 d = nI j) : xC l yL_toReceiver (.codeWith yL_toReceiver cL_toReceiver 4 (some .int) [(0, 9, 12, 15)]) ({ frames := 8, cells := 1, slots := 6, locals := 131 } : Room) D e0 [.ref (ad 0), .int a, .ref oa] [xoW ad up op tr, lkW D ad L, alW D e0 (ad 2) hs N, rwW D (ad 3) (ad 10) (ad 11) (ad 12) gf qf.length, dvW da N S om, [(oa, .inl (D.1 12, 1, .inr (.inl f)))]] (fun w cs => (cod (xinB 1 100 a) true true = 0 ∧ w = some (.int 0) ∧ ∃ g1, rwOk (rcvN (ix a) L S qf 0).2.2.1 g1 ∧ cs = [xoW ad up op tr, lkW D ad ((rcvN (ix a) L S qf 0).1), alW D e0 (ad 2) hs N, rwW D (ad 3) (ad 10) (ad 11) (ad 12) g1 (((rcvN (ix a) L S qf 0).2.2.1).length), dvW da N ((rcvN (ix a) L S qf 0).2.1) om, [(oa, .inl (D.1 12, 1, .inr (.inl (vp_updL f 0 (((rcvN (ix a) L S qf 0).2.2.2).toInt64)))))]]) ∨ (cod (xinB 1 100 a) true true ≠ 0 ∧ w = some (.int (nI (cod (xinB 1 100 a) true true))) ∧ cs = [xoW ad up op tr, lkW D ad L, alW D e0 (ad 2) hs N, rwW D (ad 3) (ad 10) (ad 11) (ad 12) gf qf.length, dvW da N S om, [(oa, .inl (D.1 12, 1, .inr (.inl f)))]])) (fun _ => False) := by
  refine xCw_of hl (by decide +kernel) (Nat.le_of_ble_eq_true rfl) (fun G X F => ?_)
  have B : xB l D e0 "CreditLinksLaw" cL_toReceiver 4 (some .int) [(0, 9, 12, 15)] _ G X := F.base
  show G 0 [(0, .ref (ad 0)), (1, .int a), (2, .ref oa)] [] [xoW ad up op tr, lkW D ad L, alW D e0 (ad 2) hs N, rwW D (ad 3) (ad 10) (ad 11) (ad 12) gf qf.length, dvW da N S om, [(oa, .inl (D.1 12, 1, .inr (.inl f)))]] 0 0
  refine x_aload_n B (pc := 0) 2 dL_toReceiver_0 rfl rfl ?_
  refine x_iconst B (pc := 1) 0 dL_toReceiver_1 (by decide) ?_
  refine x_val B (y := nI 0) rfl ?_
  refine x_aload_n B (pc := 2) 0 dL_toReceiver_2 rfl rfl ?_
  refine x_iload_n B (pc := 3) 1 dL_toReceiver_3 rfl rfl ?_
  have hkx : ∀ E, xpo (cod (xinB 1 100 a) true true) xIAE xIAE xIAE E → X E 4 [(0, .ref (ad 0)), (1, .int a), (2, .ref oa)] [xoW ad up op tr, lkW D ad L, alW D e0 (ad 2) hs N, rwW D (ad 3) (ad 10) (ad 11) (ad 12) gf qf.length, dvW da N S om, [(oa, .inl (D.1 12, 1, .inr (.inl f)))]] 1 6 := by
    intro E hE
    rcases hE with ⟨hc, rfl⟩ | ⟨hc, rfl⟩ | ⟨hc, rfl⟩
    · refine x_catch B [] ⟨0, 9, 12, 15⟩ [] rfl (fun z hz => nomatch hz) (by decide) (by decide) tm177 (by decide +kernel) (fun q => ?_)
      show G 12 [(0, .ref (ad 0)), (1, .int a), (2, .ref oa)] [.ref q] [xoW ad up op tr, lkW D ad L, alW D e0 (ad 2) hs N, rwW D (ad 3) (ad 10) (ad 11) (ad 12) gf qf.length, dvW da N S om, [(oa, .inl (D.1 12, 1, .inr (.inl f)))]] 1 6
      refine x_astore_n B (pc := 12) [(3, .ref q), (0, .ref (ad 0)), (1, .int a), (2, .ref oa)] dL_toReceiver_12 rfl (by decide) rfl ?_
      refine x_iconst B (pc := 13) 1 dL_toReceiver_13 (by decide) ?_
      exact x_iret F (pc := 14) rfl dL_toReceiver_14 (Or.inr ⟨by rw [hc]; decide, by rw [hc]; rfl, rfl⟩) (Nat.le_of_ble_eq_true rfl) (Nat.le_of_ble_eq_true rfl)
    · exact (cod_ne2 hc).elim
    · exact (cod_ne3 hc).elim
  refine x_callV B (pc := 4) (As := [.int a]) (c_X3_toReceiver hl D e0 hok hN hq hfr hl4) xcl_X rfl 0 0 rfl rfl tm449 tm450 tm451 tm1 tm452 md_X3_toReceiver ⟨Nat.le_of_ble_eq_true rfl, Nat.le_of_ble_eq_true rfl⟩ [0, 1, 2, 3, 4] rfl rfl rfl (Nat.le_of_ble_eq_true rfl) (Nat.le_of_ble_eq_true rfl) (Nat.le_of_ble_eq_true rfl) dL_toReceiver_4 (fun E hE => hkx E hE) (fun v cs1 hp => ?_)
  obtain ⟨hc, rfl, g1, hf0, rfl⟩ := hp
  show G 7 [(0, .ref (ad 0)), (1, .int a), (2, .ref oa)] [.int ((rcvN (ix a) L S qf 0).2.2.2), .int (nI 0), .ref oa] [xoW ad up op tr, lkW D ad ((rcvN (ix a) L S qf 0).1), alW D e0 (ad 2) hs N, rwW D (ad 3) (ad 10) (ad 11) (ad 12) g1 (((rcvN (ix a) L S qf 0).2.2.1).length), dvW da N ((rcvN (ix a) L S qf 0).2.1) om, [(oa, .inl (D.1 12, 1, .inr (.inl f)))]] 1 6
  refine x_i2l B (pc := 7) dL_toReceiver_7 ?_
  refine x_lastN B (pc := 8) 0 5 0 [xoW ad up op tr, lkW D ad ((rcvN (ix a) L S qf 0).1), alW D e0 (ad 2) hs N, rwW D (ad 3) (ad 10) (ad 11) (ad 12) g1 (((rcvN (ix a) L S qf 0).2.2.1).length), dvW da N ((rcvN (ix a) L S qf 0).2.1) om, [(oa, .inl (D.1 12, 1, .inr (.inl (vp_updL f 0 (((rcvN (ix a) L S qf 0).2.2.2).toInt64)))))]] (by decide) (by decide) rfl rfl rfl rfl dL_toReceiver_8 ?_
  refine x_goto B (pc := 9) 15 dL_toReceiver_9 (by decide) ?_
  refine x_iconst B (pc := 15) 0 dL_toReceiver_15 (by decide) ?_
  exact x_iret F (pc := 16) rfl dL_toReceiver_16 (Or.inl ⟨hc, rfl, g1, hf0, rfl⟩) (Nat.le_of_ble_eq_true rfl) (Nat.le_of_ble_eq_true rfl)

set_option maxRecDepth 100000 in
set_option maxHeartbeats 4000000 in
theorem c_L_toSender {l : Launch} (hl : l.stackTraces = false) (D : va_G) (e0 : Nat) {ad : Nat → Nat} {up op tr : Int32} {L : xS} {hs : xAg} {N : Nat} {gf : xRg} {qf : List xFr} {gb : xRg} {qb : List xFr} {da : Nat → Nat} {S : xS} {om : Nat → Int32} {a : Int32} {oa : Nat} {f : Nat → Int64} (hok : alOk hs N da) (hN : N ≤ 60) (hq : rwOk qf gf) (hqb : rwOk qb gb) (hfr : (∀ x, x ∈ qb → (x.1 = 3 ∧ x.2.1 < 4) ∨ (x.1 = 4 ∧ x.2.1 < N))) (hlen : qf.length + outs qb < 512) : xC l yL_toSender (.codeWith yL_toSender cL_toSender 4 (some .int) [(0, 9, 12, 15)]) ({ frames := 8, cells := 1, slots := 6, locals := 132 } : Room) D e0 [.ref (ad 0), .int a, .ref oa] [xoW ad up op tr, lkW D ad L, alW D e0 (ad 2) hs N, rwW D (ad 3) (ad 10) (ad 11) (ad 12) gf qf.length, rwW D (ad 4) (ad 13) (ad 14) (ad 15) gb qb.length, dvW da N S om, [(oa, .inl (D.1 12, 1, .inr (.inl f)))]] (fun w cs => (cod (xinB 1 100 a) true true = 0 ∧ w = some (.int 0) ∧ ∃ g1 g2, rwOk (sndN (ix a) L S qf qb 0).2.2.1 g1 ∧ rwOk (sndN (ix a) L S qf qb 0).2.2.2.1 g2 ∧ cs = [xoW ad up op tr, lkW D ad ((sndN (ix a) L S qf qb 0).1), alW D e0 (ad 2) hs N, rwW D (ad 3) (ad 10) (ad 11) (ad 12) g1 (((sndN (ix a) L S qf qb 0).2.2.1).length), rwW D (ad 4) (ad 13) (ad 14) (ad 15) g2 (((sndN (ix a) L S qf qb 0).2.2.2.1).length), dvW da N ((sndN (ix a) L S qf qb 0).2.1) om, [(oa, .inl (D.1 12, 1, .inr (.inl (vp_updL f 0 (((sndN (ix a) L S qf qb 0).2.2.2.2).toInt64)))))]]) ∨ (cod (xinB 1 100 a) true true ≠ 0 ∧ w = some (.int (nI (cod (xinB 1 100 a) true true))) ∧ cs = [xoW ad up op tr, lkW D ad L, alW D e0 (ad 2) hs N, rwW D (ad 3) (ad 10) (ad 11) (ad 12) gf qf.length, rwW D (ad 4) (ad 13) (ad 14) (ad 15) gb qb.length, dvW da N S om, [(oa, .inl (D.1 12, 1, .inr (.inl f)))]])) (fun _ => False) := by
  refine xCw_of hl (by decide +kernel) (Nat.le_of_ble_eq_true rfl) (fun G X F => ?_)
  have B : xB l D e0 "CreditLinksLaw" cL_toSender 4 (some .int) [(0, 9, 12, 15)] _ G X := F.base
  show G 0 [(0, .ref (ad 0)), (1, .int a), (2, .ref oa)] [] [xoW ad up op tr, lkW D ad L, alW D e0 (ad 2) hs N, rwW D (ad 3) (ad 10) (ad 11) (ad 12) gf qf.length, rwW D (ad 4) (ad 13) (ad 14) (ad 15) gb qb.length, dvW da N S om, [(oa, .inl (D.1 12, 1, .inr (.inl f)))]] 0 0
  refine x_aload_n B (pc := 0) 2 dL_toSender_0 rfl rfl ?_
  refine x_iconst B (pc := 1) 0 dL_toSender_1 (by decide) ?_
  refine x_val B (y := nI 0) rfl ?_
  refine x_aload_n B (pc := 2) 0 dL_toSender_2 rfl rfl ?_
  refine x_iload_n B (pc := 3) 1 dL_toSender_3 rfl rfl ?_
  have hkx : ∀ E, xpo (cod (xinB 1 100 a) true true) xIAE xIAE xIAE E → X E 4 [(0, .ref (ad 0)), (1, .int a), (2, .ref oa)] [xoW ad up op tr, lkW D ad L, alW D e0 (ad 2) hs N, rwW D (ad 3) (ad 10) (ad 11) (ad 12) gf qf.length, rwW D (ad 4) (ad 13) (ad 14) (ad 15) gb qb.length, dvW da N S om, [(oa, .inl (D.1 12, 1, .inr (.inl f)))]] 1 6 := by
    intro E hE
    rcases hE with ⟨hc, rfl⟩ | ⟨hc, rfl⟩ | ⟨hc, rfl⟩
    · refine x_catch B [] ⟨0, 9, 12, 15⟩ [] rfl (fun z hz => nomatch hz) (by decide) (by decide) tm177 (by decide +kernel) (fun q => ?_)
      show G 12 [(0, .ref (ad 0)), (1, .int a), (2, .ref oa)] [.ref q] [xoW ad up op tr, lkW D ad L, alW D e0 (ad 2) hs N, rwW D (ad 3) (ad 10) (ad 11) (ad 12) gf qf.length, rwW D (ad 4) (ad 13) (ad 14) (ad 15) gb qb.length, dvW da N S om, [(oa, .inl (D.1 12, 1, .inr (.inl f)))]] 1 6
      refine x_astore_n B (pc := 12) [(3, .ref q), (0, .ref (ad 0)), (1, .int a), (2, .ref oa)] dL_toSender_12 rfl (by decide) rfl ?_
      refine x_iconst B (pc := 13) 1 dL_toSender_13 (by decide) ?_
      exact x_iret F (pc := 14) rfl dL_toSender_14 (Or.inr ⟨by rw [hc]; decide, by rw [hc]; rfl, rfl⟩) (Nat.le_of_ble_eq_true rfl) (Nat.le_of_ble_eq_true rfl)
    · exact (cod_ne2 hc).elim
    · exact (cod_ne3 hc).elim
  refine x_callV B (pc := 4) (As := [.int a]) (c_X3_toSender hl D e0 hok hN hq hqb hfr hlen) xcl_X rfl 0 0 rfl rfl tm497 tm498 tm499 tm1 tm500 md_X3_toSender ⟨Nat.le_of_ble_eq_true rfl, Nat.le_of_ble_eq_true rfl⟩ [0, 1, 2, 3, 4, 5] rfl rfl rfl (Nat.le_of_ble_eq_true rfl) (Nat.le_of_ble_eq_true rfl) (Nat.le_of_ble_eq_true rfl) dL_toSender_4 (fun E hE => hkx E hE) (fun v cs1 hp => ?_)
  obtain ⟨hc, rfl, g1, g2, hf0, hf1, rfl⟩ := hp
  show G 7 [(0, .ref (ad 0)), (1, .int a), (2, .ref oa)] [.int ((sndN (ix a) L S qf qb 0).2.2.2.2), .int (nI 0), .ref oa] [xoW ad up op tr, lkW D ad ((sndN (ix a) L S qf qb 0).1), alW D e0 (ad 2) hs N, rwW D (ad 3) (ad 10) (ad 11) (ad 12) g1 (((sndN (ix a) L S qf qb 0).2.2.1).length), rwW D (ad 4) (ad 13) (ad 14) (ad 15) g2 (((sndN (ix a) L S qf qb 0).2.2.2.1).length), dvW da N ((sndN (ix a) L S qf qb 0).2.1) om, [(oa, .inl (D.1 12, 1, .inr (.inl f)))]] 1 6
  refine x_i2l B (pc := 7) dL_toSender_7 ?_
  refine x_lastN B (pc := 8) 0 6 0 [xoW ad up op tr, lkW D ad ((sndN (ix a) L S qf qb 0).1), alW D e0 (ad 2) hs N, rwW D (ad 3) (ad 10) (ad 11) (ad 12) g1 (((sndN (ix a) L S qf qb 0).2.2.1).length), rwW D (ad 4) (ad 13) (ad 14) (ad 15) g2 (((sndN (ix a) L S qf qb 0).2.2.2.1).length), dvW da N ((sndN (ix a) L S qf qb 0).2.1) om, [(oa, .inl (D.1 12, 1, .inr (.inl (vp_updL f 0 (((sndN (ix a) L S qf qb 0).2.2.2.2).toInt64)))))]] (by decide) (by decide) rfl rfl rfl rfl dL_toSender_8 ?_
  refine x_goto B (pc := 9) 15 dL_toSender_9 (by decide) ?_
  refine x_iconst B (pc := 15) 0 dL_toSender_15 (by decide) ?_
  exact x_iret F (pc := 16) rfl dL_toSender_16 (Or.inl ⟨hc, rfl, g1, g2, hf0, hf1, rfl⟩) (Nat.le_of_ble_eq_true rfl) (Nat.le_of_ble_eq_true rfl)

set_option maxRecDepth 100000 in
set_option maxHeartbeats 4000000 in
theorem c_L_decide {l : Launch} (hl : l.stackTraces = false) (D : va_G) (e0 : Nat) {ad : Nat → Nat} {up op tr : Int32} {hs : xAg} {N : Nat} {gb : xRg} {qb : List xFr} {da : Nat → Nat} {S : xS} {om : Nat → Int32} {a b : Int32} {oa : Nat} {f : Nat → Int64} (hup : up = 0 ∨ up = 1) (hok : alOk hs N da) (hN : N ≤ 60) (hq : rwOk qb gb) (hql : qb.length < 512) : xC l yL_decide (.codeWith yL_decide cL_decide 5 (some .int) [(0, 10, 13, 13), (0, 10, 17, 15), (0, 10, 21, 20)]) ({ frames := 8, cells := 1, slots := 6, locals := 126 } : Room) D e0 [.ref (ad 0), .int a, .int b, .ref oa] [xoW ad up op tr, alW D e0 (ad 2) hs N, rwW D (ad 4) (ad 13) (ad 14) (ad 15) gb qb.length, dvW da N S om, [(oa, .inl (D.1 12, 1, .inr (.inl f)))]] (fun w cs => (cod (xinD N a) (xinB 0 2 b) (decide (up = 1) && (decide (S 9 (ix a) = 2) && decide (S 14 (ix a) = -1))) = 0 ∧ w = some (.int 0) ∧ ∃ g1, rwOk (aOut S (ix a) (ix b) qb) g1 ∧ cs = [xoW ad up op tr, alW D e0 (ad 2) hs N, rwW D (ad 4) (ad 13) (ad 14) (ad 15) g1 ((aOut S (ix a) (ix b) qb).length), dvW da N (aDec S (ix a) b) (upd om (ix a) b), [(oa, .inl (D.1 12, 1, .inr (.inl (vp_updL f 0 ((aDec S (ix a) b 13 (ix a)).toInt64)))))]]) ∨ (cod (xinD N a) (xinB 0 2 b) (decide (up = 1) && (decide (S 9 (ix a) = 2) && decide (S 14 (ix a) = -1))) ≠ 0 ∧ w = some (.int (nI (cod (xinD N a) (xinB 0 2 b) (decide (up = 1) && (decide (S 9 (ix a) = 2) && decide (S 14 (ix a) = -1)))))) ∧ cs = [xoW ad up op tr, alW D e0 (ad 2) hs N, rwW D (ad 4) (ad 13) (ad 14) (ad 15) gb qb.length, dvW da N S om, [(oa, .inl (D.1 12, 1, .inr (.inl f)))]])) (fun _ => False) := by
  refine xCw_of hl (by decide +kernel) (Nat.le_of_ble_eq_true rfl) (fun G X F => ?_)
  have B : xB l D e0 "CreditLinksLaw" cL_decide 5 (some .int) [(0, 10, 13, 13), (0, 10, 17, 15), (0, 10, 21, 20)] _ G X := F.base
  show G 0 [(0, .ref (ad 0)), (1, .int a), (2, .int b), (3, .ref oa)] [] [xoW ad up op tr, alW D e0 (ad 2) hs N, rwW D (ad 4) (ad 13) (ad 14) (ad 15) gb qb.length, dvW da N S om, [(oa, .inl (D.1 12, 1, .inr (.inl f)))]] 0 0
  refine x_aload_n B (pc := 0) 3 dL_decide_0 rfl rfl ?_
  refine x_iconst B (pc := 1) 0 dL_decide_1 (by decide) ?_
  refine x_val B (y := nI 0) rfl ?_
  refine x_aload_n B (pc := 2) 0 dL_decide_2 rfl rfl ?_
  refine x_iload_n B (pc := 3) 1 dL_decide_3 rfl rfl ?_
  refine x_iload_n B (pc := 4) 2 dL_decide_4 rfl rfl ?_
  have hkx : ∀ E, xpo (cod (xinD N a) (xinB 0 2 b) (decide (up = 1) && (decide (S 9 (ix a) = 2) && decide (S 14 (ix a) = -1)))) xIOB xIAE xISE E → X E 5 [(0, .ref (ad 0)), (1, .int a), (2, .int b), (3, .ref oa)] [xoW ad up op tr, alW D e0 (ad 2) hs N, rwW D (ad 4) (ad 13) (ad 14) (ad 15) gb qb.length, dvW da N S om, [(oa, .inl (D.1 12, 1, .inr (.inl f)))]] 1 6 := by
    intro E hE
    rcases hE with ⟨hc, rfl⟩ | ⟨hc, rfl⟩ | ⟨hc, rfl⟩
    · refine x_catch B [] ⟨0, 10, 13, 13⟩ [⟨0, 10, 17, 15⟩, ⟨0, 10, 21, 20⟩] rfl (fun z hz => nomatch hz) (by decide) (by decide) tm176 (by decide +kernel) (fun q => ?_)
      show G 13 [(0, .ref (ad 0)), (1, .int a), (2, .int b), (3, .ref oa)] [.ref q] [xoW ad up op tr, alW D e0 (ad 2) hs N, rwW D (ad 4) (ad 13) (ad 14) (ad 15) gb qb.length, dvW da N S om, [(oa, .inl (D.1 12, 1, .inr (.inl f)))]] 1 6
      refine x_astore B (pc := 13) [(4, .ref q), (0, .ref (ad 0)), (1, .int a), (2, .int b), (3, .ref oa)] dL_decide_13 (by decide) rfl ?_
      refine x_iconst B (pc := 15) 1 dL_decide_15 (by decide) ?_
      exact x_iret F (pc := 16) rfl dL_decide_16 (Or.inr ⟨by rw [hc]; decide, by rw [hc]; rfl, rfl⟩) (Nat.le_of_ble_eq_true rfl) (Nat.le_of_ble_eq_true rfl)
    · refine x_catch B [⟨0, 10, 13, 13⟩] ⟨0, 10, 17, 15⟩ [⟨0, 10, 21, 20⟩] rfl (List.forall_mem_cons.mpr ⟨⟨by decide, _, tm176, by decide +kernel⟩, (fun z hz => nomatch hz)⟩) (by decide) (by decide) tm177 (by decide +kernel) (fun q => ?_)
      show G 17 [(0, .ref (ad 0)), (1, .int a), (2, .int b), (3, .ref oa)] [.ref q] [xoW ad up op tr, alW D e0 (ad 2) hs N, rwW D (ad 4) (ad 13) (ad 14) (ad 15) gb qb.length, dvW da N S om, [(oa, .inl (D.1 12, 1, .inr (.inl f)))]] 1 6
      refine x_astore B (pc := 17) [(4, .ref q), (0, .ref (ad 0)), (1, .int a), (2, .int b), (3, .ref oa)] dL_decide_17 (by decide) rfl ?_
      refine x_iconst B (pc := 19) 2 dL_decide_19 (by decide) ?_
      exact x_iret F (pc := 20) rfl dL_decide_20 (Or.inr ⟨by rw [hc]; decide, by rw [hc]; rfl, rfl⟩) (Nat.le_of_ble_eq_true rfl) (Nat.le_of_ble_eq_true rfl)
    · refine x_catch B [⟨0, 10, 13, 13⟩, ⟨0, 10, 17, 15⟩] ⟨0, 10, 21, 20⟩ [] rfl (List.forall_mem_cons.mpr ⟨⟨by decide, _, tm176, by decide +kernel⟩, (List.forall_mem_cons.mpr ⟨⟨by decide, _, tm177, by decide +kernel⟩, (fun z hz => nomatch hz)⟩)⟩) (by decide) (by decide) tm273 (by decide +kernel) (fun q => ?_)
      show G 21 [(0, .ref (ad 0)), (1, .int a), (2, .int b), (3, .ref oa)] [.ref q] [xoW ad up op tr, alW D e0 (ad 2) hs N, rwW D (ad 4) (ad 13) (ad 14) (ad 15) gb qb.length, dvW da N S om, [(oa, .inl (D.1 12, 1, .inr (.inl f)))]] 1 6
      refine x_astore B (pc := 21) [(4, .ref q), (0, .ref (ad 0)), (1, .int a), (2, .int b), (3, .ref oa)] dL_decide_21 (by decide) rfl ?_
      refine x_iconst B (pc := 23) 3 dL_decide_23 (by decide) ?_
      exact x_iret F (pc := 24) rfl dL_decide_24 (Or.inr ⟨by rw [hc]; decide, by rw [hc]; rfl, rfl⟩) (Nat.le_of_ble_eq_true rfl) (Nat.le_of_ble_eq_true rfl)
  refine x_callV B (pc := 5) (As := [.int a, .int b]) (c_X3_decide hl D e0 hup hok hN hq hql) xcl_X rfl 0 0 rfl rfl tm512 tm513 tm514 tm1 tm515 md_X3_decide ⟨Nat.le_of_ble_eq_true rfl, Nat.le_of_ble_eq_true rfl⟩ [0, 1, 2, 3] rfl rfl rfl (Nat.le_of_ble_eq_true rfl) (Nat.le_of_ble_eq_true rfl) (Nat.le_of_ble_eq_true rfl) dL_decide_5 (fun E hE => hkx E hE) (fun v cs1 hp => ?_)
  obtain ⟨hc, rfl, g1, hf0, rfl⟩ := hp
  show G 8 [(0, .ref (ad 0)), (1, .int a), (2, .int b), (3, .ref oa)] [.int (aDec S (ix a) b 13 (ix a)), .int (nI 0), .ref oa] [xoW ad up op tr, alW D e0 (ad 2) hs N, rwW D (ad 4) (ad 13) (ad 14) (ad 15) g1 ((aOut S (ix a) (ix b) qb).length), dvW da N (aDec S (ix a) b) (upd om (ix a) b), [(oa, .inl (D.1 12, 1, .inr (.inl f)))]] 1 6
  refine x_i2l B (pc := 8) dL_decide_8 ?_
  refine x_lastN B (pc := 9) 0 4 0 [xoW ad up op tr, alW D e0 (ad 2) hs N, rwW D (ad 4) (ad 13) (ad 14) (ad 15) g1 ((aOut S (ix a) (ix b) qb).length), dvW da N (aDec S (ix a) b) (upd om (ix a) b), [(oa, .inl (D.1 12, 1, .inr (.inl (vp_updL f 0 ((aDec S (ix a) b 13 (ix a)).toInt64)))))]] (by decide) (by decide) rfl rfl rfl rfl dL_decide_9 ?_
  refine x_goto B (pc := 10) 25 dL_decide_10 (by decide) ?_
  refine x_iconst B (pc := 25) 0 dL_decide_25 (by decide) ?_
  exact x_iret F (pc := 26) rfl dL_decide_26 (Or.inl ⟨hc, rfl, g1, hf0, rfl⟩) (Nat.le_of_ble_eq_true rfl) (Nat.le_of_ble_eq_true rfl)

set_option maxRecDepth 100000 in
set_option maxHeartbeats 4000000 in
theorem c_L_forSender {l : Launch} (hl : l.stackTraces = false) (D : va_G) (e0 : Nat) {ad : Nat → Nat} {up op tr : Int32} {hs : xAg} {N : Nat} {da : Nat → Nat} {S : xS} {om : Nat → Int32} {a : Int32} {oa : Nat} {f : Nat → Int64} (hok : alOk hs N da) (hN : N ≤ 60) : xC l yL_forSender (.codeWith yL_forSender cL_forSender 4 (some .int) [(0, 9, 12, 13)]) ({ frames := 8, cells := 1, slots := 6, locals := 124 } : Room) D e0 [.ref (ad 0), .int a, .ref oa] [xoW ad up op tr, alW D e0 (ad 2) hs N, dvW da N S om, [(oa, .inl (D.1 12, 1, .inr (.inl f)))]] (fun w cs => (cod (xinD N a) true true = 0 ∧ w = some (.int 0) ∧ cs = [xoW ad up op tr, alW D e0 (ad 2) hs N, dvW da N S om, [(oa, .inl (D.1 12, 1, .inr (.inl (vp_updL f 0 ((S 7 (ix a)).toInt64)))))]]) ∨ (cod (xinD N a) true true ≠ 0 ∧ w = some (.int (nI (cod (xinD N a) true true))) ∧ cs = [xoW ad up op tr, alW D e0 (ad 2) hs N, dvW da N S om, [(oa, .inl (D.1 12, 1, .inr (.inl f)))]])) (fun _ => False) := by
  refine xCw_of hl (by decide +kernel) (Nat.le_of_ble_eq_true rfl) (fun G X F => ?_)
  have B : xB l D e0 "CreditLinksLaw" cL_forSender 4 (some .int) [(0, 9, 12, 13)] _ G X := F.base
  show G 0 [(0, .ref (ad 0)), (1, .int a), (2, .ref oa)] [] [xoW ad up op tr, alW D e0 (ad 2) hs N, dvW da N S om, [(oa, .inl (D.1 12, 1, .inr (.inl f)))]] 0 0
  refine x_aload_n B (pc := 0) 2 dL_forSender_0 rfl rfl ?_
  refine x_iconst B (pc := 1) 0 dL_forSender_1 (by decide) ?_
  refine x_val B (y := nI 0) rfl ?_
  refine x_aload_n B (pc := 2) 0 dL_forSender_2 rfl rfl ?_
  refine x_iload_n B (pc := 3) 1 dL_forSender_3 rfl rfl ?_
  have hkx : ∀ E, xpo (cod (xinD N a) true true) xIOB xIAE xISE E → X E 4 [(0, .ref (ad 0)), (1, .int a), (2, .ref oa)] [xoW ad up op tr, alW D e0 (ad 2) hs N, dvW da N S om, [(oa, .inl (D.1 12, 1, .inr (.inl f)))]] 1 6 := by
    intro E hE
    rcases hE with ⟨hc, rfl⟩ | ⟨hc, rfl⟩ | ⟨hc, rfl⟩
    · refine x_catch B [] ⟨0, 9, 12, 13⟩ [] rfl (fun z hz => nomatch hz) (by decide) (by decide) tm176 (by decide +kernel) (fun q => ?_)
      show G 12 [(0, .ref (ad 0)), (1, .int a), (2, .ref oa)] [.ref q] [xoW ad up op tr, alW D e0 (ad 2) hs N, dvW da N S om, [(oa, .inl (D.1 12, 1, .inr (.inl f)))]] 1 6
      refine x_astore_n B (pc := 12) [(3, .ref q), (0, .ref (ad 0)), (1, .int a), (2, .ref oa)] dL_forSender_12 rfl (by decide) rfl ?_
      refine x_iconst B (pc := 13) 1 dL_forSender_13 (by decide) ?_
      exact x_iret F (pc := 14) rfl dL_forSender_14 (Or.inr ⟨by rw [hc]; decide, by rw [hc]; rfl, rfl⟩) (Nat.le_of_ble_eq_true rfl) (Nat.le_of_ble_eq_true rfl)
    · exact (cod_ne2 hc).elim
    · exact (cod_ne3 hc).elim
  refine x_callV B (pc := 4) (As := [.int a]) (c_X3_forSender hl D e0 hok hN) xcl_X rfl 0 0 rfl rfl tm536 tm537 tm538 tm1 tm539 md_X3_forSender ⟨Nat.le_of_ble_eq_true rfl, Nat.le_of_ble_eq_true rfl⟩ [0, 1, 2] rfl rfl rfl (Nat.le_of_ble_eq_true rfl) (Nat.le_of_ble_eq_true rfl) (Nat.le_of_ble_eq_true rfl) dL_forSender_4 (fun E hE => hkx E hE) (fun v cs1 hp => ?_)
  obtain ⟨hc, rfl, rfl⟩ := hp
  show G 7 [(0, .ref (ad 0)), (1, .int a), (2, .ref oa)] [.int (S 7 (ix a)), .int (nI 0), .ref oa] [xoW ad up op tr, alW D e0 (ad 2) hs N, dvW da N S om, [(oa, .inl (D.1 12, 1, .inr (.inl f)))]] 1 6
  refine x_i2l B (pc := 7) dL_forSender_7 ?_
  refine x_lastN B (pc := 8) 0 3 0 [xoW ad up op tr, alW D e0 (ad 2) hs N, dvW da N S om, [(oa, .inl (D.1 12, 1, .inr (.inl (vp_updL f 0 ((S 7 (ix a)).toInt64)))))]] (by decide) (by decide) rfl rfl rfl rfl dL_forSender_8 ?_
  refine x_goto B (pc := 9) 15 dL_forSender_9 (by decide) ?_
  refine x_iconst B (pc := 15) 0 dL_forSender_15 (by decide) ?_
  exact x_iret F (pc := 16) rfl dL_forSender_16 (Or.inl ⟨hc, rfl, rfl⟩) (Nat.le_of_ble_eq_true rfl) (Nat.le_of_ble_eq_true rfl)

set_option maxRecDepth 100000 in
set_option maxHeartbeats 4000000 in
theorem c_L_heard {l : Launch} (hl : l.stackTraces = false) (D : va_G) (e0 : Nat) {ad : Nat → Nat} {up op tr : Int32} {hs : xAg} {N : Nat} {da : Nat → Nat} {S : xS} {om : Nat → Int32} {a : Int32} {oa : Nat} {f : Nat → Int64} (hok : alOk hs N da) (hN : N ≤ 60) : xC l yL_heard (.codeWith yL_heard cL_heard 4 (some .int) [(0, 9, 12, 13)]) ({ frames := 8, cells := 1, slots := 6, locals := 124 } : Room) D e0 [.ref (ad 0), .int a, .ref oa] [xoW ad up op tr, alW D e0 (ad 2) hs N, dvW da N S om, [(oa, .inl (D.1 12, 1, .inr (.inl f)))]] (fun w cs => (cod (xinD N a) true true = 0 ∧ w = some (.int 0) ∧ cs = [xoW ad up op tr, alW D e0 (ad 2) hs N, dvW da N S om, [(oa, .inl (D.1 12, 1, .inr (.inl (vp_updL f 0 ((S 8 (ix a)).toInt64)))))]]) ∨ (cod (xinD N a) true true ≠ 0 ∧ w = some (.int (nI (cod (xinD N a) true true))) ∧ cs = [xoW ad up op tr, alW D e0 (ad 2) hs N, dvW da N S om, [(oa, .inl (D.1 12, 1, .inr (.inl f)))]])) (fun _ => False) := by
  refine xCw_of hl (by decide +kernel) (Nat.le_of_ble_eq_true rfl) (fun G X F => ?_)
  have B : xB l D e0 "CreditLinksLaw" cL_heard 4 (some .int) [(0, 9, 12, 13)] _ G X := F.base
  show G 0 [(0, .ref (ad 0)), (1, .int a), (2, .ref oa)] [] [xoW ad up op tr, alW D e0 (ad 2) hs N, dvW da N S om, [(oa, .inl (D.1 12, 1, .inr (.inl f)))]] 0 0
  refine x_aload_n B (pc := 0) 2 dL_heard_0 rfl rfl ?_
  refine x_iconst B (pc := 1) 0 dL_heard_1 (by decide) ?_
  refine x_val B (y := nI 0) rfl ?_
  refine x_aload_n B (pc := 2) 0 dL_heard_2 rfl rfl ?_
  refine x_iload_n B (pc := 3) 1 dL_heard_3 rfl rfl ?_
  have hkx : ∀ E, xpo (cod (xinD N a) true true) xIOB xIAE xISE E → X E 4 [(0, .ref (ad 0)), (1, .int a), (2, .ref oa)] [xoW ad up op tr, alW D e0 (ad 2) hs N, dvW da N S om, [(oa, .inl (D.1 12, 1, .inr (.inl f)))]] 1 6 := by
    intro E hE
    rcases hE with ⟨hc, rfl⟩ | ⟨hc, rfl⟩ | ⟨hc, rfl⟩
    · refine x_catch B [] ⟨0, 9, 12, 13⟩ [] rfl (fun z hz => nomatch hz) (by decide) (by decide) tm176 (by decide +kernel) (fun q => ?_)
      show G 12 [(0, .ref (ad 0)), (1, .int a), (2, .ref oa)] [.ref q] [xoW ad up op tr, alW D e0 (ad 2) hs N, dvW da N S om, [(oa, .inl (D.1 12, 1, .inr (.inl f)))]] 1 6
      refine x_astore_n B (pc := 12) [(3, .ref q), (0, .ref (ad 0)), (1, .int a), (2, .ref oa)] dL_heard_12 rfl (by decide) rfl ?_
      refine x_iconst B (pc := 13) 1 dL_heard_13 (by decide) ?_
      exact x_iret F (pc := 14) rfl dL_heard_14 (Or.inr ⟨by rw [hc]; decide, by rw [hc]; rfl, rfl⟩) (Nat.le_of_ble_eq_true rfl) (Nat.le_of_ble_eq_true rfl)
    · exact (cod_ne2 hc).elim
    · exact (cod_ne3 hc).elim
  refine x_callV B (pc := 4) (As := [.int a]) (c_X3_heard hl D e0 hok hN) xcl_X rfl 0 0 rfl rfl tm543 tm544 tm545 tm1 tm546 md_X3_heard ⟨Nat.le_of_ble_eq_true rfl, Nat.le_of_ble_eq_true rfl⟩ [0, 1, 2] rfl rfl rfl (Nat.le_of_ble_eq_true rfl) (Nat.le_of_ble_eq_true rfl) (Nat.le_of_ble_eq_true rfl) dL_heard_4 (fun E hE => hkx E hE) (fun v cs1 hp => ?_)
  obtain ⟨hc, rfl, rfl⟩ := hp
  show G 7 [(0, .ref (ad 0)), (1, .int a), (2, .ref oa)] [.int (S 8 (ix a)), .int (nI 0), .ref oa] [xoW ad up op tr, alW D e0 (ad 2) hs N, dvW da N S om, [(oa, .inl (D.1 12, 1, .inr (.inl f)))]] 1 6
  refine x_i2l B (pc := 7) dL_heard_7 ?_
  refine x_lastN B (pc := 8) 0 3 0 [xoW ad up op tr, alW D e0 (ad 2) hs N, dvW da N S om, [(oa, .inl (D.1 12, 1, .inr (.inl (vp_updL f 0 ((S 8 (ix a)).toInt64)))))]] (by decide) (by decide) rfl rfl rfl rfl dL_heard_8 ?_
  refine x_goto B (pc := 9) 15 dL_heard_9 (by decide) ?_
  refine x_iconst B (pc := 15) 0 dL_heard_15 (by decide) ?_
  exact x_iret F (pc := 16) rfl dL_heard_16 (Or.inl ⟨hc, rfl, rfl⟩) (Nat.le_of_ble_eq_true rfl) (Nat.le_of_ble_eq_true rfl)

set_option maxRecDepth 100000 in
set_option maxHeartbeats 4000000 in
theorem c_L_forReceiver {l : Launch} (hl : l.stackTraces = false) (D : va_G) (e0 : Nat) {ad : Nat → Nat} {up op tr : Int32} {hs : xAg} {N : Nat} {da : Nat → Nat} {S : xS} {om : Nat → Int32} {a : Int32} {oa : Nat} {f : Nat → Int64} (hok : alOk hs N da) (hN : N ≤ 60) : xC l yL_forReceiver (.codeWith yL_forReceiver cL_forReceiver 4 (some .int) [(0, 9, 12, 13)]) ({ frames := 8, cells := 1, slots := 6, locals := 124 } : Room) D e0 [.ref (ad 0), .int a, .ref oa] [xoW ad up op tr, alW D e0 (ad 2) hs N, dvW da N S om, [(oa, .inl (D.1 12, 1, .inr (.inl f)))]] (fun w cs => (cod (xinD N a) true true = 0 ∧ w = some (.int 0) ∧ cs = [xoW ad up op tr, alW D e0 (ad 2) hs N, dvW da N S om, [(oa, .inl (D.1 12, 1, .inr (.inl (vp_updL f 0 ((S 9 (ix a)).toInt64)))))]]) ∨ (cod (xinD N a) true true ≠ 0 ∧ w = some (.int (nI (cod (xinD N a) true true))) ∧ cs = [xoW ad up op tr, alW D e0 (ad 2) hs N, dvW da N S om, [(oa, .inl (D.1 12, 1, .inr (.inl f)))]])) (fun _ => False) := by
  refine xCw_of hl (by decide +kernel) (Nat.le_of_ble_eq_true rfl) (fun G X F => ?_)
  have B : xB l D e0 "CreditLinksLaw" cL_forReceiver 4 (some .int) [(0, 9, 12, 13)] _ G X := F.base
  show G 0 [(0, .ref (ad 0)), (1, .int a), (2, .ref oa)] [] [xoW ad up op tr, alW D e0 (ad 2) hs N, dvW da N S om, [(oa, .inl (D.1 12, 1, .inr (.inl f)))]] 0 0
  refine x_aload_n B (pc := 0) 2 dL_forReceiver_0 rfl rfl ?_
  refine x_iconst B (pc := 1) 0 dL_forReceiver_1 (by decide) ?_
  refine x_val B (y := nI 0) rfl ?_
  refine x_aload_n B (pc := 2) 0 dL_forReceiver_2 rfl rfl ?_
  refine x_iload_n B (pc := 3) 1 dL_forReceiver_3 rfl rfl ?_
  have hkx : ∀ E, xpo (cod (xinD N a) true true) xIOB xIAE xISE E → X E 4 [(0, .ref (ad 0)), (1, .int a), (2, .ref oa)] [xoW ad up op tr, alW D e0 (ad 2) hs N, dvW da N S om, [(oa, .inl (D.1 12, 1, .inr (.inl f)))]] 1 6 := by
    intro E hE
    rcases hE with ⟨hc, rfl⟩ | ⟨hc, rfl⟩ | ⟨hc, rfl⟩
    · refine x_catch B [] ⟨0, 9, 12, 13⟩ [] rfl (fun z hz => nomatch hz) (by decide) (by decide) tm176 (by decide +kernel) (fun q => ?_)
      show G 12 [(0, .ref (ad 0)), (1, .int a), (2, .ref oa)] [.ref q] [xoW ad up op tr, alW D e0 (ad 2) hs N, dvW da N S om, [(oa, .inl (D.1 12, 1, .inr (.inl f)))]] 1 6
      refine x_astore_n B (pc := 12) [(3, .ref q), (0, .ref (ad 0)), (1, .int a), (2, .ref oa)] dL_forReceiver_12 rfl (by decide) rfl ?_
      refine x_iconst B (pc := 13) 1 dL_forReceiver_13 (by decide) ?_
      exact x_iret F (pc := 14) rfl dL_forReceiver_14 (Or.inr ⟨by rw [hc]; decide, by rw [hc]; rfl, rfl⟩) (Nat.le_of_ble_eq_true rfl) (Nat.le_of_ble_eq_true rfl)
    · exact (cod_ne2 hc).elim
    · exact (cod_ne3 hc).elim
  refine x_callV B (pc := 4) (As := [.int a]) (c_X3_forReceiver hl D e0 hok hN) xcl_X rfl 0 0 rfl rfl tm550 tm551 tm552 tm1 tm553 md_X3_forReceiver ⟨Nat.le_of_ble_eq_true rfl, Nat.le_of_ble_eq_true rfl⟩ [0, 1, 2] rfl rfl rfl (Nat.le_of_ble_eq_true rfl) (Nat.le_of_ble_eq_true rfl) (Nat.le_of_ble_eq_true rfl) dL_forReceiver_4 (fun E hE => hkx E hE) (fun v cs1 hp => ?_)
  obtain ⟨hc, rfl, rfl⟩ := hp
  show G 7 [(0, .ref (ad 0)), (1, .int a), (2, .ref oa)] [.int (S 9 (ix a)), .int (nI 0), .ref oa] [xoW ad up op tr, alW D e0 (ad 2) hs N, dvW da N S om, [(oa, .inl (D.1 12, 1, .inr (.inl f)))]] 1 6
  refine x_i2l B (pc := 7) dL_forReceiver_7 ?_
  refine x_lastN B (pc := 8) 0 3 0 [xoW ad up op tr, alW D e0 (ad 2) hs N, dvW da N S om, [(oa, .inl (D.1 12, 1, .inr (.inl (vp_updL f 0 ((S 9 (ix a)).toInt64)))))]] (by decide) (by decide) rfl rfl rfl rfl dL_forReceiver_8 ?_
  refine x_goto B (pc := 9) 15 dL_forReceiver_9 (by decide) ?_
  refine x_iconst B (pc := 15) 0 dL_forReceiver_15 (by decide) ?_
  exact x_iret F (pc := 16) rfl dL_forReceiver_16 (Or.inl ⟨hc, rfl, rfl⟩) (Nat.le_of_ble_eq_true rfl) (Nat.le_of_ble_eq_true rfl)

set_option maxRecDepth 100000 in
set_option maxHeartbeats 4000000 in
theorem c_L_effects {l : Launch} (hl : l.stackTraces = false) (D : va_G) (e0 : Nat) {ad : Nat → Nat} {up op tr : Int32} {hs : xAg} {N : Nat} {da : Nat → Nat} {S : xS} {om : Nat → Int32} {a : Int32} {oa : Nat} {f : Nat → Int64} (hok : alOk hs N da) (hN : N ≤ 60) : xC l yL_effects (.codeWith yL_effects cL_effects 4 (some .int) [(0, 9, 12, 13)]) ({ frames := 8, cells := 1, slots := 6, locals := 124 } : Room) D e0 [.ref (ad 0), .int a, .ref oa] [xoW ad up op tr, alW D e0 (ad 2) hs N, dvW da N S om, [(oa, .inl (D.1 12, 1, .inr (.inl f)))]] (fun w cs => (cod (xinD N a) true true = 0 ∧ w = some (.int 0) ∧ cs = [xoW ad up op tr, alW D e0 (ad 2) hs N, dvW da N S om, [(oa, .inl (D.1 12, 1, .inr (.inl (vp_updL f 0 ((S 13 (ix a)).toInt64)))))]]) ∨ (cod (xinD N a) true true ≠ 0 ∧ w = some (.int (nI (cod (xinD N a) true true))) ∧ cs = [xoW ad up op tr, alW D e0 (ad 2) hs N, dvW da N S om, [(oa, .inl (D.1 12, 1, .inr (.inl f)))]])) (fun _ => False) := by
  refine xCw_of hl (by decide +kernel) (Nat.le_of_ble_eq_true rfl) (fun G X F => ?_)
  have B : xB l D e0 "CreditLinksLaw" cL_effects 4 (some .int) [(0, 9, 12, 13)] _ G X := F.base
  show G 0 [(0, .ref (ad 0)), (1, .int a), (2, .ref oa)] [] [xoW ad up op tr, alW D e0 (ad 2) hs N, dvW da N S om, [(oa, .inl (D.1 12, 1, .inr (.inl f)))]] 0 0
  refine x_aload_n B (pc := 0) 2 dL_effects_0 rfl rfl ?_
  refine x_iconst B (pc := 1) 0 dL_effects_1 (by decide) ?_
  refine x_val B (y := nI 0) rfl ?_
  refine x_aload_n B (pc := 2) 0 dL_effects_2 rfl rfl ?_
  refine x_iload_n B (pc := 3) 1 dL_effects_3 rfl rfl ?_
  have hkx : ∀ E, xpo (cod (xinD N a) true true) xIOB xIAE xISE E → X E 4 [(0, .ref (ad 0)), (1, .int a), (2, .ref oa)] [xoW ad up op tr, alW D e0 (ad 2) hs N, dvW da N S om, [(oa, .inl (D.1 12, 1, .inr (.inl f)))]] 1 6 := by
    intro E hE
    rcases hE with ⟨hc, rfl⟩ | ⟨hc, rfl⟩ | ⟨hc, rfl⟩
    · refine x_catch B [] ⟨0, 9, 12, 13⟩ [] rfl (fun z hz => nomatch hz) (by decide) (by decide) tm176 (by decide +kernel) (fun q => ?_)
      show G 12 [(0, .ref (ad 0)), (1, .int a), (2, .ref oa)] [.ref q] [xoW ad up op tr, alW D e0 (ad 2) hs N, dvW da N S om, [(oa, .inl (D.1 12, 1, .inr (.inl f)))]] 1 6
      refine x_astore_n B (pc := 12) [(3, .ref q), (0, .ref (ad 0)), (1, .int a), (2, .ref oa)] dL_effects_12 rfl (by decide) rfl ?_
      refine x_iconst B (pc := 13) 1 dL_effects_13 (by decide) ?_
      exact x_iret F (pc := 14) rfl dL_effects_14 (Or.inr ⟨by rw [hc]; decide, by rw [hc]; rfl, rfl⟩) (Nat.le_of_ble_eq_true rfl) (Nat.le_of_ble_eq_true rfl)
    · exact (cod_ne2 hc).elim
    · exact (cod_ne3 hc).elim
  refine x_callV B (pc := 4) (As := [.int a]) (c_X3_effects hl D e0 hok hN) xcl_X rfl 0 0 rfl rfl tm557 tm558 tm559 tm1 tm560 md_X3_effects ⟨Nat.le_of_ble_eq_true rfl, Nat.le_of_ble_eq_true rfl⟩ [0, 1, 2] rfl rfl rfl (Nat.le_of_ble_eq_true rfl) (Nat.le_of_ble_eq_true rfl) (Nat.le_of_ble_eq_true rfl) dL_effects_4 (fun E hE => hkx E hE) (fun v cs1 hp => ?_)
  obtain ⟨hc, rfl, rfl⟩ := hp
  show G 7 [(0, .ref (ad 0)), (1, .int a), (2, .ref oa)] [.int (S 13 (ix a)), .int (nI 0), .ref oa] [xoW ad up op tr, alW D e0 (ad 2) hs N, dvW da N S om, [(oa, .inl (D.1 12, 1, .inr (.inl f)))]] 1 6
  refine x_i2l B (pc := 7) dL_effects_7 ?_
  refine x_lastN B (pc := 8) 0 3 0 [xoW ad up op tr, alW D e0 (ad 2) hs N, dvW da N S om, [(oa, .inl (D.1 12, 1, .inr (.inl (vp_updL f 0 ((S 13 (ix a)).toInt64)))))]] (by decide) (by decide) rfl rfl rfl rfl dL_effects_8 ?_
  refine x_goto B (pc := 9) 15 dL_effects_9 (by decide) ?_
  refine x_iconst B (pc := 15) 0 dL_effects_15 (by decide) ?_
  exact x_iret F (pc := 16) rfl dL_effects_16 (Or.inl ⟨hc, rfl, rfl⟩) (Nat.le_of_ble_eq_true rfl) (Nat.le_of_ble_eq_true rfl)

set_option maxRecDepth 100000 in
set_option maxHeartbeats 4000000 in
theorem c_L_breakOff {l : Launch} (hl : l.stackTraces = false) (D : va_G) (e0 : Nat) {ad : Nat → Nat} {up op tr : Int32} {gf : xRg} {qf : List xFr} {gb : xRg} {qb : List xFr} {ht : xAg} {tq : List Nat} {N : Nat} {da : Nat → Nat} {S : xS} {om : Nat → Int32} {oa : Nat} {f : Nat → Int64} (hup : up = 0 ∨ up = 1) (hok : alOk ht tq.length (fun i => da (tq.getD i 0))) (hT : tq.length ≤ 60) (hin : ∀ i, i < tq.length → tq.getD i 0 < N) : xC l yL_breakOff (.codeWith yL_breakOff cL_breakOff 3 (some .int) [(0, 8, 11, 20)]) ({ frames := 8, cells := 1, slots := 6, locals := 123 } : Room) D e0 [.ref (ad 0), .ref oa] [xoW ad up op tr, rwW D (ad 3) (ad 10) (ad 11) (ad 12) gf qf.length, rwW D (ad 4) (ad 13) (ad 14) (ad 15) gb qb.length, alW D e0 (ad 5) ht tq.length, dvW da N S om, [(oa, .inl (D.1 12, 1, .inr (.inl f)))]] (fun w cs => (cod (decide (up = 1)) true true = 0 ∧ w = some (.int 0) ∧ ∃ h1 g1 g2, (∀ w1, alOk h1 0 w1) ∧ rwOk [] g1 ∧ rwOk [] g2 ∧ cs = [xoW ad 0 0 tr, rwW D (ad 3) (ad 10) (ad 11) (ad 12) g1 ((@List.nil xFr).length), rwW D (ad 4) (ad 13) (ad 14) (ad 15) g2 ((@List.nil xFr).length), alW D e0 (ad 5) h1 0, dvW da N (clrS S tq) om, [(oa, .inl (D.1 12, 1, .inr (.inl (vp_updL f 0 ((nI (qf.length + qb.length)).toInt64)))))]]) ∨ (cod (decide (up = 1)) true true ≠ 0 ∧ w = some (.int (nI (cod (decide (up = 1)) true true))) ∧ cs = [xoW ad up op tr, rwW D (ad 3) (ad 10) (ad 11) (ad 12) gf qf.length, rwW D (ad 4) (ad 13) (ad 14) (ad 15) gb qb.length, alW D e0 (ad 5) ht tq.length, dvW da N S om, [(oa, .inl (D.1 12, 1, .inr (.inl f)))]])) (fun _ => False) := by
  refine xCw_of hl (by decide +kernel) (Nat.le_of_ble_eq_true rfl) (fun G X F => ?_)
  have B : xB l D e0 "CreditLinksLaw" cL_breakOff 3 (some .int) [(0, 8, 11, 20)] _ G X := F.base
  show G 0 [(0, .ref (ad 0)), (1, .ref oa)] [] [xoW ad up op tr, rwW D (ad 3) (ad 10) (ad 11) (ad 12) gf qf.length, rwW D (ad 4) (ad 13) (ad 14) (ad 15) gb qb.length, alW D e0 (ad 5) ht tq.length, dvW da N S om, [(oa, .inl (D.1 12, 1, .inr (.inl f)))]] 0 0
  refine x_aload_n B (pc := 0) 1 dL_breakOff_0 rfl rfl ?_
  refine x_iconst B (pc := 1) 0 dL_breakOff_1 (by decide) ?_
  refine x_val B (y := nI 0) rfl ?_
  refine x_aload_n B (pc := 2) 0 dL_breakOff_2 rfl rfl ?_
  have hkx : ∀ E, xpo (cod (decide (up = 1)) true true) xISE xISE xISE E → X E 3 [(0, .ref (ad 0)), (1, .ref oa)] [xoW ad up op tr, rwW D (ad 3) (ad 10) (ad 11) (ad 12) gf qf.length, rwW D (ad 4) (ad 13) (ad 14) (ad 15) gb qb.length, alW D e0 (ad 5) ht tq.length, dvW da N S om, [(oa, .inl (D.1 12, 1, .inr (.inl f)))]] 1 6 := by
    intro E hE
    rcases hE with ⟨hc, rfl⟩ | ⟨hc, rfl⟩ | ⟨hc, rfl⟩
    · refine x_catch B [] ⟨0, 8, 11, 20⟩ [] rfl (fun z hz => nomatch hz) (by decide) (by decide) tm273 (by decide +kernel) (fun q => ?_)
      show G 11 [(0, .ref (ad 0)), (1, .ref oa)] [.ref q] [xoW ad up op tr, rwW D (ad 3) (ad 10) (ad 11) (ad 12) gf qf.length, rwW D (ad 4) (ad 13) (ad 14) (ad 15) gb qb.length, alW D e0 (ad 5) ht tq.length, dvW da N S om, [(oa, .inl (D.1 12, 1, .inr (.inl f)))]] 1 6
      refine x_astore_n B (pc := 11) [(2, .ref q), (0, .ref (ad 0)), (1, .ref oa)] dL_breakOff_11 rfl (by decide) rfl ?_
      refine x_iconst B (pc := 12) 1 dL_breakOff_12 (by decide) ?_
      exact x_iret F (pc := 13) rfl dL_breakOff_13 (Or.inr ⟨by rw [hc]; decide, by rw [hc]; rfl, rfl⟩) (Nat.le_of_ble_eq_true rfl) (Nat.le_of_ble_eq_true rfl)
    · exact (cod_ne2 hc).elim
    · exact (cod_ne3 hc).elim
  refine x_callV B (pc := 3) (As := []) (c_X3_breakOff hl D e0 hup hok hT hin) xcl_X rfl 0 0 rfl rfl tm564 tm565 tm566 tm1 tm567 md_X3_breakOff ⟨Nat.le_of_ble_eq_true rfl, Nat.le_of_ble_eq_true rfl⟩ [0, 1, 2, 3, 4] rfl rfl rfl (Nat.le_of_ble_eq_true rfl) (Nat.le_of_ble_eq_true rfl) (Nat.le_of_ble_eq_true rfl) dL_breakOff_3 (fun E hE => hkx E hE) (fun v cs1 hp => ?_)
  obtain ⟨hc, rfl, h1, g1, g2, hf0, hf1, hf2, rfl⟩ := hp
  show G 6 [(0, .ref (ad 0)), (1, .ref oa)] [.int (nI (qf.length + qb.length)), .int (nI 0), .ref oa] [xoW ad 0 0 tr, rwW D (ad 3) (ad 10) (ad 11) (ad 12) g1 ((@List.nil xFr).length), rwW D (ad 4) (ad 13) (ad 14) (ad 15) g2 ((@List.nil xFr).length), alW D e0 (ad 5) h1 0, dvW da N (clrS S tq) om, [(oa, .inl (D.1 12, 1, .inr (.inl f)))]] 1 6
  refine x_i2l B (pc := 6) dL_breakOff_6 ?_
  refine x_lastN B (pc := 7) 0 5 0 [xoW ad 0 0 tr, rwW D (ad 3) (ad 10) (ad 11) (ad 12) g1 ((@List.nil xFr).length), rwW D (ad 4) (ad 13) (ad 14) (ad 15) g2 ((@List.nil xFr).length), alW D e0 (ad 5) h1 0, dvW da N (clrS S tq) om, [(oa, .inl (D.1 12, 1, .inr (.inl (vp_updL f 0 ((nI (qf.length + qb.length)).toInt64)))))]] (by decide) (by decide) rfl rfl rfl rfl dL_breakOff_7 ?_
  refine x_goto B (pc := 8) 14 dL_breakOff_8 (by decide) ?_
  refine x_iconst B (pc := 14) 0 dL_breakOff_14 (by decide) ?_
  exact x_iret F (pc := 15) rfl dL_breakOff_15 (Or.inl ⟨hc, rfl, h1, g1, g2, hf0, hf1, hf2, rfl⟩) (Nat.le_of_ble_eq_true rfl) (Nat.le_of_ble_eq_true rfl)

set_option maxRecDepth 100000 in
set_option maxHeartbeats 4000000 in
theorem c_L_join {l : Launch} (hl : l.stackTraces = false) (D : va_G) (e0 : Nat) {ad : Nat → Nat} {up op tr : Int32} {L : xS} {hs : xAg} {N : Nat} {gf : xRg} {qf : List xFr} {da : Nat → Nat} {S : xS} {om : Nat → Int32} {oa : Nat} {f : Nat → Int64} (hup : up = 0 ∨ up = 1) (hok : alOk hs N da) (hN : N ≤ 60) (hq : rwOk qf gf) (hql : qf.length + 4 * N ≤ 512) (hom : ∀ d, d < N → S 9 d = 3 → om d = S 12 d) (h6 : ∀ d, d < N → ∃ m, m ≤ 4 ∧ S 6 d = nI m) : xC l yL_join (.codeWith yL_join cL_join 3 (some .int) [(0, 8, 11, 20)]) ({ frames := 7, cells := 1, slots := 6, locals := 106 } : Room) D e0 [.ref (ad 0), .ref oa] [xoW ad up op tr, lkW D ad L, alW D e0 (ad 2) hs N, rwW D (ad 3) (ad 10) (ad 11) (ad 12) gf qf.length, dvW da N S om, [(oa, .inl (D.1 12, 1, .inr (.inl f)))]] (fun w cs => (cod (decide (up = 0)) true true = 0 ∧ w = some (.int 0) ∧ ∃ g1, rwOk (jn S qf N).2.1 g1 ∧ cs = [xoW ad 1 op tr, lkW D ad (jnL L 4), alW D e0 (ad 2) hs N, rwW D (ad 3) (ad 10) (ad 11) (ad 12) g1 (((jn S qf N).2.1).length), dvW da N ((jn S qf N).1) om, [(oa, .inl (D.1 12, 1, .inr (.inl (vp_updL f 0 (((jn S qf N).2.2).toInt64)))))]]) ∨ (cod (decide (up = 0)) true true ≠ 0 ∧ w = some (.int (nI (cod (decide (up = 0)) true true))) ∧ cs = [xoW ad up op tr, lkW D ad L, alW D e0 (ad 2) hs N, rwW D (ad 3) (ad 10) (ad 11) (ad 12) gf qf.length, dvW da N S om, [(oa, .inl (D.1 12, 1, .inr (.inl f)))]])) (fun _ => False) := by
  refine xCw_of hl (by decide +kernel) (Nat.le_of_ble_eq_true rfl) (fun G X F => ?_)
  have B : xB l D e0 "CreditLinksLaw" cL_join 3 (some .int) [(0, 8, 11, 20)] _ G X := F.base
  show G 0 [(0, .ref (ad 0)), (1, .ref oa)] [] [xoW ad up op tr, lkW D ad L, alW D e0 (ad 2) hs N, rwW D (ad 3) (ad 10) (ad 11) (ad 12) gf qf.length, dvW da N S om, [(oa, .inl (D.1 12, 1, .inr (.inl f)))]] 0 0
  refine x_aload_n B (pc := 0) 1 dL_join_0 rfl rfl ?_
  refine x_iconst B (pc := 1) 0 dL_join_1 (by decide) ?_
  refine x_val B (y := nI 0) rfl ?_
  refine x_aload_n B (pc := 2) 0 dL_join_2 rfl rfl ?_
  have hkx : ∀ E, xpo (cod (decide (up = 0)) true true) xISE xISE xISE E → X E 3 [(0, .ref (ad 0)), (1, .ref oa)] [xoW ad up op tr, lkW D ad L, alW D e0 (ad 2) hs N, rwW D (ad 3) (ad 10) (ad 11) (ad 12) gf qf.length, dvW da N S om, [(oa, .inl (D.1 12, 1, .inr (.inl f)))]] 1 6 := by
    intro E hE
    rcases hE with ⟨hc, rfl⟩ | ⟨hc, rfl⟩ | ⟨hc, rfl⟩
    · refine x_catch B [] ⟨0, 8, 11, 20⟩ [] rfl (fun z hz => nomatch hz) (by decide) (by decide) tm273 (by decide +kernel) (fun q => ?_)
      show G 11 [(0, .ref (ad 0)), (1, .ref oa)] [.ref q] [xoW ad up op tr, lkW D ad L, alW D e0 (ad 2) hs N, rwW D (ad 3) (ad 10) (ad 11) (ad 12) gf qf.length, dvW da N S om, [(oa, .inl (D.1 12, 1, .inr (.inl f)))]] 1 6
      refine x_astore_n B (pc := 11) [(2, .ref q), (0, .ref (ad 0)), (1, .ref oa)] dL_join_11 rfl (by decide) rfl ?_
      refine x_iconst B (pc := 12) 1 dL_join_12 (by decide) ?_
      exact x_iret F (pc := 13) rfl dL_join_13 (Or.inr ⟨by rw [hc]; decide, by rw [hc]; rfl, rfl⟩) (Nat.le_of_ble_eq_true rfl) (Nat.le_of_ble_eq_true rfl)
    · exact (cod_ne2 hc).elim
    · exact (cod_ne3 hc).elim
  refine x_callV B (pc := 3) (As := []) (c_X3_join hl D e0 hup hok hN hq hql hom h6) xcl_X rfl 0 0 rfl rfl tm583 tm584 tm585 tm1 tm586 md_X3_join ⟨Nat.le_of_ble_eq_true rfl, Nat.le_of_ble_eq_true rfl⟩ [0, 1, 2, 3, 4] rfl rfl rfl (Nat.le_of_ble_eq_true rfl) (Nat.le_of_ble_eq_true rfl) (Nat.le_of_ble_eq_true rfl) dL_join_3 (fun E hE => hkx E hE) (fun v cs1 hp => ?_)
  obtain ⟨hc, rfl, g1, hf0, rfl⟩ := hp
  show G 6 [(0, .ref (ad 0)), (1, .ref oa)] [.int ((jn S qf N).2.2), .int (nI 0), .ref oa] [xoW ad 1 op tr, lkW D ad (jnL L 4), alW D e0 (ad 2) hs N, rwW D (ad 3) (ad 10) (ad 11) (ad 12) g1 (((jn S qf N).2.1).length), dvW da N ((jn S qf N).1) om, [(oa, .inl (D.1 12, 1, .inr (.inl f)))]] 1 6
  refine x_i2l B (pc := 6) dL_join_6 ?_
  refine x_lastN B (pc := 7) 0 5 0 [xoW ad 1 op tr, lkW D ad (jnL L 4), alW D e0 (ad 2) hs N, rwW D (ad 3) (ad 10) (ad 11) (ad 12) g1 (((jn S qf N).2.1).length), dvW da N ((jn S qf N).1) om, [(oa, .inl (D.1 12, 1, .inr (.inl (vp_updL f 0 (((jn S qf N).2.2).toInt64)))))]] (by decide) (by decide) rfl rfl rfl rfl dL_join_7 ?_
  refine x_goto B (pc := 8) 14 dL_join_8 (by decide) ?_
  refine x_iconst B (pc := 14) 0 dL_join_14 (by decide) ?_
  exact x_iret F (pc := 15) rfl dL_join_15 (Or.inl ⟨hc, rfl, g1, hf0, rfl⟩) (Nat.le_of_ble_eq_true rfl) (Nat.le_of_ble_eq_true rfl)

set_option maxRecDepth 100000 in
set_option maxHeartbeats 4000000 in
theorem c_L_begin {l : Launch} (hl : l.stackTraces = false) (D : va_G) (e0 : Nat) {ad : Nat → Nat} {up op tr : Int32} {oa : Nat} {f : Nat → Int64} (hup : up = 0 ∨ up = 1) (hop : op = 0 ∨ op = 1) : xC l yL_begin (.codeWith yL_begin cL_begin 3 (some .int) [(0, 8, 11, 20)]) ({ frames := 8, cells := 1, slots := 6, locals := 122 } : Room) D e0 [.ref (ad 0), .ref oa] [xoW ad up op tr, [(oa, .inl (D.1 12, 1, .inr (.inl f)))]] (fun w cs => (cod (decide (up = 1) && decide (op = 0)) true true = 0 ∧ w = some (.int 0) ∧ cs = [xoW ad up 1 (tr + 1), [(oa, .inl (D.1 12, 1, .inr (.inl (vp_updL f 0 ((tr + 1).toInt64)))))]]) ∨ (cod (decide (up = 1) && decide (op = 0)) true true ≠ 0 ∧ w = some (.int (nI (cod (decide (up = 1) && decide (op = 0)) true true))) ∧ cs = [xoW ad up op tr, [(oa, .inl (D.1 12, 1, .inr (.inl f)))]])) (fun _ => False) := by
  refine xCw_of hl (by decide +kernel) (Nat.le_of_ble_eq_true rfl) (fun G X F => ?_)
  have B : xB l D e0 "CreditLinksLaw" cL_begin 3 (some .int) [(0, 8, 11, 20)] _ G X := F.base
  show G 0 [(0, .ref (ad 0)), (1, .ref oa)] [] [xoW ad up op tr, [(oa, .inl (D.1 12, 1, .inr (.inl f)))]] 0 0
  refine x_aload_n B (pc := 0) 1 dL_begin_0 rfl rfl ?_
  refine x_iconst B (pc := 1) 0 dL_begin_1 (by decide) ?_
  refine x_val B (y := nI 0) rfl ?_
  refine x_aload_n B (pc := 2) 0 dL_begin_2 rfl rfl ?_
  have hkx : ∀ E, xpo (cod (decide (up = 1) && decide (op = 0)) true true) xISE xISE xISE E → X E 3 [(0, .ref (ad 0)), (1, .ref oa)] [xoW ad up op tr, [(oa, .inl (D.1 12, 1, .inr (.inl f)))]] 1 6 := by
    intro E hE
    rcases hE with ⟨hc, rfl⟩ | ⟨hc, rfl⟩ | ⟨hc, rfl⟩
    · refine x_catch B [] ⟨0, 8, 11, 20⟩ [] rfl (fun z hz => nomatch hz) (by decide) (by decide) tm273 (by decide +kernel) (fun q => ?_)
      show G 11 [(0, .ref (ad 0)), (1, .ref oa)] [.ref q] [xoW ad up op tr, [(oa, .inl (D.1 12, 1, .inr (.inl f)))]] 1 6
      refine x_astore_n B (pc := 11) [(2, .ref q), (0, .ref (ad 0)), (1, .ref oa)] dL_begin_11 rfl (by decide) rfl ?_
      refine x_iconst B (pc := 12) 1 dL_begin_12 (by decide) ?_
      exact x_iret F (pc := 13) rfl dL_begin_13 (Or.inr ⟨by rw [hc]; decide, by rw [hc]; rfl, rfl⟩) (Nat.le_of_ble_eq_true rfl) (Nat.le_of_ble_eq_true rfl)
    · exact (cod_ne2 hc).elim
    · exact (cod_ne3 hc).elim
  refine x_callV B (pc := 3) (As := []) (c_X3_begin hl D e0 hup hop) xcl_X rfl 0 0 rfl rfl tm600 tm601 tm602 tm1 tm603 md_X3_begin ⟨Nat.le_of_ble_eq_true rfl, Nat.le_of_ble_eq_true rfl⟩ [0] rfl rfl rfl (Nat.le_of_ble_eq_true rfl) (Nat.le_of_ble_eq_true rfl) (Nat.le_of_ble_eq_true rfl) dL_begin_3 (fun E hE => hkx E hE) (fun v cs1 hp => ?_)
  obtain ⟨hc, rfl, rfl⟩ := hp
  show G 6 [(0, .ref (ad 0)), (1, .ref oa)] [.int (tr + 1), .int (nI 0), .ref oa] [xoW ad up 1 (tr + 1), [(oa, .inl (D.1 12, 1, .inr (.inl f)))]] 1 6
  refine x_i2l B (pc := 6) dL_begin_6 ?_
  refine x_lastN B (pc := 7) 0 1 0 [xoW ad up 1 (tr + 1), [(oa, .inl (D.1 12, 1, .inr (.inl (vp_updL f 0 ((tr + 1).toInt64)))))]] (by decide) (by decide) rfl rfl rfl rfl dL_begin_7 ?_
  refine x_goto B (pc := 8) 14 dL_begin_8 (by decide) ?_
  refine x_iconst B (pc := 14) 0 dL_begin_14 (by decide) ?_
  exact x_iret F (pc := 15) rfl dL_begin_15 (Or.inl ⟨hc, rfl, rfl⟩) (Nat.le_of_ble_eq_true rfl) (Nat.le_of_ble_eq_true rfl)

set_option maxRecDepth 100000 in
set_option maxHeartbeats 4000000 in
theorem c_L_tell {l : Launch} (hl : l.stackTraces = false) (D : va_G) (e0 : Nat) {ad : Nat → Nat} {up op tr : Int32} {hs : xAg} {N : Nat} {ht : xAg} {tq : List Nat} {da : Nat → Nat} {S : xS} {om : Nat → Int32} {a b : Int32} {oa : Nat} {f : Nat → Int64} (hop : op = 0 ∨ op = 1) (hok : alOk hs N da) (hN : N ≤ 60) (hot : alOk ht tq.length (fun i => da (tq.getD i 0))) (hT : tq.length ≤ 60) (hin : ∀ i, i < tq.length → tq.getD i 0 < N) : xC l yL_tell (.codeWith yL_tell cL_tell 5 (some .int) [(0, 10, 13, 13), (0, 10, 17, 15), (0, 10, 21, 20)]) ({ frames := 8, cells := 1, slots := 200, locals := 184 } : Room) D e0 [.ref (ad 0), .int a, .int b, .ref oa] [xoW ad up op tr, alW D e0 (ad 2) hs N, alW D e0 (ad 5) ht tq.length, dvW da N S om, [(oa, .inl (D.1 12, 1, .inr (.inl f)))]] (fun w cs => (cod (xinD N a) (xinB 0 2 b) (decide (op = 1) && (decide (S 9 (ix a) = 2) && decide (S 14 (ix a) = -1))) = 0 ∧ w = some (.int 0) ∧ ∃ h1, alOk h1 (tq.length + 1) (fun i => da ((tq ++ [ix a]).getD i 0)) ∧ cs = [xoW ad up op tr, alW D e0 (ad 2) hs N, alW D e0 (ad 5) h1 (tq.length + 1), dvW da N (xup S 14 (ix a) b) om, [(oa, .inl (D.1 12, 1, .inr (.inl (vp_updL f 0 ((nI (tq.length + 1)).toInt64)))))]]) ∨ (cod (xinD N a) (xinB 0 2 b) (decide (op = 1) && (decide (S 9 (ix a) = 2) && decide (S 14 (ix a) = -1))) ≠ 0 ∧ w = some (.int (nI (cod (xinD N a) (xinB 0 2 b) (decide (op = 1) && (decide (S 9 (ix a) = 2) && decide (S 14 (ix a) = -1)))))) ∧ cs = [xoW ad up op tr, alW D e0 (ad 2) hs N, alW D e0 (ad 5) ht tq.length, dvW da N S om, [(oa, .inl (D.1 12, 1, .inr (.inl f)))]])) (fun _ => False) := by
  refine xCw_of hl (by decide +kernel) (Nat.le_of_ble_eq_true rfl) (fun G X F => ?_)
  have B : xB l D e0 "CreditLinksLaw" cL_tell 5 (some .int) [(0, 10, 13, 13), (0, 10, 17, 15), (0, 10, 21, 20)] _ G X := F.base
  show G 0 [(0, .ref (ad 0)), (1, .int a), (2, .int b), (3, .ref oa)] [] [xoW ad up op tr, alW D e0 (ad 2) hs N, alW D e0 (ad 5) ht tq.length, dvW da N S om, [(oa, .inl (D.1 12, 1, .inr (.inl f)))]] 0 0
  refine x_aload_n B (pc := 0) 3 dL_tell_0 rfl rfl ?_
  refine x_iconst B (pc := 1) 0 dL_tell_1 (by decide) ?_
  refine x_val B (y := nI 0) rfl ?_
  refine x_aload_n B (pc := 2) 0 dL_tell_2 rfl rfl ?_
  refine x_iload_n B (pc := 3) 1 dL_tell_3 rfl rfl ?_
  refine x_iload_n B (pc := 4) 2 dL_tell_4 rfl rfl ?_
  have hkx : ∀ E, xpo (cod (xinD N a) (xinB 0 2 b) (decide (op = 1) && (decide (S 9 (ix a) = 2) && decide (S 14 (ix a) = -1)))) xIOB xIAE xISE E → X E 5 [(0, .ref (ad 0)), (1, .int a), (2, .int b), (3, .ref oa)] [xoW ad up op tr, alW D e0 (ad 2) hs N, alW D e0 (ad 5) ht tq.length, dvW da N S om, [(oa, .inl (D.1 12, 1, .inr (.inl f)))]] 1 200 := by
    intro E hE
    rcases hE with ⟨hc, rfl⟩ | ⟨hc, rfl⟩ | ⟨hc, rfl⟩
    · refine x_catch B [] ⟨0, 10, 13, 13⟩ [⟨0, 10, 17, 15⟩, ⟨0, 10, 21, 20⟩] rfl (fun z hz => nomatch hz) (by decide) (by decide) tm176 (by decide +kernel) (fun q => ?_)
      show G 13 [(0, .ref (ad 0)), (1, .int a), (2, .int b), (3, .ref oa)] [.ref q] [xoW ad up op tr, alW D e0 (ad 2) hs N, alW D e0 (ad 5) ht tq.length, dvW da N S om, [(oa, .inl (D.1 12, 1, .inr (.inl f)))]] 1 200
      refine x_astore B (pc := 13) [(4, .ref q), (0, .ref (ad 0)), (1, .int a), (2, .int b), (3, .ref oa)] dL_tell_13 (by decide) rfl ?_
      refine x_iconst B (pc := 15) 1 dL_tell_15 (by decide) ?_
      exact x_iret F (pc := 16) rfl dL_tell_16 (Or.inr ⟨by rw [hc]; decide, by rw [hc]; rfl, rfl⟩) (Nat.le_of_ble_eq_true rfl) (Nat.le_of_ble_eq_true rfl)
    · refine x_catch B [⟨0, 10, 13, 13⟩] ⟨0, 10, 17, 15⟩ [⟨0, 10, 21, 20⟩] rfl (List.forall_mem_cons.mpr ⟨⟨by decide, _, tm176, by decide +kernel⟩, (fun z hz => nomatch hz)⟩) (by decide) (by decide) tm177 (by decide +kernel) (fun q => ?_)
      show G 17 [(0, .ref (ad 0)), (1, .int a), (2, .int b), (3, .ref oa)] [.ref q] [xoW ad up op tr, alW D e0 (ad 2) hs N, alW D e0 (ad 5) ht tq.length, dvW da N S om, [(oa, .inl (D.1 12, 1, .inr (.inl f)))]] 1 200
      refine x_astore B (pc := 17) [(4, .ref q), (0, .ref (ad 0)), (1, .int a), (2, .int b), (3, .ref oa)] dL_tell_17 (by decide) rfl ?_
      refine x_iconst B (pc := 19) 2 dL_tell_19 (by decide) ?_
      exact x_iret F (pc := 20) rfl dL_tell_20 (Or.inr ⟨by rw [hc]; decide, by rw [hc]; rfl, rfl⟩) (Nat.le_of_ble_eq_true rfl) (Nat.le_of_ble_eq_true rfl)
    · refine x_catch B [⟨0, 10, 13, 13⟩, ⟨0, 10, 17, 15⟩] ⟨0, 10, 21, 20⟩ [] rfl (List.forall_mem_cons.mpr ⟨⟨by decide, _, tm176, by decide +kernel⟩, (List.forall_mem_cons.mpr ⟨⟨by decide, _, tm177, by decide +kernel⟩, (fun z hz => nomatch hz)⟩)⟩) (by decide) (by decide) tm273 (by decide +kernel) (fun q => ?_)
      show G 21 [(0, .ref (ad 0)), (1, .int a), (2, .int b), (3, .ref oa)] [.ref q] [xoW ad up op tr, alW D e0 (ad 2) hs N, alW D e0 (ad 5) ht tq.length, dvW da N S om, [(oa, .inl (D.1 12, 1, .inr (.inl f)))]] 1 200
      refine x_astore B (pc := 21) [(4, .ref q), (0, .ref (ad 0)), (1, .int a), (2, .int b), (3, .ref oa)] dL_tell_21 (by decide) rfl ?_
      refine x_iconst B (pc := 23) 3 dL_tell_23 (by decide) ?_
      exact x_iret F (pc := 24) rfl dL_tell_24 (Or.inr ⟨by rw [hc]; decide, by rw [hc]; rfl, rfl⟩) (Nat.le_of_ble_eq_true rfl) (Nat.le_of_ble_eq_true rfl)
  refine x_callV B (pc := 5) (As := [.int a, .int b]) (c_X3_tell hl D e0 hop hok hN hot hT hin) xcl_X rfl 0 0 rfl rfl tm608 tm609 tm610 tm1 tm611 md_X3_tell ⟨Nat.le_of_ble_eq_true rfl, Nat.le_of_ble_eq_true rfl⟩ [0, 1, 2, 3] rfl rfl rfl (Nat.le_of_ble_eq_true rfl) (Nat.le_of_ble_eq_true rfl) (Nat.le_of_ble_eq_true rfl) dL_tell_5 (fun E hE => hkx E hE) (fun v cs1 hp => ?_)
  obtain ⟨hc, rfl, h1, hf0, rfl⟩ := hp
  show G 8 [(0, .ref (ad 0)), (1, .int a), (2, .int b), (3, .ref oa)] [.int (nI (tq.length + 1)), .int (nI 0), .ref oa] [xoW ad up op tr, alW D e0 (ad 2) hs N, alW D e0 (ad 5) h1 (tq.length + 1), dvW da N (xup S 14 (ix a) b) om, [(oa, .inl (D.1 12, 1, .inr (.inl f)))]] 1 200
  refine x_i2l B (pc := 8) dL_tell_8 ?_
  refine x_lastN B (pc := 9) 0 4 0 [xoW ad up op tr, alW D e0 (ad 2) hs N, alW D e0 (ad 5) h1 (tq.length + 1), dvW da N (xup S 14 (ix a) b) om, [(oa, .inl (D.1 12, 1, .inr (.inl (vp_updL f 0 ((nI (tq.length + 1)).toInt64)))))]] (by decide) (by decide) rfl rfl rfl rfl dL_tell_9 ?_
  refine x_goto B (pc := 10) 25 dL_tell_10 (by decide) ?_
  refine x_iconst B (pc := 25) 0 dL_tell_25 (by decide) ?_
  exact x_iret F (pc := 26) rfl dL_tell_26 (Or.inl ⟨hc, rfl, h1, hf0, rfl⟩) (Nat.le_of_ble_eq_true rfl) (Nat.le_of_ble_eq_true rfl)

set_option maxRecDepth 100000 in
set_option maxHeartbeats 4000000 in
theorem c_L_end {l : Launch} (hl : l.stackTraces = false) (D : va_G) (e0 : Nat) {ad : Nat → Nat} {up op tr : Int32} {N : Nat} {gb : xRg} {qb : List xFr} {ht : xAg} {tq : List Nat} {da : Nat → Nat} {S : xS} {om : Nat → Int32} {b : Int32} {oa : Nat} {f : Nat → Int64} (hop : op = 0 ∨ op = 1) (hok : alOk ht tq.length (fun i => da (tq.getD i 0))) (hT : tq.length ≤ 60) (hin : ∀ i, i < tq.length → tq.getD i 0 < N) (hqb : rwOk qb gb) (hql : qb.length + tq.length < 512) (hw : ∀ i, i < tq.length → ∃ o, o ≤ 2 ∧ S 14 (tq.getD i 0) = nI o) : xC l yL_end (.codeWith yL_end cL_end 4 (some .int) [(0, 9, 12, 20)]) ({ frames := 8, cells := 1, slots := 6, locals := 126 } : Room) D e0 [.ref (ad 0), .int b, .ref oa] [xoW ad up op tr, rwW D (ad 4) (ad 13) (ad 14) (ad 15) gb qb.length, alW D e0 (ad 5) ht tq.length, dvW da N S om, [(oa, .inl (D.1 12, 1, .inr (.inl f)))]] (fun w cs => (cod (decide (op = 1)) true true = 0 ∧ w = some (.int 0) ∧ ∃ h1 g1, (∀ w1, alOk h1 0 w1) ∧ rwOk (eQ S qb tq b) g1 ∧ cs = [xoW ad up 0 tr, rwW D (ad 4) (ad 13) (ad 14) (ad 15) g1 ((eQ S qb tq b).length), alW D e0 (ad 5) h1 0, dvW da N (eS S tq b) (eM S om tq b), [(oa, .inl (D.1 12, 1, .inr (.inl (vp_updL f 0 ((eR tq b).toInt64)))))]]) ∨ (cod (decide (op = 1)) true true ≠ 0 ∧ w = some (.int (nI (cod (decide (op = 1)) true true))) ∧ cs = [xoW ad up op tr, rwW D (ad 4) (ad 13) (ad 14) (ad 15) gb qb.length, alW D e0 (ad 5) ht tq.length, dvW da N S om, [(oa, .inl (D.1 12, 1, .inr (.inl f)))]])) (fun _ => False) := by
  refine xCw_of hl (by decide +kernel) (Nat.le_of_ble_eq_true rfl) (fun G X F => ?_)
  have B : xB l D e0 "CreditLinksLaw" cL_end 4 (some .int) [(0, 9, 12, 20)] _ G X := F.base
  show G 0 [(0, .ref (ad 0)), (1, .int b), (2, .ref oa)] [] [xoW ad up op tr, rwW D (ad 4) (ad 13) (ad 14) (ad 15) gb qb.length, alW D e0 (ad 5) ht tq.length, dvW da N S om, [(oa, .inl (D.1 12, 1, .inr (.inl f)))]] 0 0
  refine x_aload_n B (pc := 0) 2 dL_end_0 rfl rfl ?_
  refine x_iconst B (pc := 1) 0 dL_end_1 (by decide) ?_
  refine x_val B (y := nI 0) rfl ?_
  refine x_aload_n B (pc := 2) 0 dL_end_2 rfl rfl ?_
  refine x_iload_n B (pc := 3) 1 dL_end_3 rfl rfl ?_
  have hkx : ∀ E, xpo (cod (decide (op = 1)) true true) xISE xISE xISE E → X E 4 [(0, .ref (ad 0)), (1, .int b), (2, .ref oa)] [xoW ad up op tr, rwW D (ad 4) (ad 13) (ad 14) (ad 15) gb qb.length, alW D e0 (ad 5) ht tq.length, dvW da N S om, [(oa, .inl (D.1 12, 1, .inr (.inl f)))]] 1 6 := by
    intro E hE
    rcases hE with ⟨hc, rfl⟩ | ⟨hc, rfl⟩ | ⟨hc, rfl⟩
    · refine x_catch B [] ⟨0, 9, 12, 20⟩ [] rfl (fun z hz => nomatch hz) (by decide) (by decide) tm273 (by decide +kernel) (fun q => ?_)
      show G 12 [(0, .ref (ad 0)), (1, .int b), (2, .ref oa)] [.ref q] [xoW ad up op tr, rwW D (ad 4) (ad 13) (ad 14) (ad 15) gb qb.length, alW D e0 (ad 5) ht tq.length, dvW da N S om, [(oa, .inl (D.1 12, 1, .inr (.inl f)))]] 1 6
      refine x_astore_n B (pc := 12) [(3, .ref q), (0, .ref (ad 0)), (1, .int b), (2, .ref oa)] dL_end_12 rfl (by decide) rfl ?_
      refine x_iconst B (pc := 13) 1 dL_end_13 (by decide) ?_
      exact x_iret F (pc := 14) rfl dL_end_14 (Or.inr ⟨by rw [hc]; decide, by rw [hc]; rfl, rfl⟩) (Nat.le_of_ble_eq_true rfl) (Nat.le_of_ble_eq_true rfl)
    · exact (cod_ne2 hc).elim
    · exact (cod_ne3 hc).elim
  refine x_callV B (pc := 4) (As := [.int b]) (c_X3_end hl D e0 hop hok hT hin hqb hql hw) xcl_X rfl 0 0 rfl rfl tm620 tm621 tm622 tm1 tm623 md_X3_end ⟨Nat.le_of_ble_eq_true rfl, Nat.le_of_ble_eq_true rfl⟩ [0, 1, 2, 3] rfl rfl rfl (Nat.le_of_ble_eq_true rfl) (Nat.le_of_ble_eq_true rfl) (Nat.le_of_ble_eq_true rfl) dL_end_4 (fun E hE => hkx E hE) (fun v cs1 hp => ?_)
  obtain ⟨hc, rfl, h1, g1, hf0, hf1, rfl⟩ := hp
  show G 7 [(0, .ref (ad 0)), (1, .int b), (2, .ref oa)] [.int (eR tq b), .int (nI 0), .ref oa] [xoW ad up 0 tr, rwW D (ad 4) (ad 13) (ad 14) (ad 15) g1 ((eQ S qb tq b).length), alW D e0 (ad 5) h1 0, dvW da N (eS S tq b) (eM S om tq b), [(oa, .inl (D.1 12, 1, .inr (.inl f)))]] 1 6
  refine x_i2l B (pc := 7) dL_end_7 ?_
  refine x_lastN B (pc := 8) 0 4 0 [xoW ad up 0 tr, rwW D (ad 4) (ad 13) (ad 14) (ad 15) g1 ((eQ S qb tq b).length), alW D e0 (ad 5) h1 0, dvW da N (eS S tq b) (eM S om tq b), [(oa, .inl (D.1 12, 1, .inr (.inl (vp_updL f 0 ((eR tq b).toInt64)))))]] (by decide) (by decide) rfl rfl rfl rfl dL_end_8 ?_
  refine x_goto B (pc := 9) 15 dL_end_9 (by decide) ?_
  refine x_iconst B (pc := 15) 0 dL_end_15 (by decide) ?_
  exact x_iret F (pc := 16) rfl dL_end_16 (Or.inl ⟨hc, rfl, h1, g1, hf0, hf1, rfl⟩) (Nat.le_of_ble_eq_true rfl) (Nat.le_of_ble_eq_true rfl)
