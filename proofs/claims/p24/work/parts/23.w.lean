/-! the law's own methods: a call each, its exceptions as -8 -/
theorem cod_ne2 {p r : Bool} (h : cod p true r = 2) : False := by
  cases p <;> cases r <;> exact absurd h (by decide)
theorem cod_ne3 {p q : Bool} (h : cod p q true = 3) : False := by
  cases p <;> cases q <;> exact absurd h (by decide)
theorem cod_p1 {p : Bool} (h : cod p true true = 1) : p = false := by
  cases p
  · rfl
  · exact absurd h (by decide)
theorem cod_p0 {p : Bool} (h : cod p true true = 0) : p = true := by
  cases p
  · exact absurd h (by decide)
  · rfl
set_option maxRecDepth 100000 in
set_option maxHeartbeats 4000000 in
theorem c_does_setMode {l : Launch} (hl : l.stackTraces = false) (D : va_G) (e0 : Nat) {ad : Nat → Nat} {up op tr : Int32} {L : xS} {a b : Int32}  : xC l yL_does (.codeWith yL_does cL_does 5 (some .int) [(0, 61, 62, 26), (0, 61, 67, 28), (0, 61, 72, 30)]) ({ frames := 8, cells := 1, slots := 6, locals := 127 } : Room) D e0 [.ref (ad 0), .int 0, .int a, .int b] [xoW ad up op tr, lkW D ad L] (fun w cs => (cod (xinB 0 3 a) (xinB 0 2 b) true = 0 ∧ w = some (.int (L 0 (ix a))) ∧ cs = [xoW ad up op tr, lkW D ad (xup L 0 (ix a) b)]) ∨ (cod (xinB 0 3 a) (xinB 0 2 b) true ≠ 0 ∧ w = some (.int (-8)) ∧ cs = [xoW ad up op tr, lkW D ad L])) (fun _ => False) := by
  refine xCw_of hl (by decide +kernel) (Nat.le_of_ble_eq_true rfl) (fun G X F => ?_)
  have B : xB l D e0 "CreditLinksLaw" cL_does 5 (some .int) [(0, 61, 62, 26), (0, 61, 67, 28), (0, 61, 72, 30)] _ G X := F.base
  show G 0 [(0, .ref (ad 0)), (1, .int 0), (2, .int a), (3, .int b)] [] [xoW ad up op tr, lkW D ad L] 0 0
  refine x_iload_n B (pc := 0) 1 dL_does_0 rfl rfl ?_
  refine x_if_ne B (pc := 1) 13 dL_does_1 (by decide) (fun h1 => absurd (by decide) h1) (fun h1 => ?_)
  refine x_aload_n B (pc := 4) 0 dL_does_4 rfl rfl ?_
  refine x_iload_n B (pc := 5) 2 dL_does_5 rfl rfl ?_
  refine x_iload_n B (pc := 6) 3 dL_does_6 rfl rfl ?_
  have hkx : ∀ E, xpo (cod (xinB 0 3 a) (xinB 0 2 b) true) xIOB xIAE xISE E → X E 7 [(0, .ref (ad 0)), (1, .int 0), (2, .int a), (3, .int b)] [xoW ad up op tr, lkW D ad L] 1 6 := by
    intro E hE
    rcases hE with ⟨hc, rfl⟩ | ⟨hc, rfl⟩ | ⟨hc, rfl⟩
    · refine x_catch B [] ⟨0, 61, 62, 26⟩ [⟨0, 61, 67, 28⟩, ⟨0, 61, 72, 30⟩] rfl (fun z hz => nomatch hz) (by decide) (by decide) tm179 (by decide +kernel) (fun q => ?_)
      show G 62 [(0, .ref (ad 0)), (1, .int 0), (2, .int a), (3, .int b)] [.ref q] [xoW ad up op tr, lkW D ad L] 1 6
      refine x_astore B (pc := 62) [(4, .ref q), (0, .ref (ad 0)), (1, .int 0), (2, .int a), (3, .int b)] dL_does_62 (by decide) rfl ?_
      refine x_bipush B (pc := 64) (-8) dL_does_64 (by decide) ?_
      exact x_iret F (pc := 66) rfl dL_does_66 (Or.inr ⟨by rw [hc]; decide, rfl, rfl⟩) (Nat.le_of_ble_eq_true rfl) (Nat.le_of_ble_eq_true rfl)
    · refine x_catch B [⟨0, 61, 62, 26⟩] ⟨0, 61, 67, 28⟩ [⟨0, 61, 72, 30⟩] rfl (List.forall_mem_cons.mpr ⟨⟨by decide, _, tm179, by decide +kernel⟩, (fun z hz => nomatch hz)⟩) (by decide) (by decide) tm180 (by decide +kernel) (fun q => ?_)
      show G 67 [(0, .ref (ad 0)), (1, .int 0), (2, .int a), (3, .int b)] [.ref q] [xoW ad up op tr, lkW D ad L] 1 6
      refine x_astore B (pc := 67) [(4, .ref q), (0, .ref (ad 0)), (1, .int 0), (2, .int a), (3, .int b)] dL_does_67 (by decide) rfl ?_
      refine x_bipush B (pc := 69) (-8) dL_does_69 (by decide) ?_
      exact x_iret F (pc := 71) rfl dL_does_71 (Or.inr ⟨by rw [hc]; decide, rfl, rfl⟩) (Nat.le_of_ble_eq_true rfl) (Nat.le_of_ble_eq_true rfl)
    · refine x_catch B [⟨0, 61, 62, 26⟩, ⟨0, 61, 67, 28⟩] ⟨0, 61, 72, 30⟩ [] rfl (List.forall_mem_cons.mpr ⟨⟨by decide, _, tm179, by decide +kernel⟩, (List.forall_mem_cons.mpr ⟨⟨by decide, _, tm180, by decide +kernel⟩, (fun z hz => nomatch hz)⟩)⟩) (by decide) (by decide) tm181 (by decide +kernel) (fun q => ?_)
      show G 72 [(0, .ref (ad 0)), (1, .int 0), (2, .int a), (3, .int b)] [.ref q] [xoW ad up op tr, lkW D ad L] 1 6
      refine x_astore B (pc := 72) [(4, .ref q), (0, .ref (ad 0)), (1, .int 0), (2, .int a), (3, .int b)] dL_does_72 (by decide) rfl ?_
      refine x_bipush B (pc := 74) (-8) dL_does_74 (by decide) ?_
      exact x_iret F (pc := 76) rfl dL_does_76 (Or.inr ⟨by rw [hc]; decide, rfl, rfl⟩) (Nat.le_of_ble_eq_true rfl) (Nat.le_of_ble_eq_true rfl)
  refine x_callV B (pc := 7) (As := [.int a, .int b]) (c_X3_setMode hl D e0 ) xcl_X rfl 0 0 rfl rfl tm182 tm183 tm184 tm1 tm185 md_X3_setMode ⟨Nat.le_of_ble_eq_true rfl, Nat.le_of_ble_eq_true rfl⟩ [0, 1] rfl rfl rfl (Nat.le_of_ble_eq_true rfl) (Nat.le_of_ble_eq_true rfl) (Nat.le_of_ble_eq_true rfl) dL_does_7 (fun E hE => hkx E hE) (fun v cs1 hp => ?_)
  obtain ⟨hc, rfl, rfl⟩ := hp
  show G 10 [(0, .ref (ad 0)), (1, .int 0), (2, .int a), (3, .int b)] [.int (L 0 (ix a))] [xoW ad up op tr, lkW D ad (xup L 0 (ix a) b)] 1 6
  refine x_goto B (pc := 10) 61 dL_does_10 (by decide) ?_
  exact x_iret F (pc := 61) rfl dL_does_61 (Or.inl ⟨hc, rfl, rfl⟩) (Nat.le_of_ble_eq_true rfl) (Nat.le_of_ble_eq_true rfl)

set_option maxRecDepth 100000 in
set_option maxHeartbeats 4000000 in
theorem c_does_grant {l : Launch} (hl : l.stackTraces = false) (D : va_G) (e0 : Nat) {ad : Nat → Nat} {up op tr : Int32} {L : xS} {gb : xRg} {qb : List xFr} {a b : Int32} (hup : up = 0 ∨ up = 1) (hq : rwOk qb gb) (hql : qb.length < 512) : xC l yL_does (.codeWith yL_does cL_does 5 (some .int) [(0, 61, 62, 26), (0, 61, 67, 28), (0, 61, 72, 30)]) ({ frames := 8, cells := 1, slots := 6, locals := 127 } : Room) D e0 [.ref (ad 0), .int 1, .int a, .int b] [xoW ad up op tr, lkW D ad L, rwW D (ad 4) (ad 13) (ad 14) (ad 15) gb qb.length] (fun w cs => (cod (xinB 0 3 a) (xinB 0 15 b) (decide (up = 1)) = 0 ∧ w = some (.int (grV L a b)) ∧ ∃ g1, rwOk (qb ++ [(3, ix a, ix (grV L a b))]) g1 ∧ cs = [xoW ad up op tr, lkW D ad L, rwW D (ad 4) (ad 13) (ad 14) (ad 15) g1 ((qb ++ [(3, ix a, ix (grV L a b))]).length)]) ∨ (cod (xinB 0 3 a) (xinB 0 15 b) (decide (up = 1)) ≠ 0 ∧ w = some (.int (-8)) ∧ cs = [xoW ad up op tr, lkW D ad L, rwW D (ad 4) (ad 13) (ad 14) (ad 15) gb qb.length])) (fun _ => False) := by
  refine xCw_of hl (by decide +kernel) (Nat.le_of_ble_eq_true rfl) (fun G X F => ?_)
  have B : xB l D e0 "CreditLinksLaw" cL_does 5 (some .int) [(0, 61, 62, 26), (0, 61, 67, 28), (0, 61, 72, 30)] _ G X := F.base
  show G 0 [(0, .ref (ad 0)), (1, .int 1), (2, .int a), (3, .int b)] [] [xoW ad up op tr, lkW D ad L, rwW D (ad 4) (ad 13) (ad 14) (ad 15) gb qb.length] 0 0
  refine x_iload_n B (pc := 0) 1 dL_does_0 rfl rfl ?_
  refine x_if_ne B (pc := 1) 13 dL_does_1 (by decide) (fun h1 => ?_) (fun h1 => absurd h1 (by decide))
  refine x_iload_n B (pc := 13) 1 dL_does_13 rfl rfl ?_
  refine x_iconst B (pc := 14) 1 dL_does_14 (by decide) ?_
  refine x_icmp_ne B (pc := 15) 27 dL_does_15 (by decide) (fun h15 => absurd (by decide) h15) (fun h15 => ?_)
  refine x_aload_n B (pc := 18) 0 dL_does_18 rfl rfl ?_
  refine x_iload_n B (pc := 19) 2 dL_does_19 rfl rfl ?_
  refine x_iload_n B (pc := 20) 3 dL_does_20 rfl rfl ?_
  have hkx : ∀ E, xpo (cod (xinB 0 3 a) (xinB 0 15 b) (decide (up = 1))) xIOB xIAE xISE E → X E 21 [(0, .ref (ad 0)), (1, .int 1), (2, .int a), (3, .int b)] [xoW ad up op tr, lkW D ad L, rwW D (ad 4) (ad 13) (ad 14) (ad 15) gb qb.length] 1 6 := by
    intro E hE
    rcases hE with ⟨hc, rfl⟩ | ⟨hc, rfl⟩ | ⟨hc, rfl⟩
    · refine x_catch B [] ⟨0, 61, 62, 26⟩ [⟨0, 61, 67, 28⟩, ⟨0, 61, 72, 30⟩] rfl (fun z hz => nomatch hz) (by decide) (by decide) tm179 (by decide +kernel) (fun q => ?_)
      show G 62 [(0, .ref (ad 0)), (1, .int 1), (2, .int a), (3, .int b)] [.ref q] [xoW ad up op tr, lkW D ad L, rwW D (ad 4) (ad 13) (ad 14) (ad 15) gb qb.length] 1 6
      refine x_astore B (pc := 62) [(4, .ref q), (0, .ref (ad 0)), (1, .int 1), (2, .int a), (3, .int b)] dL_does_62 (by decide) rfl ?_
      refine x_bipush B (pc := 64) (-8) dL_does_64 (by decide) ?_
      exact x_iret F (pc := 66) rfl dL_does_66 (Or.inr ⟨by rw [hc]; decide, rfl, rfl⟩) (Nat.le_of_ble_eq_true rfl) (Nat.le_of_ble_eq_true rfl)
    · refine x_catch B [⟨0, 61, 62, 26⟩] ⟨0, 61, 67, 28⟩ [⟨0, 61, 72, 30⟩] rfl (List.forall_mem_cons.mpr ⟨⟨by decide, _, tm179, by decide +kernel⟩, (fun z hz => nomatch hz)⟩) (by decide) (by decide) tm180 (by decide +kernel) (fun q => ?_)
      show G 67 [(0, .ref (ad 0)), (1, .int 1), (2, .int a), (3, .int b)] [.ref q] [xoW ad up op tr, lkW D ad L, rwW D (ad 4) (ad 13) (ad 14) (ad 15) gb qb.length] 1 6
      refine x_astore B (pc := 67) [(4, .ref q), (0, .ref (ad 0)), (1, .int 1), (2, .int a), (3, .int b)] dL_does_67 (by decide) rfl ?_
      refine x_bipush B (pc := 69) (-8) dL_does_69 (by decide) ?_
      exact x_iret F (pc := 71) rfl dL_does_71 (Or.inr ⟨by rw [hc]; decide, rfl, rfl⟩) (Nat.le_of_ble_eq_true rfl) (Nat.le_of_ble_eq_true rfl)
    · refine x_catch B [⟨0, 61, 62, 26⟩, ⟨0, 61, 67, 28⟩] ⟨0, 61, 72, 30⟩ [] rfl (List.forall_mem_cons.mpr ⟨⟨by decide, _, tm179, by decide +kernel⟩, (List.forall_mem_cons.mpr ⟨⟨by decide, _, tm180, by decide +kernel⟩, (fun z hz => nomatch hz)⟩)⟩) (by decide) (by decide) tm181 (by decide +kernel) (fun q => ?_)
      show G 72 [(0, .ref (ad 0)), (1, .int 1), (2, .int a), (3, .int b)] [.ref q] [xoW ad up op tr, lkW D ad L, rwW D (ad 4) (ad 13) (ad 14) (ad 15) gb qb.length] 1 6
      refine x_astore B (pc := 72) [(4, .ref q), (0, .ref (ad 0)), (1, .int 1), (2, .int a), (3, .int b)] dL_does_72 (by decide) rfl ?_
      refine x_bipush B (pc := 74) (-8) dL_does_74 (by decide) ?_
      exact x_iret F (pc := 76) rfl dL_does_76 (Or.inr ⟨by rw [hc]; decide, rfl, rfl⟩) (Nat.le_of_ble_eq_true rfl) (Nat.le_of_ble_eq_true rfl)
  refine x_callV B (pc := 21) (As := [.int a, .int b]) (c_X3_grant hl D e0 hup hq hql) xcl_X rfl 0 0 rfl rfl tm274 tm275 tm276 tm1 tm277 md_X3_grant ⟨Nat.le_of_ble_eq_true rfl, Nat.le_of_ble_eq_true rfl⟩ [0, 1, 2] rfl rfl rfl (Nat.le_of_ble_eq_true rfl) (Nat.le_of_ble_eq_true rfl) (Nat.le_of_ble_eq_true rfl) dL_does_21 (fun E hE => hkx E hE) (fun v cs1 hp => ?_)
  obtain ⟨hc, rfl, g1, hf0, rfl⟩ := hp
  show G 24 [(0, .ref (ad 0)), (1, .int 1), (2, .int a), (3, .int b)] [.int (grV L a b)] [xoW ad up op tr, lkW D ad L, rwW D (ad 4) (ad 13) (ad 14) (ad 15) g1 ((qb ++ [(3, ix a, ix (grV L a b))]).length)] 1 6
  refine x_goto B (pc := 24) 61 dL_does_24 (by decide) ?_
  exact x_iret F (pc := 61) rfl dL_does_61 (Or.inl ⟨hc, rfl, g1, hf0, rfl⟩) (Nat.le_of_ble_eq_true rfl) (Nat.le_of_ble_eq_true rfl)

set_option maxRecDepth 100000 in
set_option maxHeartbeats 4000000 in
theorem c_does_send {l : Launch} (hl : l.stackTraces = false) (D : va_G) (e0 : Nat) {ad : Nat → Nat} {up op tr : Int32} {L : xS} {hs : xAg} {N : Nat} {gf : xRg} {qf : List xFr} {da : Nat → Nat} {S : xS} {om : Nat → Int32} {a b : Int32} (hup : up = 0 ∨ up = 1) (hok : alOk hs N da) (hN : N ≤ 60) (hq : rwOk qf gf) (hql : qf.length + 4 ≤ 512) (hz : S 9 N = 0 ∧ S 10 N = 0 ∧ S 11 N = 0 ∧ S 13 N = 0) : xC l yL_does (.codeWith yL_does cL_does 5 (some .int) [(0, 61, 62, 26), (0, 61, 67, 28), (0, 61, 72, 30)]) ({ frames := 8, cells := 2, slots := 212, locals := 185 } : Room) D e0 [.ref (ad 0), .int 2, .int a, .int b] [xoW ad up op tr, lkW D ad L, alW D e0 (ad 2) hs N, rwW D (ad 3) (ad 10) (ad 11) (ad 12) gf qf.length, dvW da N S om] (fun w cs => (cod (xinB 0 3 a) (xinB 1 4 b) (decide (up = 1) && (decide (N < 60) && !decide (crd L (ix a) = 0))) = 0 ∧ w = some (.int (nI N)) ∧ ∃ h1 g1 da1, alOk h1 (N + 1) da1 ∧ (∀ i, i < N → da1 i = da i) ∧ rwOk (qf ++ pts 0 N (ix b)) g1 ∧ cs = [xoW ad up op tr, lkW D ad (xup L 1 (ix a) ((L 1 (ix a) + 1) &&& 15)), alW D e0 (ad 2) h1 (N + 1), rwW D (ad 3) (ad 10) (ad 11) (ad 12) g1 ((qf ++ pts 0 N (ix b)).length), dvW da1 (N + 1) (sendS L S N a b) (upd om N (-1))]) ∨ (cod (xinB 0 3 a) (xinB 1 4 b) (decide (up = 1) && (decide (N < 60) && !decide (crd L (ix a) = 0))) ≠ 0 ∧ w = some (.int (-8)) ∧ cs = [xoW ad up op tr, lkW D ad L, alW D e0 (ad 2) hs N, rwW D (ad 3) (ad 10) (ad 11) (ad 12) gf qf.length, dvW da N S om])) (fun _ => False) := by
  refine xCw_of hl (by decide +kernel) (Nat.le_of_ble_eq_true rfl) (fun G X F => ?_)
  have B : xB l D e0 "CreditLinksLaw" cL_does 5 (some .int) [(0, 61, 62, 26), (0, 61, 67, 28), (0, 61, 72, 30)] _ G X := F.base
  show G 0 [(0, .ref (ad 0)), (1, .int 2), (2, .int a), (3, .int b)] [] [xoW ad up op tr, lkW D ad L, alW D e0 (ad 2) hs N, rwW D (ad 3) (ad 10) (ad 11) (ad 12) gf qf.length, dvW da N S om] 0 0
  refine x_iload_n B (pc := 0) 1 dL_does_0 rfl rfl ?_
  refine x_if_ne B (pc := 1) 13 dL_does_1 (by decide) (fun h1 => ?_) (fun h1 => absurd h1 (by decide))
  refine x_iload_n B (pc := 13) 1 dL_does_13 rfl rfl ?_
  refine x_iconst B (pc := 14) 1 dL_does_14 (by decide) ?_
  refine x_icmp_ne B (pc := 15) 27 dL_does_15 (by decide) (fun h15 => ?_) (fun h15 => absurd h15 (by decide))
  refine x_iload_n B (pc := 27) 1 dL_does_27 rfl rfl ?_
  refine x_iconst B (pc := 28) 2 dL_does_28 (by decide) ?_
  refine x_icmp_ne B (pc := 29) 41 dL_does_29 (by decide) (fun h29 => absurd (by decide) h29) (fun h29 => ?_)
  refine x_aload_n B (pc := 32) 0 dL_does_32 rfl rfl ?_
  refine x_iload_n B (pc := 33) 2 dL_does_33 rfl rfl ?_
  refine x_iload_n B (pc := 34) 3 dL_does_34 rfl rfl ?_
  have hkx : ∀ E, xpo (cod (xinB 0 3 a) (xinB 1 4 b) (decide (up = 1) && (decide (N < 60) && !decide (crd L (ix a) = 0)))) xIOB xIAE xISE E → X E 35 [(0, .ref (ad 0)), (1, .int 2), (2, .int a), (3, .int b)] [xoW ad up op tr, lkW D ad L, alW D e0 (ad 2) hs N, rwW D (ad 3) (ad 10) (ad 11) (ad 12) gf qf.length, dvW da N S om] 2 212 := by
    intro E hE
    rcases hE with ⟨hc, rfl⟩ | ⟨hc, rfl⟩ | ⟨hc, rfl⟩
    · refine x_catch B [] ⟨0, 61, 62, 26⟩ [⟨0, 61, 67, 28⟩, ⟨0, 61, 72, 30⟩] rfl (fun z hz => nomatch hz) (by decide) (by decide) tm179 (by decide +kernel) (fun q => ?_)
      show G 62 [(0, .ref (ad 0)), (1, .int 2), (2, .int a), (3, .int b)] [.ref q] [xoW ad up op tr, lkW D ad L, alW D e0 (ad 2) hs N, rwW D (ad 3) (ad 10) (ad 11) (ad 12) gf qf.length, dvW da N S om] 2 212
      refine x_astore B (pc := 62) [(4, .ref q), (0, .ref (ad 0)), (1, .int 2), (2, .int a), (3, .int b)] dL_does_62 (by decide) rfl ?_
      refine x_bipush B (pc := 64) (-8) dL_does_64 (by decide) ?_
      exact x_iret F (pc := 66) rfl dL_does_66 (Or.inr ⟨by rw [hc]; decide, rfl, rfl⟩) (Nat.le_of_ble_eq_true rfl) (Nat.le_of_ble_eq_true rfl)
    · refine x_catch B [⟨0, 61, 62, 26⟩] ⟨0, 61, 67, 28⟩ [⟨0, 61, 72, 30⟩] rfl (List.forall_mem_cons.mpr ⟨⟨by decide, _, tm179, by decide +kernel⟩, (fun z hz => nomatch hz)⟩) (by decide) (by decide) tm180 (by decide +kernel) (fun q => ?_)
      show G 67 [(0, .ref (ad 0)), (1, .int 2), (2, .int a), (3, .int b)] [.ref q] [xoW ad up op tr, lkW D ad L, alW D e0 (ad 2) hs N, rwW D (ad 3) (ad 10) (ad 11) (ad 12) gf qf.length, dvW da N S om] 2 212
      refine x_astore B (pc := 67) [(4, .ref q), (0, .ref (ad 0)), (1, .int 2), (2, .int a), (3, .int b)] dL_does_67 (by decide) rfl ?_
      refine x_bipush B (pc := 69) (-8) dL_does_69 (by decide) ?_
      exact x_iret F (pc := 71) rfl dL_does_71 (Or.inr ⟨by rw [hc]; decide, rfl, rfl⟩) (Nat.le_of_ble_eq_true rfl) (Nat.le_of_ble_eq_true rfl)
    · refine x_catch B [⟨0, 61, 62, 26⟩, ⟨0, 61, 67, 28⟩] ⟨0, 61, 72, 30⟩ [] rfl (List.forall_mem_cons.mpr ⟨⟨by decide, _, tm179, by decide +kernel⟩, (List.forall_mem_cons.mpr ⟨⟨by decide, _, tm180, by decide +kernel⟩, (fun z hz => nomatch hz)⟩)⟩) (by decide) (by decide) tm181 (by decide +kernel) (fun q => ?_)
      show G 72 [(0, .ref (ad 0)), (1, .int 2), (2, .int a), (3, .int b)] [.ref q] [xoW ad up op tr, lkW D ad L, alW D e0 (ad 2) hs N, rwW D (ad 3) (ad 10) (ad 11) (ad 12) gf qf.length, dvW da N S om] 2 212
      refine x_astore B (pc := 72) [(4, .ref q), (0, .ref (ad 0)), (1, .int 2), (2, .int a), (3, .int b)] dL_does_72 (by decide) rfl ?_
      refine x_bipush B (pc := 74) (-8) dL_does_74 (by decide) ?_
      exact x_iret F (pc := 76) rfl dL_does_76 (Or.inr ⟨by rw [hc]; decide, rfl, rfl⟩) (Nat.le_of_ble_eq_true rfl) (Nat.le_of_ble_eq_true rfl)
  refine x_callV B (pc := 35) (As := [.int a, .int b]) (c_X3_send hl D e0 hup hok hN hq hql hz) xcl_X rfl 0 0 rfl rfl tm309 tm310 tm311 tm1 tm312 md_X3_send ⟨Nat.le_of_ble_eq_true rfl, Nat.le_of_ble_eq_true rfl⟩ [0, 1, 2, 3, 4] rfl rfl rfl (Nat.le_of_ble_eq_true rfl) (Nat.le_of_ble_eq_true rfl) (Nat.le_of_ble_eq_true rfl) dL_does_35 (fun E hE => hkx E hE) (fun v cs1 hp => ?_)
  obtain ⟨hc, rfl, h1, g1, da1, hf0, hf1, hf2, rfl⟩ := hp
  show G 38 [(0, .ref (ad 0)), (1, .int 2), (2, .int a), (3, .int b)] [.int (nI N)] [xoW ad up op tr, lkW D ad (xup L 1 (ix a) ((L 1 (ix a) + 1) &&& 15)), alW D e0 (ad 2) h1 (N + 1), rwW D (ad 3) (ad 10) (ad 11) (ad 12) g1 ((qf ++ pts 0 N (ix b)).length), dvW da1 (N + 1) (sendS L S N a b) (upd om N (-1))] 2 212
  refine x_goto B (pc := 38) 61 dL_does_38 (by decide) ?_
  exact x_iret F (pc := 61) rfl dL_does_61 (Or.inl ⟨hc, rfl, h1, g1, da1, hf0, hf1, hf2, rfl⟩) (Nat.le_of_ble_eq_true rfl) (Nat.le_of_ble_eq_true rfl)

set_option maxRecDepth 100000 in
set_option maxHeartbeats 4000000 in
theorem c_does_decide {l : Launch} (hl : l.stackTraces = false) (D : va_G) (e0 : Nat) {ad : Nat → Nat} {up op tr : Int32} {hs : xAg} {N : Nat} {gb : xRg} {qb : List xFr} {da : Nat → Nat} {S : xS} {om : Nat → Int32} {a b : Int32} (hup : up = 0 ∨ up = 1) (hok : alOk hs N da) (hN : N ≤ 60) (hq : rwOk qb gb) (hql : qb.length < 512) : xC l yL_does (.codeWith yL_does cL_does 5 (some .int) [(0, 61, 62, 26), (0, 61, 67, 28), (0, 61, 72, 30)]) ({ frames := 8, cells := 1, slots := 6, locals := 126 } : Room) D e0 [.ref (ad 0), .int 3, .int a, .int b] [xoW ad up op tr, alW D e0 (ad 2) hs N, rwW D (ad 4) (ad 13) (ad 14) (ad 15) gb qb.length, dvW da N S om] (fun w cs => (cod (xinD N a) (xinB 0 2 b) (decide (up = 1) && (decide (S 9 (ix a) = 2) && decide (S 14 (ix a) = -1))) = 0 ∧ w = some (.int (aDec S (ix a) b 13 (ix a))) ∧ ∃ g1, rwOk (aOut S (ix a) (ix b) qb) g1 ∧ cs = [xoW ad up op tr, alW D e0 (ad 2) hs N, rwW D (ad 4) (ad 13) (ad 14) (ad 15) g1 ((aOut S (ix a) (ix b) qb).length), dvW da N (aDec S (ix a) b) (upd om (ix a) b)]) ∨ (cod (xinD N a) (xinB 0 2 b) (decide (up = 1) && (decide (S 9 (ix a) = 2) && decide (S 14 (ix a) = -1))) ≠ 0 ∧ w = some (.int (-8)) ∧ cs = [xoW ad up op tr, alW D e0 (ad 2) hs N, rwW D (ad 4) (ad 13) (ad 14) (ad 15) gb qb.length, dvW da N S om])) (fun _ => False) := by
  refine xCw_of hl (by decide +kernel) (Nat.le_of_ble_eq_true rfl) (fun G X F => ?_)
  have B : xB l D e0 "CreditLinksLaw" cL_does 5 (some .int) [(0, 61, 62, 26), (0, 61, 67, 28), (0, 61, 72, 30)] _ G X := F.base
  show G 0 [(0, .ref (ad 0)), (1, .int 3), (2, .int a), (3, .int b)] [] [xoW ad up op tr, alW D e0 (ad 2) hs N, rwW D (ad 4) (ad 13) (ad 14) (ad 15) gb qb.length, dvW da N S om] 0 0
  refine x_iload_n B (pc := 0) 1 dL_does_0 rfl rfl ?_
  refine x_if_ne B (pc := 1) 13 dL_does_1 (by decide) (fun h1 => ?_) (fun h1 => absurd h1 (by decide))
  refine x_iload_n B (pc := 13) 1 dL_does_13 rfl rfl ?_
  refine x_iconst B (pc := 14) 1 dL_does_14 (by decide) ?_
  refine x_icmp_ne B (pc := 15) 27 dL_does_15 (by decide) (fun h15 => ?_) (fun h15 => absurd h15 (by decide))
  refine x_iload_n B (pc := 27) 1 dL_does_27 rfl rfl ?_
  refine x_iconst B (pc := 28) 2 dL_does_28 (by decide) ?_
  refine x_icmp_ne B (pc := 29) 41 dL_does_29 (by decide) (fun h29 => ?_) (fun h29 => absurd h29 (by decide))
  refine x_iload_n B (pc := 41) 1 dL_does_41 rfl rfl ?_
  refine x_iconst B (pc := 42) 3 dL_does_42 (by decide) ?_
  refine x_icmp_ne B (pc := 43) 55 dL_does_43 (by decide) (fun h43 => absurd (by decide) h43) (fun h43 => ?_)
  refine x_aload_n B (pc := 46) 0 dL_does_46 rfl rfl ?_
  refine x_iload_n B (pc := 47) 2 dL_does_47 rfl rfl ?_
  refine x_iload_n B (pc := 48) 3 dL_does_48 rfl rfl ?_
  have hkx : ∀ E, xpo (cod (xinD N a) (xinB 0 2 b) (decide (up = 1) && (decide (S 9 (ix a) = 2) && decide (S 14 (ix a) = -1)))) xIOB xIAE xISE E → X E 49 [(0, .ref (ad 0)), (1, .int 3), (2, .int a), (3, .int b)] [xoW ad up op tr, alW D e0 (ad 2) hs N, rwW D (ad 4) (ad 13) (ad 14) (ad 15) gb qb.length, dvW da N S om] 1 6 := by
    intro E hE
    rcases hE with ⟨hc, rfl⟩ | ⟨hc, rfl⟩ | ⟨hc, rfl⟩
    · refine x_catch B [] ⟨0, 61, 62, 26⟩ [⟨0, 61, 67, 28⟩, ⟨0, 61, 72, 30⟩] rfl (fun z hz => nomatch hz) (by decide) (by decide) tm179 (by decide +kernel) (fun q => ?_)
      show G 62 [(0, .ref (ad 0)), (1, .int 3), (2, .int a), (3, .int b)] [.ref q] [xoW ad up op tr, alW D e0 (ad 2) hs N, rwW D (ad 4) (ad 13) (ad 14) (ad 15) gb qb.length, dvW da N S om] 1 6
      refine x_astore B (pc := 62) [(4, .ref q), (0, .ref (ad 0)), (1, .int 3), (2, .int a), (3, .int b)] dL_does_62 (by decide) rfl ?_
      refine x_bipush B (pc := 64) (-8) dL_does_64 (by decide) ?_
      exact x_iret F (pc := 66) rfl dL_does_66 (Or.inr ⟨by rw [hc]; decide, rfl, rfl⟩) (Nat.le_of_ble_eq_true rfl) (Nat.le_of_ble_eq_true rfl)
    · refine x_catch B [⟨0, 61, 62, 26⟩] ⟨0, 61, 67, 28⟩ [⟨0, 61, 72, 30⟩] rfl (List.forall_mem_cons.mpr ⟨⟨by decide, _, tm179, by decide +kernel⟩, (fun z hz => nomatch hz)⟩) (by decide) (by decide) tm180 (by decide +kernel) (fun q => ?_)
      show G 67 [(0, .ref (ad 0)), (1, .int 3), (2, .int a), (3, .int b)] [.ref q] [xoW ad up op tr, alW D e0 (ad 2) hs N, rwW D (ad 4) (ad 13) (ad 14) (ad 15) gb qb.length, dvW da N S om] 1 6
      refine x_astore B (pc := 67) [(4, .ref q), (0, .ref (ad 0)), (1, .int 3), (2, .int a), (3, .int b)] dL_does_67 (by decide) rfl ?_
      refine x_bipush B (pc := 69) (-8) dL_does_69 (by decide) ?_
      exact x_iret F (pc := 71) rfl dL_does_71 (Or.inr ⟨by rw [hc]; decide, rfl, rfl⟩) (Nat.le_of_ble_eq_true rfl) (Nat.le_of_ble_eq_true rfl)
    · refine x_catch B [⟨0, 61, 62, 26⟩, ⟨0, 61, 67, 28⟩] ⟨0, 61, 72, 30⟩ [] rfl (List.forall_mem_cons.mpr ⟨⟨by decide, _, tm179, by decide +kernel⟩, (List.forall_mem_cons.mpr ⟨⟨by decide, _, tm180, by decide +kernel⟩, (fun z hz => nomatch hz)⟩)⟩) (by decide) (by decide) tm181 (by decide +kernel) (fun q => ?_)
      show G 72 [(0, .ref (ad 0)), (1, .int 3), (2, .int a), (3, .int b)] [.ref q] [xoW ad up op tr, alW D e0 (ad 2) hs N, rwW D (ad 4) (ad 13) (ad 14) (ad 15) gb qb.length, dvW da N S om] 1 6
      refine x_astore B (pc := 72) [(4, .ref q), (0, .ref (ad 0)), (1, .int 3), (2, .int a), (3, .int b)] dL_does_72 (by decide) rfl ?_
      refine x_bipush B (pc := 74) (-8) dL_does_74 (by decide) ?_
      exact x_iret F (pc := 76) rfl dL_does_76 (Or.inr ⟨by rw [hc]; decide, rfl, rfl⟩) (Nat.le_of_ble_eq_true rfl) (Nat.le_of_ble_eq_true rfl)
  refine x_callV B (pc := 49) (As := [.int a, .int b]) (c_X3_decide hl D e0 hup hok hN hq hql) xcl_X rfl 0 0 rfl rfl tm435 tm436 tm437 tm1 tm438 md_X3_decide ⟨Nat.le_of_ble_eq_true rfl, Nat.le_of_ble_eq_true rfl⟩ [0, 1, 2, 3] rfl rfl rfl (Nat.le_of_ble_eq_true rfl) (Nat.le_of_ble_eq_true rfl) (Nat.le_of_ble_eq_true rfl) dL_does_49 (fun E hE => hkx E hE) (fun v cs1 hp => ?_)
  obtain ⟨hc, rfl, g1, hf0, rfl⟩ := hp
  show G 52 [(0, .ref (ad 0)), (1, .int 3), (2, .int a), (3, .int b)] [.int (aDec S (ix a) b 13 (ix a))] [xoW ad up op tr, alW D e0 (ad 2) hs N, rwW D (ad 4) (ad 13) (ad 14) (ad 15) g1 ((aOut S (ix a) (ix b) qb).length), dvW da N (aDec S (ix a) b) (upd om (ix a) b)] 1 6
  refine x_goto B (pc := 52) 61 dL_does_52 (by decide) ?_
  exact x_iret F (pc := 61) rfl dL_does_61 (Or.inl ⟨hc, rfl, g1, hf0, rfl⟩) (Nat.le_of_ble_eq_true rfl) (Nat.le_of_ble_eq_true rfl)

set_option maxRecDepth 100000 in
set_option maxHeartbeats 4000000 in
theorem c_does_tell {l : Launch} (hl : l.stackTraces = false) (D : va_G) (e0 : Nat) {ad : Nat → Nat} {up op tr : Int32} {hs : xAg} {N : Nat} {ht : xAg} {tq : List Nat} {da : Nat → Nat} {S : xS} {om : Nat → Int32} {a b : Int32} (hop : op = 0 ∨ op = 1) (hok : alOk hs N da) (hN : N ≤ 60) (hot : alOk ht tq.length (fun i => da (tq.getD i 0))) (hT : tq.length ≤ 60) (hin : ∀ i, i < tq.length → tq.getD i 0 < N) : xC l yL_does (.codeWith yL_does cL_does 5 (some .int) [(0, 61, 62, 26), (0, 61, 67, 28), (0, 61, 72, 30)]) ({ frames := 8, cells := 1, slots := 200, locals := 184 } : Room) D e0 [.ref (ad 0), .int 4, .int a, .int b] [xoW ad up op tr, alW D e0 (ad 2) hs N, alW D e0 (ad 5) ht tq.length, dvW da N S om] (fun w cs => (cod (xinD N a) (xinB 0 2 b) (decide (op = 1) && (decide (S 9 (ix a) = 2) && decide (S 14 (ix a) = -1))) = 0 ∧ w = some (.int (nI (tq.length + 1))) ∧ ∃ h1, alOk h1 (tq.length + 1) (fun i => da ((tq ++ [ix a]).getD i 0)) ∧ cs = [xoW ad up op tr, alW D e0 (ad 2) hs N, alW D e0 (ad 5) h1 (tq.length + 1), dvW da N (xup S 14 (ix a) b) om]) ∨ (cod (xinD N a) (xinB 0 2 b) (decide (op = 1) && (decide (S 9 (ix a) = 2) && decide (S 14 (ix a) = -1))) ≠ 0 ∧ w = some (.int (-8)) ∧ cs = [xoW ad up op tr, alW D e0 (ad 2) hs N, alW D e0 (ad 5) ht tq.length, dvW da N S om])) (fun _ => False) := by
  refine xCw_of hl (by decide +kernel) (Nat.le_of_ble_eq_true rfl) (fun G X F => ?_)
  have B : xB l D e0 "CreditLinksLaw" cL_does 5 (some .int) [(0, 61, 62, 26), (0, 61, 67, 28), (0, 61, 72, 30)] _ G X := F.base
  show G 0 [(0, .ref (ad 0)), (1, .int 4), (2, .int a), (3, .int b)] [] [xoW ad up op tr, alW D e0 (ad 2) hs N, alW D e0 (ad 5) ht tq.length, dvW da N S om] 0 0
  refine x_iload_n B (pc := 0) 1 dL_does_0 rfl rfl ?_
  refine x_if_ne B (pc := 1) 13 dL_does_1 (by decide) (fun h1 => ?_) (fun h1 => absurd h1 (by decide))
  refine x_iload_n B (pc := 13) 1 dL_does_13 rfl rfl ?_
  refine x_iconst B (pc := 14) 1 dL_does_14 (by decide) ?_
  refine x_icmp_ne B (pc := 15) 27 dL_does_15 (by decide) (fun h15 => ?_) (fun h15 => absurd h15 (by decide))
  refine x_iload_n B (pc := 27) 1 dL_does_27 rfl rfl ?_
  refine x_iconst B (pc := 28) 2 dL_does_28 (by decide) ?_
  refine x_icmp_ne B (pc := 29) 41 dL_does_29 (by decide) (fun h29 => ?_) (fun h29 => absurd h29 (by decide))
  refine x_iload_n B (pc := 41) 1 dL_does_41 rfl rfl ?_
  refine x_iconst B (pc := 42) 3 dL_does_42 (by decide) ?_
  refine x_icmp_ne B (pc := 43) 55 dL_does_43 (by decide) (fun h43 => ?_) (fun h43 => absurd h43 (by decide))
  refine x_aload_n B (pc := 55) 0 dL_does_55 rfl rfl ?_
  refine x_iload_n B (pc := 56) 2 dL_does_56 rfl rfl ?_
  refine x_iload_n B (pc := 57) 3 dL_does_57 rfl rfl ?_
  have hkx : ∀ E, xpo (cod (xinD N a) (xinB 0 2 b) (decide (op = 1) && (decide (S 9 (ix a) = 2) && decide (S 14 (ix a) = -1)))) xIOB xIAE xISE E → X E 58 [(0, .ref (ad 0)), (1, .int 4), (2, .int a), (3, .int b)] [xoW ad up op tr, alW D e0 (ad 2) hs N, alW D e0 (ad 5) ht tq.length, dvW da N S om] 1 200 := by
    intro E hE
    rcases hE with ⟨hc, rfl⟩ | ⟨hc, rfl⟩ | ⟨hc, rfl⟩
    · refine x_catch B [] ⟨0, 61, 62, 26⟩ [⟨0, 61, 67, 28⟩, ⟨0, 61, 72, 30⟩] rfl (fun z hz => nomatch hz) (by decide) (by decide) tm179 (by decide +kernel) (fun q => ?_)
      show G 62 [(0, .ref (ad 0)), (1, .int 4), (2, .int a), (3, .int b)] [.ref q] [xoW ad up op tr, alW D e0 (ad 2) hs N, alW D e0 (ad 5) ht tq.length, dvW da N S om] 1 200
      refine x_astore B (pc := 62) [(4, .ref q), (0, .ref (ad 0)), (1, .int 4), (2, .int a), (3, .int b)] dL_does_62 (by decide) rfl ?_
      refine x_bipush B (pc := 64) (-8) dL_does_64 (by decide) ?_
      exact x_iret F (pc := 66) rfl dL_does_66 (Or.inr ⟨by rw [hc]; decide, rfl, rfl⟩) (Nat.le_of_ble_eq_true rfl) (Nat.le_of_ble_eq_true rfl)
    · refine x_catch B [⟨0, 61, 62, 26⟩] ⟨0, 61, 67, 28⟩ [⟨0, 61, 72, 30⟩] rfl (List.forall_mem_cons.mpr ⟨⟨by decide, _, tm179, by decide +kernel⟩, (fun z hz => nomatch hz)⟩) (by decide) (by decide) tm180 (by decide +kernel) (fun q => ?_)
      show G 67 [(0, .ref (ad 0)), (1, .int 4), (2, .int a), (3, .int b)] [.ref q] [xoW ad up op tr, alW D e0 (ad 2) hs N, alW D e0 (ad 5) ht tq.length, dvW da N S om] 1 200
      refine x_astore B (pc := 67) [(4, .ref q), (0, .ref (ad 0)), (1, .int 4), (2, .int a), (3, .int b)] dL_does_67 (by decide) rfl ?_
      refine x_bipush B (pc := 69) (-8) dL_does_69 (by decide) ?_
      exact x_iret F (pc := 71) rfl dL_does_71 (Or.inr ⟨by rw [hc]; decide, rfl, rfl⟩) (Nat.le_of_ble_eq_true rfl) (Nat.le_of_ble_eq_true rfl)
    · refine x_catch B [⟨0, 61, 62, 26⟩, ⟨0, 61, 67, 28⟩] ⟨0, 61, 72, 30⟩ [] rfl (List.forall_mem_cons.mpr ⟨⟨by decide, _, tm179, by decide +kernel⟩, (List.forall_mem_cons.mpr ⟨⟨by decide, _, tm180, by decide +kernel⟩, (fun z hz => nomatch hz)⟩)⟩) (by decide) (by decide) tm181 (by decide +kernel) (fun q => ?_)
      show G 72 [(0, .ref (ad 0)), (1, .int 4), (2, .int a), (3, .int b)] [.ref q] [xoW ad up op tr, alW D e0 (ad 2) hs N, alW D e0 (ad 5) ht tq.length, dvW da N S om] 1 200
      refine x_astore B (pc := 72) [(4, .ref q), (0, .ref (ad 0)), (1, .int 4), (2, .int a), (3, .int b)] dL_does_72 (by decide) rfl ?_
      refine x_bipush B (pc := 74) (-8) dL_does_74 (by decide) ?_
      exact x_iret F (pc := 76) rfl dL_does_76 (Or.inr ⟨by rw [hc]; decide, rfl, rfl⟩) (Nat.le_of_ble_eq_true rfl) (Nat.le_of_ble_eq_true rfl)
  refine x_callV B (pc := 58) (As := [.int a, .int b]) (c_X3_tell hl D e0 hop hok hN hot hT hin) xcl_X rfl 0 0 rfl rfl tm461 tm462 tm463 tm1 tm464 md_X3_tell ⟨Nat.le_of_ble_eq_true rfl, Nat.le_of_ble_eq_true rfl⟩ [0, 1, 2, 3] rfl rfl rfl (Nat.le_of_ble_eq_true rfl) (Nat.le_of_ble_eq_true rfl) (Nat.le_of_ble_eq_true rfl) dL_does_58 (fun E hE => hkx E hE) (fun v cs1 hp => ?_)
  obtain ⟨hc, rfl, h1, hf0, rfl⟩ := hp
  show G 61 [(0, .ref (ad 0)), (1, .int 4), (2, .int a), (3, .int b)] [.int (nI (tq.length + 1))] [xoW ad up op tr, alW D e0 (ad 2) hs N, alW D e0 (ad 5) h1 (tq.length + 1), dvW da N (xup S 14 (ix a) b) om] 1 200
  exact x_iret F (pc := 61) rfl dL_does_61 (Or.inl ⟨hc, rfl, h1, hf0, rfl⟩) (Nat.le_of_ble_eq_true rfl) (Nat.le_of_ble_eq_true rfl)

set_option maxRecDepth 100000 in
set_option maxHeartbeats 4000000 in
theorem c_goes_toReceiver {l : Launch} (hl : l.stackTraces = false) (D : va_G) (e0 : Nat) {ad : Nat → Nat} {up op tr : Int32} {L : xS} {hs : xAg} {N : Nat} {gf : xRg} {qf : List xFr} {da : Nat → Nat} {S : xS} {om : Nat → Int32} {a : Int32} (hok : alOk hs N da) (hN : N ≤ 60) (hq : rwOk qf gf) (hfr : (∀ x, x ∈ qf → x.1 ≤ 2 ∧ x.2.1 < N ∧ x.2.2 < 4)) (hl4 : ∀ d, d < N → ∃ j, j < 4 ∧ S 4 d = nI j) : xC l yL_goes (.codeWith yL_goes cL_goes 4 (some .int) [(0, 75, 76, 28), (0, 75, 80, 30)]) ({ frames := 8, cells := 1, slots := 6, locals := 131 } : Room) D e0 [.ref (ad 0), .int 0, .int a] [xoW ad up op tr, lkW D ad L, alW D e0 (ad 2) hs N, rwW D (ad 3) (ad 10) (ad 11) (ad 12) gf qf.length, dvW da N S om] (fun w cs => (cod (xinB 1 100 a) true true = 0 ∧ w = some (.int ((rcvN (ix a) L S qf 0).2.2.2)) ∧ ∃ g1, rwOk (rcvN (ix a) L S qf 0).2.2.1 g1 ∧ cs = [xoW ad up op tr, lkW D ad ((rcvN (ix a) L S qf 0).1), alW D e0 (ad 2) hs N, rwW D (ad 3) (ad 10) (ad 11) (ad 12) g1 (((rcvN (ix a) L S qf 0).2.2.1).length), dvW da N ((rcvN (ix a) L S qf 0).2.1) om]) ∨ (cod (xinB 1 100 a) true true ≠ 0 ∧ w = some (.int (-8)) ∧ cs = [xoW ad up op tr, lkW D ad L, alW D e0 (ad 2) hs N, rwW D (ad 3) (ad 10) (ad 11) (ad 12) gf qf.length, dvW da N S om])) (fun _ => False) := by
  refine xCw_of hl (by decide +kernel) (Nat.le_of_ble_eq_true rfl) (fun G X F => ?_)
  have B : xB l D e0 "CreditLinksLaw" cL_goes 4 (some .int) [(0, 75, 76, 28), (0, 75, 80, 30)] _ G X := F.base
  show G 0 [(0, .ref (ad 0)), (1, .int 0), (2, .int a)] [] [xoW ad up op tr, lkW D ad L, alW D e0 (ad 2) hs N, rwW D (ad 3) (ad 10) (ad 11) (ad 12) gf qf.length, dvW da N S om] 0 0
  refine x_iload_n B (pc := 0) 1 dL_goes_0 rfl rfl ?_
  refine x_if_ne B (pc := 1) 12 dL_goes_1 (by decide) (fun h1 => absurd (by decide) h1) (fun h1 => ?_)
  refine x_aload_n B (pc := 4) 0 dL_goes_4 rfl rfl ?_
  refine x_iload_n B (pc := 5) 2 dL_goes_5 rfl rfl ?_
  have hkx : ∀ E, xpo (cod (xinB 1 100 a) true true) xIAE xIAE xIAE E → X E 6 [(0, .ref (ad 0)), (1, .int 0), (2, .int a)] [xoW ad up op tr, lkW D ad L, alW D e0 (ad 2) hs N, rwW D (ad 3) (ad 10) (ad 11) (ad 12) gf qf.length, dvW da N S om] 1 6 := by
    intro E hE
    rcases hE with ⟨hc, rfl⟩ | ⟨hc, rfl⟩ | ⟨hc, rfl⟩
    · refine x_catch B [] ⟨0, 75, 76, 28⟩ [⟨0, 75, 80, 30⟩] rfl (fun z hz => nomatch hz) (by decide) (by decide) tm180 (by decide +kernel) (fun q => ?_)
      show G 76 [(0, .ref (ad 0)), (1, .int 0), (2, .int a)] [.ref q] [xoW ad up op tr, lkW D ad L, alW D e0 (ad 2) hs N, rwW D (ad 3) (ad 10) (ad 11) (ad 12) gf qf.length, dvW da N S om] 1 6
      refine x_astore_n B (pc := 76) [(3, .ref q), (0, .ref (ad 0)), (1, .int 0), (2, .int a)] dL_goes_76 rfl (by decide) rfl ?_
      refine x_bipush B (pc := 77) (-8) dL_goes_77 (by decide) ?_
      exact x_iret F (pc := 79) rfl dL_goes_79 (Or.inr ⟨by rw [hc]; decide, rfl, rfl⟩) (Nat.le_of_ble_eq_true rfl) (Nat.le_of_ble_eq_true rfl)
    · refine x_catch B [] ⟨0, 75, 76, 28⟩ [⟨0, 75, 80, 30⟩] rfl (fun z hz => nomatch hz) (by decide) (by decide) tm180 (by decide +kernel) (fun q => ?_)
      show G 76 [(0, .ref (ad 0)), (1, .int 0), (2, .int a)] [.ref q] [xoW ad up op tr, lkW D ad L, alW D e0 (ad 2) hs N, rwW D (ad 3) (ad 10) (ad 11) (ad 12) gf qf.length, dvW da N S om] 1 6
      refine x_astore_n B (pc := 76) [(3, .ref q), (0, .ref (ad 0)), (1, .int 0), (2, .int a)] dL_goes_76 rfl (by decide) rfl ?_
      refine x_bipush B (pc := 77) (-8) dL_goes_77 (by decide) ?_
      exact x_iret F (pc := 79) rfl dL_goes_79 (Or.inr ⟨by rw [hc]; decide, rfl, rfl⟩) (Nat.le_of_ble_eq_true rfl) (Nat.le_of_ble_eq_true rfl)
    · refine x_catch B [] ⟨0, 75, 76, 28⟩ [⟨0, 75, 80, 30⟩] rfl (fun z hz => nomatch hz) (by decide) (by decide) tm180 (by decide +kernel) (fun q => ?_)
      show G 76 [(0, .ref (ad 0)), (1, .int 0), (2, .int a)] [.ref q] [xoW ad up op tr, lkW D ad L, alW D e0 (ad 2) hs N, rwW D (ad 3) (ad 10) (ad 11) (ad 12) gf qf.length, dvW da N S om] 1 6
      refine x_astore_n B (pc := 76) [(3, .ref q), (0, .ref (ad 0)), (1, .int 0), (2, .int a)] dL_goes_76 rfl (by decide) rfl ?_
      refine x_bipush B (pc := 77) (-8) dL_goes_77 (by decide) ?_
      exact x_iret F (pc := 79) rfl dL_goes_79 (Or.inr ⟨by rw [hc]; decide, rfl, rfl⟩) (Nat.le_of_ble_eq_true rfl) (Nat.le_of_ble_eq_true rfl)
  refine x_callV B (pc := 6) (As := [.int a]) (c_X3_toReceiver hl D e0 hok hN hq hfr hl4) xcl_X rfl 0 0 rfl rfl tm473 tm474 tm475 tm1 tm476 md_X3_toReceiver ⟨Nat.le_of_ble_eq_true rfl, Nat.le_of_ble_eq_true rfl⟩ [0, 1, 2, 3, 4] rfl rfl rfl (Nat.le_of_ble_eq_true rfl) (Nat.le_of_ble_eq_true rfl) (Nat.le_of_ble_eq_true rfl) dL_goes_6 (fun E hE => hkx E hE) (fun v cs1 hp => ?_)
  obtain ⟨hc, rfl, g1, hf0, rfl⟩ := hp
  show G 9 [(0, .ref (ad 0)), (1, .int 0), (2, .int a)] [.int ((rcvN (ix a) L S qf 0).2.2.2)] [xoW ad up op tr, lkW D ad ((rcvN (ix a) L S qf 0).1), alW D e0 (ad 2) hs N, rwW D (ad 3) (ad 10) (ad 11) (ad 12) g1 (((rcvN (ix a) L S qf 0).2.2.1).length), dvW da N ((rcvN (ix a) L S qf 0).2.1) om] 1 6
  refine x_goto B (pc := 9) 75 dL_goes_9 (by decide) ?_
  exact x_iret F (pc := 75) rfl dL_goes_75 (Or.inl ⟨hc, rfl, g1, hf0, rfl⟩) (Nat.le_of_ble_eq_true rfl) (Nat.le_of_ble_eq_true rfl)

set_option maxRecDepth 100000 in
set_option maxHeartbeats 4000000 in
theorem c_goes_toSender {l : Launch} (hl : l.stackTraces = false) (D : va_G) (e0 : Nat) {ad : Nat → Nat} {up op tr : Int32} {L : xS} {hs : xAg} {N : Nat} {gf : xRg} {qf : List xFr} {gb : xRg} {qb : List xFr} {da : Nat → Nat} {S : xS} {om : Nat → Int32} {a : Int32} (hok : alOk hs N da) (hN : N ≤ 60) (hq : rwOk qf gf) (hqb : rwOk qb gb) (hfr : (∀ x, x ∈ qb → (x.1 = 3 ∧ x.2.1 < 4) ∨ (x.1 = 4 ∧ x.2.1 < N))) (hlen : qf.length + outs qb < 512) : xC l yL_goes (.codeWith yL_goes cL_goes 4 (some .int) [(0, 75, 76, 28), (0, 75, 80, 30)]) ({ frames := 8, cells := 1, slots := 6, locals := 132 } : Room) D e0 [.ref (ad 0), .int 1, .int a] [xoW ad up op tr, lkW D ad L, alW D e0 (ad 2) hs N, rwW D (ad 3) (ad 10) (ad 11) (ad 12) gf qf.length, rwW D (ad 4) (ad 13) (ad 14) (ad 15) gb qb.length, dvW da N S om] (fun w cs => (cod (xinB 1 100 a) true true = 0 ∧ w = some (.int ((sndN (ix a) L S qf qb 0).2.2.2.2)) ∧ ∃ g1 g2, rwOk (sndN (ix a) L S qf qb 0).2.2.1 g1 ∧ rwOk (sndN (ix a) L S qf qb 0).2.2.2.1 g2 ∧ cs = [xoW ad up op tr, lkW D ad ((sndN (ix a) L S qf qb 0).1), alW D e0 (ad 2) hs N, rwW D (ad 3) (ad 10) (ad 11) (ad 12) g1 (((sndN (ix a) L S qf qb 0).2.2.1).length), rwW D (ad 4) (ad 13) (ad 14) (ad 15) g2 (((sndN (ix a) L S qf qb 0).2.2.2.1).length), dvW da N ((sndN (ix a) L S qf qb 0).2.1) om]) ∨ (cod (xinB 1 100 a) true true ≠ 0 ∧ w = some (.int (-8)) ∧ cs = [xoW ad up op tr, lkW D ad L, alW D e0 (ad 2) hs N, rwW D (ad 3) (ad 10) (ad 11) (ad 12) gf qf.length, rwW D (ad 4) (ad 13) (ad 14) (ad 15) gb qb.length, dvW da N S om])) (fun _ => False) := by
  refine xCw_of hl (by decide +kernel) (Nat.le_of_ble_eq_true rfl) (fun G X F => ?_)
  have B : xB l D e0 "CreditLinksLaw" cL_goes 4 (some .int) [(0, 75, 76, 28), (0, 75, 80, 30)] _ G X := F.base
  show G 0 [(0, .ref (ad 0)), (1, .int 1), (2, .int a)] [] [xoW ad up op tr, lkW D ad L, alW D e0 (ad 2) hs N, rwW D (ad 3) (ad 10) (ad 11) (ad 12) gf qf.length, rwW D (ad 4) (ad 13) (ad 14) (ad 15) gb qb.length, dvW da N S om] 0 0
  refine x_iload_n B (pc := 0) 1 dL_goes_0 rfl rfl ?_
  refine x_if_ne B (pc := 1) 12 dL_goes_1 (by decide) (fun h1 => ?_) (fun h1 => absurd h1 (by decide))
  refine x_iload_n B (pc := 12) 1 dL_goes_12 rfl rfl ?_
  refine x_iconst B (pc := 13) 1 dL_goes_13 (by decide) ?_
  refine x_icmp_ne B (pc := 14) 25 dL_goes_14 (by decide) (fun h14 => absurd (by decide) h14) (fun h14 => ?_)
  refine x_aload_n B (pc := 17) 0 dL_goes_17 rfl rfl ?_
  refine x_iload_n B (pc := 18) 2 dL_goes_18 rfl rfl ?_
  have hkx : ∀ E, xpo (cod (xinB 1 100 a) true true) xIAE xIAE xIAE E → X E 19 [(0, .ref (ad 0)), (1, .int 1), (2, .int a)] [xoW ad up op tr, lkW D ad L, alW D e0 (ad 2) hs N, rwW D (ad 3) (ad 10) (ad 11) (ad 12) gf qf.length, rwW D (ad 4) (ad 13) (ad 14) (ad 15) gb qb.length, dvW da N S om] 1 6 := by
    intro E hE
    rcases hE with ⟨hc, rfl⟩ | ⟨hc, rfl⟩ | ⟨hc, rfl⟩
    · refine x_catch B [] ⟨0, 75, 76, 28⟩ [⟨0, 75, 80, 30⟩] rfl (fun z hz => nomatch hz) (by decide) (by decide) tm180 (by decide +kernel) (fun q => ?_)
      show G 76 [(0, .ref (ad 0)), (1, .int 1), (2, .int a)] [.ref q] [xoW ad up op tr, lkW D ad L, alW D e0 (ad 2) hs N, rwW D (ad 3) (ad 10) (ad 11) (ad 12) gf qf.length, rwW D (ad 4) (ad 13) (ad 14) (ad 15) gb qb.length, dvW da N S om] 1 6
      refine x_astore_n B (pc := 76) [(3, .ref q), (0, .ref (ad 0)), (1, .int 1), (2, .int a)] dL_goes_76 rfl (by decide) rfl ?_
      refine x_bipush B (pc := 77) (-8) dL_goes_77 (by decide) ?_
      exact x_iret F (pc := 79) rfl dL_goes_79 (Or.inr ⟨by rw [hc]; decide, rfl, rfl⟩) (Nat.le_of_ble_eq_true rfl) (Nat.le_of_ble_eq_true rfl)
    · refine x_catch B [] ⟨0, 75, 76, 28⟩ [⟨0, 75, 80, 30⟩] rfl (fun z hz => nomatch hz) (by decide) (by decide) tm180 (by decide +kernel) (fun q => ?_)
      show G 76 [(0, .ref (ad 0)), (1, .int 1), (2, .int a)] [.ref q] [xoW ad up op tr, lkW D ad L, alW D e0 (ad 2) hs N, rwW D (ad 3) (ad 10) (ad 11) (ad 12) gf qf.length, rwW D (ad 4) (ad 13) (ad 14) (ad 15) gb qb.length, dvW da N S om] 1 6
      refine x_astore_n B (pc := 76) [(3, .ref q), (0, .ref (ad 0)), (1, .int 1), (2, .int a)] dL_goes_76 rfl (by decide) rfl ?_
      refine x_bipush B (pc := 77) (-8) dL_goes_77 (by decide) ?_
      exact x_iret F (pc := 79) rfl dL_goes_79 (Or.inr ⟨by rw [hc]; decide, rfl, rfl⟩) (Nat.le_of_ble_eq_true rfl) (Nat.le_of_ble_eq_true rfl)
    · refine x_catch B [] ⟨0, 75, 76, 28⟩ [⟨0, 75, 80, 30⟩] rfl (fun z hz => nomatch hz) (by decide) (by decide) tm180 (by decide +kernel) (fun q => ?_)
      show G 76 [(0, .ref (ad 0)), (1, .int 1), (2, .int a)] [.ref q] [xoW ad up op tr, lkW D ad L, alW D e0 (ad 2) hs N, rwW D (ad 3) (ad 10) (ad 11) (ad 12) gf qf.length, rwW D (ad 4) (ad 13) (ad 14) (ad 15) gb qb.length, dvW da N S om] 1 6
      refine x_astore_n B (pc := 76) [(3, .ref q), (0, .ref (ad 0)), (1, .int 1), (2, .int a)] dL_goes_76 rfl (by decide) rfl ?_
      refine x_bipush B (pc := 77) (-8) dL_goes_77 (by decide) ?_
      exact x_iret F (pc := 79) rfl dL_goes_79 (Or.inr ⟨by rw [hc]; decide, rfl, rfl⟩) (Nat.le_of_ble_eq_true rfl) (Nat.le_of_ble_eq_true rfl)
  refine x_callV B (pc := 19) (As := [.int a]) (c_X3_toSender hl D e0 hok hN hq hqb hfr hlen) xcl_X rfl 0 0 rfl rfl tm513 tm514 tm515 tm1 tm516 md_X3_toSender ⟨Nat.le_of_ble_eq_true rfl, Nat.le_of_ble_eq_true rfl⟩ [0, 1, 2, 3, 4, 5] rfl rfl rfl (Nat.le_of_ble_eq_true rfl) (Nat.le_of_ble_eq_true rfl) (Nat.le_of_ble_eq_true rfl) dL_goes_19 (fun E hE => hkx E hE) (fun v cs1 hp => ?_)
  obtain ⟨hc, rfl, g1, g2, hf0, hf1, rfl⟩ := hp
  show G 22 [(0, .ref (ad 0)), (1, .int 1), (2, .int a)] [.int ((sndN (ix a) L S qf qb 0).2.2.2.2)] [xoW ad up op tr, lkW D ad ((sndN (ix a) L S qf qb 0).1), alW D e0 (ad 2) hs N, rwW D (ad 3) (ad 10) (ad 11) (ad 12) g1 (((sndN (ix a) L S qf qb 0).2.2.1).length), rwW D (ad 4) (ad 13) (ad 14) (ad 15) g2 (((sndN (ix a) L S qf qb 0).2.2.2.1).length), dvW da N ((sndN (ix a) L S qf qb 0).2.1) om] 1 6
  refine x_goto B (pc := 22) 75 dL_goes_22 (by decide) ?_
  exact x_iret F (pc := 75) rfl dL_goes_75 (Or.inl ⟨hc, rfl, g1, g2, hf0, hf1, rfl⟩) (Nat.le_of_ble_eq_true rfl) (Nat.le_of_ble_eq_true rfl)

set_option maxRecDepth 100000 in
set_option maxHeartbeats 4000000 in
theorem c_goes_breakOff {l : Launch} (hl : l.stackTraces = false) (D : va_G) (e0 : Nat) {ad : Nat → Nat} {up op tr : Int32} {gf : xRg} {qf : List xFr} {gb : xRg} {qb : List xFr} {ht : xAg} {tq : List Nat} {N : Nat} {da : Nat → Nat} {S : xS} {om : Nat → Int32} {c9 : Int32} (hup : up = 0 ∨ up = 1) (hok : alOk ht tq.length (fun i => da (tq.getD i 0))) (hT : tq.length ≤ 60) (hin : ∀ i, i < tq.length → tq.getD i 0 < N) : xC l yL_goes (.codeWith yL_goes cL_goes 4 (some .int) [(0, 75, 76, 28), (0, 75, 80, 30)]) ({ frames := 8, cells := 1, slots := 6, locals := 123 } : Room) D e0 [.ref (ad 0), .int 2, .int c9] [xoW ad up op tr, rwW D (ad 3) (ad 10) (ad 11) (ad 12) gf qf.length, rwW D (ad 4) (ad 13) (ad 14) (ad 15) gb qb.length, alW D e0 (ad 5) ht tq.length, dvW da N S om] (fun w cs => (cod (decide (up = 1)) true true = 0 ∧ w = some (.int (nI (qf.length + qb.length))) ∧ ∃ h1 g1 g2, (∀ w1, alOk h1 0 w1) ∧ rwOk [] g1 ∧ rwOk [] g2 ∧ cs = [xoW ad 0 0 tr, rwW D (ad 3) (ad 10) (ad 11) (ad 12) g1 ((@List.nil xFr).length), rwW D (ad 4) (ad 13) (ad 14) (ad 15) g2 ((@List.nil xFr).length), alW D e0 (ad 5) h1 0, dvW da N (clrS S tq) om]) ∨ (cod (decide (up = 1)) true true ≠ 0 ∧ w = some (.int (-8)) ∧ cs = [xoW ad up op tr, rwW D (ad 3) (ad 10) (ad 11) (ad 12) gf qf.length, rwW D (ad 4) (ad 13) (ad 14) (ad 15) gb qb.length, alW D e0 (ad 5) ht tq.length, dvW da N S om])) (fun _ => False) := by
  refine xCw_of hl (by decide +kernel) (Nat.le_of_ble_eq_true rfl) (fun G X F => ?_)
  have B : xB l D e0 "CreditLinksLaw" cL_goes 4 (some .int) [(0, 75, 76, 28), (0, 75, 80, 30)] _ G X := F.base
  show G 0 [(0, .ref (ad 0)), (1, .int 2), (2, .int c9)] [] [xoW ad up op tr, rwW D (ad 3) (ad 10) (ad 11) (ad 12) gf qf.length, rwW D (ad 4) (ad 13) (ad 14) (ad 15) gb qb.length, alW D e0 (ad 5) ht tq.length, dvW da N S om] 0 0
  refine x_iload_n B (pc := 0) 1 dL_goes_0 rfl rfl ?_
  refine x_if_ne B (pc := 1) 12 dL_goes_1 (by decide) (fun h1 => ?_) (fun h1 => absurd h1 (by decide))
  refine x_iload_n B (pc := 12) 1 dL_goes_12 rfl rfl ?_
  refine x_iconst B (pc := 13) 1 dL_goes_13 (by decide) ?_
  refine x_icmp_ne B (pc := 14) 25 dL_goes_14 (by decide) (fun h14 => ?_) (fun h14 => absurd h14 (by decide))
  refine x_iload_n B (pc := 25) 1 dL_goes_25 rfl rfl ?_
  refine x_iconst B (pc := 26) 2 dL_goes_26 (by decide) ?_
  refine x_icmp_ne B (pc := 27) 37 dL_goes_27 (by decide) (fun h27 => absurd (by decide) h27) (fun h27 => ?_)
  refine x_aload_n B (pc := 30) 0 dL_goes_30 rfl rfl ?_
  have hkx : ∀ E, xpo (cod (decide (up = 1)) true true) xISE xISE xISE E → X E 31 [(0, .ref (ad 0)), (1, .int 2), (2, .int c9)] [xoW ad up op tr, rwW D (ad 3) (ad 10) (ad 11) (ad 12) gf qf.length, rwW D (ad 4) (ad 13) (ad 14) (ad 15) gb qb.length, alW D e0 (ad 5) ht tq.length, dvW da N S om] 1 6 := by
    intro E hE
    rcases hE with ⟨hc, rfl⟩ | ⟨hc, rfl⟩ | ⟨hc, rfl⟩
    · refine x_catch B [⟨0, 75, 76, 28⟩] ⟨0, 75, 80, 30⟩ [] rfl (List.forall_mem_cons.mpr ⟨⟨by decide, _, tm180, by decide +kernel⟩, (fun z hz => nomatch hz)⟩) (by decide) (by decide) tm181 (by decide +kernel) (fun q => ?_)
      show G 80 [(0, .ref (ad 0)), (1, .int 2), (2, .int c9)] [.ref q] [xoW ad up op tr, rwW D (ad 3) (ad 10) (ad 11) (ad 12) gf qf.length, rwW D (ad 4) (ad 13) (ad 14) (ad 15) gb qb.length, alW D e0 (ad 5) ht tq.length, dvW da N S om] 1 6
      refine x_astore_n B (pc := 80) [(3, .ref q), (0, .ref (ad 0)), (1, .int 2), (2, .int c9)] dL_goes_80 rfl (by decide) rfl ?_
      refine x_bipush B (pc := 81) (-8) dL_goes_81 (by decide) ?_
      exact x_iret F (pc := 83) rfl dL_goes_83 (Or.inr ⟨by rw [hc]; decide, rfl, rfl⟩) (Nat.le_of_ble_eq_true rfl) (Nat.le_of_ble_eq_true rfl)
    · refine x_catch B [⟨0, 75, 76, 28⟩] ⟨0, 75, 80, 30⟩ [] rfl (List.forall_mem_cons.mpr ⟨⟨by decide, _, tm180, by decide +kernel⟩, (fun z hz => nomatch hz)⟩) (by decide) (by decide) tm181 (by decide +kernel) (fun q => ?_)
      show G 80 [(0, .ref (ad 0)), (1, .int 2), (2, .int c9)] [.ref q] [xoW ad up op tr, rwW D (ad 3) (ad 10) (ad 11) (ad 12) gf qf.length, rwW D (ad 4) (ad 13) (ad 14) (ad 15) gb qb.length, alW D e0 (ad 5) ht tq.length, dvW da N S om] 1 6
      refine x_astore_n B (pc := 80) [(3, .ref q), (0, .ref (ad 0)), (1, .int 2), (2, .int c9)] dL_goes_80 rfl (by decide) rfl ?_
      refine x_bipush B (pc := 81) (-8) dL_goes_81 (by decide) ?_
      exact x_iret F (pc := 83) rfl dL_goes_83 (Or.inr ⟨by rw [hc]; decide, rfl, rfl⟩) (Nat.le_of_ble_eq_true rfl) (Nat.le_of_ble_eq_true rfl)
    · refine x_catch B [⟨0, 75, 76, 28⟩] ⟨0, 75, 80, 30⟩ [] rfl (List.forall_mem_cons.mpr ⟨⟨by decide, _, tm180, by decide +kernel⟩, (fun z hz => nomatch hz)⟩) (by decide) (by decide) tm181 (by decide +kernel) (fun q => ?_)
      show G 80 [(0, .ref (ad 0)), (1, .int 2), (2, .int c9)] [.ref q] [xoW ad up op tr, rwW D (ad 3) (ad 10) (ad 11) (ad 12) gf qf.length, rwW D (ad 4) (ad 13) (ad 14) (ad 15) gb qb.length, alW D e0 (ad 5) ht tq.length, dvW da N S om] 1 6
      refine x_astore_n B (pc := 80) [(3, .ref q), (0, .ref (ad 0)), (1, .int 2), (2, .int c9)] dL_goes_80 rfl (by decide) rfl ?_
      refine x_bipush B (pc := 81) (-8) dL_goes_81 (by decide) ?_
      exact x_iret F (pc := 83) rfl dL_goes_83 (Or.inr ⟨by rw [hc]; decide, rfl, rfl⟩) (Nat.le_of_ble_eq_true rfl) (Nat.le_of_ble_eq_true rfl)
  refine x_callV B (pc := 31) (As := []) (c_X3_breakOff hl D e0 hup hok hT hin) xcl_X rfl 0 0 rfl rfl tm525 tm526 tm527 tm1 tm528 md_X3_breakOff ⟨Nat.le_of_ble_eq_true rfl, Nat.le_of_ble_eq_true rfl⟩ [0, 1, 2, 3, 4] rfl rfl rfl (Nat.le_of_ble_eq_true rfl) (Nat.le_of_ble_eq_true rfl) (Nat.le_of_ble_eq_true rfl) dL_goes_31 (fun E hE => hkx E hE) (fun v cs1 hp => ?_)
  obtain ⟨hc, rfl, h1, g1, g2, hf0, hf1, hf2, rfl⟩ := hp
  show G 34 [(0, .ref (ad 0)), (1, .int 2), (2, .int c9)] [.int (nI (qf.length + qb.length))] [xoW ad 0 0 tr, rwW D (ad 3) (ad 10) (ad 11) (ad 12) g1 ((@List.nil xFr).length), rwW D (ad 4) (ad 13) (ad 14) (ad 15) g2 ((@List.nil xFr).length), alW D e0 (ad 5) h1 0, dvW da N (clrS S tq) om] 1 6
  refine x_goto B (pc := 34) 75 dL_goes_34 (by decide) ?_
  exact x_iret F (pc := 75) rfl dL_goes_75 (Or.inl ⟨hc, rfl, h1, g1, g2, hf0, hf1, hf2, rfl⟩) (Nat.le_of_ble_eq_true rfl) (Nat.le_of_ble_eq_true rfl)

set_option maxRecDepth 100000 in
set_option maxHeartbeats 4000000 in
theorem c_goes_join {l : Launch} (hl : l.stackTraces = false) (D : va_G) (e0 : Nat) {ad : Nat → Nat} {up op tr : Int32} {L : xS} {hs : xAg} {N : Nat} {gf : xRg} {qf : List xFr} {da : Nat → Nat} {S : xS} {om : Nat → Int32} {c9 : Int32} (hup : up = 0 ∨ up = 1) (hok : alOk hs N da) (hN : N ≤ 60) (hq : rwOk qf gf) (hql : qf.length + 4 * N ≤ 512) (hom : ∀ d, d < N → S 9 d = 3 → om d = S 12 d) (h6 : ∀ d, d < N → ∃ m, m ≤ 4 ∧ S 6 d = nI m) : xC l yL_goes (.codeWith yL_goes cL_goes 4 (some .int) [(0, 75, 76, 28), (0, 75, 80, 30)]) ({ frames := 7, cells := 1, slots := 6, locals := 106 } : Room) D e0 [.ref (ad 0), .int 3, .int c9] [xoW ad up op tr, lkW D ad L, alW D e0 (ad 2) hs N, rwW D (ad 3) (ad 10) (ad 11) (ad 12) gf qf.length, dvW da N S om] (fun w cs => (cod (decide (up = 0)) true true = 0 ∧ w = some (.int ((jn S qf N).2.2)) ∧ ∃ g1, rwOk (jn S qf N).2.1 g1 ∧ cs = [xoW ad 1 op tr, lkW D ad (jnL L 4), alW D e0 (ad 2) hs N, rwW D (ad 3) (ad 10) (ad 11) (ad 12) g1 (((jn S qf N).2.1).length), dvW da N ((jn S qf N).1) om]) ∨ (cod (decide (up = 0)) true true ≠ 0 ∧ w = some (.int (-8)) ∧ cs = [xoW ad up op tr, lkW D ad L, alW D e0 (ad 2) hs N, rwW D (ad 3) (ad 10) (ad 11) (ad 12) gf qf.length, dvW da N S om])) (fun _ => False) := by
  refine xCw_of hl (by decide +kernel) (Nat.le_of_ble_eq_true rfl) (fun G X F => ?_)
  have B : xB l D e0 "CreditLinksLaw" cL_goes 4 (some .int) [(0, 75, 76, 28), (0, 75, 80, 30)] _ G X := F.base
  show G 0 [(0, .ref (ad 0)), (1, .int 3), (2, .int c9)] [] [xoW ad up op tr, lkW D ad L, alW D e0 (ad 2) hs N, rwW D (ad 3) (ad 10) (ad 11) (ad 12) gf qf.length, dvW da N S om] 0 0
  refine x_iload_n B (pc := 0) 1 dL_goes_0 rfl rfl ?_
  refine x_if_ne B (pc := 1) 12 dL_goes_1 (by decide) (fun h1 => ?_) (fun h1 => absurd h1 (by decide))
  refine x_iload_n B (pc := 12) 1 dL_goes_12 rfl rfl ?_
  refine x_iconst B (pc := 13) 1 dL_goes_13 (by decide) ?_
  refine x_icmp_ne B (pc := 14) 25 dL_goes_14 (by decide) (fun h14 => ?_) (fun h14 => absurd h14 (by decide))
  refine x_iload_n B (pc := 25) 1 dL_goes_25 rfl rfl ?_
  refine x_iconst B (pc := 26) 2 dL_goes_26 (by decide) ?_
  refine x_icmp_ne B (pc := 27) 37 dL_goes_27 (by decide) (fun h27 => ?_) (fun h27 => absurd h27 (by decide))
  refine x_iload_n B (pc := 37) 1 dL_goes_37 rfl rfl ?_
  refine x_iconst B (pc := 38) 3 dL_goes_38 (by decide) ?_
  refine x_icmp_ne B (pc := 39) 49 dL_goes_39 (by decide) (fun h39 => absurd (by decide) h39) (fun h39 => ?_)
  refine x_aload_n B (pc := 42) 0 dL_goes_42 rfl rfl ?_
  have hkx : ∀ E, xpo (cod (decide (up = 0)) true true) xISE xISE xISE E → X E 43 [(0, .ref (ad 0)), (1, .int 3), (2, .int c9)] [xoW ad up op tr, lkW D ad L, alW D e0 (ad 2) hs N, rwW D (ad 3) (ad 10) (ad 11) (ad 12) gf qf.length, dvW da N S om] 1 6 := by
    intro E hE
    rcases hE with ⟨hc, rfl⟩ | ⟨hc, rfl⟩ | ⟨hc, rfl⟩
    · refine x_catch B [⟨0, 75, 76, 28⟩] ⟨0, 75, 80, 30⟩ [] rfl (List.forall_mem_cons.mpr ⟨⟨by decide, _, tm180, by decide +kernel⟩, (fun z hz => nomatch hz)⟩) (by decide) (by decide) tm181 (by decide +kernel) (fun q => ?_)
      show G 80 [(0, .ref (ad 0)), (1, .int 3), (2, .int c9)] [.ref q] [xoW ad up op tr, lkW D ad L, alW D e0 (ad 2) hs N, rwW D (ad 3) (ad 10) (ad 11) (ad 12) gf qf.length, dvW da N S om] 1 6
      refine x_astore_n B (pc := 80) [(3, .ref q), (0, .ref (ad 0)), (1, .int 3), (2, .int c9)] dL_goes_80 rfl (by decide) rfl ?_
      refine x_bipush B (pc := 81) (-8) dL_goes_81 (by decide) ?_
      exact x_iret F (pc := 83) rfl dL_goes_83 (Or.inr ⟨by rw [hc]; decide, rfl, rfl⟩) (Nat.le_of_ble_eq_true rfl) (Nat.le_of_ble_eq_true rfl)
    · refine x_catch B [⟨0, 75, 76, 28⟩] ⟨0, 75, 80, 30⟩ [] rfl (List.forall_mem_cons.mpr ⟨⟨by decide, _, tm180, by decide +kernel⟩, (fun z hz => nomatch hz)⟩) (by decide) (by decide) tm181 (by decide +kernel) (fun q => ?_)
      show G 80 [(0, .ref (ad 0)), (1, .int 3), (2, .int c9)] [.ref q] [xoW ad up op tr, lkW D ad L, alW D e0 (ad 2) hs N, rwW D (ad 3) (ad 10) (ad 11) (ad 12) gf qf.length, dvW da N S om] 1 6
      refine x_astore_n B (pc := 80) [(3, .ref q), (0, .ref (ad 0)), (1, .int 3), (2, .int c9)] dL_goes_80 rfl (by decide) rfl ?_
      refine x_bipush B (pc := 81) (-8) dL_goes_81 (by decide) ?_
      exact x_iret F (pc := 83) rfl dL_goes_83 (Or.inr ⟨by rw [hc]; decide, rfl, rfl⟩) (Nat.le_of_ble_eq_true rfl) (Nat.le_of_ble_eq_true rfl)
    · refine x_catch B [⟨0, 75, 76, 28⟩] ⟨0, 75, 80, 30⟩ [] rfl (List.forall_mem_cons.mpr ⟨⟨by decide, _, tm180, by decide +kernel⟩, (fun z hz => nomatch hz)⟩) (by decide) (by decide) tm181 (by decide +kernel) (fun q => ?_)
      show G 80 [(0, .ref (ad 0)), (1, .int 3), (2, .int c9)] [.ref q] [xoW ad up op tr, lkW D ad L, alW D e0 (ad 2) hs N, rwW D (ad 3) (ad 10) (ad 11) (ad 12) gf qf.length, dvW da N S om] 1 6
      refine x_astore_n B (pc := 80) [(3, .ref q), (0, .ref (ad 0)), (1, .int 3), (2, .int c9)] dL_goes_80 rfl (by decide) rfl ?_
      refine x_bipush B (pc := 81) (-8) dL_goes_81 (by decide) ?_
      exact x_iret F (pc := 83) rfl dL_goes_83 (Or.inr ⟨by rw [hc]; decide, rfl, rfl⟩) (Nat.le_of_ble_eq_true rfl) (Nat.le_of_ble_eq_true rfl)
  refine x_callV B (pc := 43) (As := []) (c_X3_join hl D e0 hup hok hN hq hql hom h6) xcl_X rfl 0 0 rfl rfl tm541 tm542 tm543 tm1 tm544 md_X3_join ⟨Nat.le_of_ble_eq_true rfl, Nat.le_of_ble_eq_true rfl⟩ [0, 1, 2, 3, 4] rfl rfl rfl (Nat.le_of_ble_eq_true rfl) (Nat.le_of_ble_eq_true rfl) (Nat.le_of_ble_eq_true rfl) dL_goes_43 (fun E hE => hkx E hE) (fun v cs1 hp => ?_)
  obtain ⟨hc, rfl, g1, hf0, rfl⟩ := hp
  show G 46 [(0, .ref (ad 0)), (1, .int 3), (2, .int c9)] [.int ((jn S qf N).2.2)] [xoW ad 1 op tr, lkW D ad (jnL L 4), alW D e0 (ad 2) hs N, rwW D (ad 3) (ad 10) (ad 11) (ad 12) g1 (((jn S qf N).2.1).length), dvW da N ((jn S qf N).1) om] 1 6
  refine x_goto B (pc := 46) 75 dL_goes_46 (by decide) ?_
  exact x_iret F (pc := 75) rfl dL_goes_75 (Or.inl ⟨hc, rfl, g1, hf0, rfl⟩) (Nat.le_of_ble_eq_true rfl) (Nat.le_of_ble_eq_true rfl)

set_option maxRecDepth 100000 in
set_option maxHeartbeats 4000000 in
theorem c_goes_begin {l : Launch} (hl : l.stackTraces = false) (D : va_G) (e0 : Nat) {ad : Nat → Nat} {up op tr : Int32} {c9 : Int32} (hup : up = 0 ∨ up = 1) (hop : op = 0 ∨ op = 1) : xC l yL_goes (.codeWith yL_goes cL_goes 4 (some .int) [(0, 75, 76, 28), (0, 75, 80, 30)]) ({ frames := 8, cells := 1, slots := 6, locals := 122 } : Room) D e0 [.ref (ad 0), .int 4, .int c9] [xoW ad up op tr] (fun w cs => (cod (decide (up = 1) && decide (op = 0)) true true = 0 ∧ w = some (.int (tr + 1)) ∧ cs = [xoW ad up 1 (tr + 1)]) ∨ (cod (decide (up = 1) && decide (op = 0)) true true ≠ 0 ∧ w = some (.int (-8)) ∧ cs = [xoW ad up op tr])) (fun _ => False) := by
  refine xCw_of hl (by decide +kernel) (Nat.le_of_ble_eq_true rfl) (fun G X F => ?_)
  have B : xB l D e0 "CreditLinksLaw" cL_goes 4 (some .int) [(0, 75, 76, 28), (0, 75, 80, 30)] _ G X := F.base
  show G 0 [(0, .ref (ad 0)), (1, .int 4), (2, .int c9)] [] [xoW ad up op tr] 0 0
  refine x_iload_n B (pc := 0) 1 dL_goes_0 rfl rfl ?_
  refine x_if_ne B (pc := 1) 12 dL_goes_1 (by decide) (fun h1 => ?_) (fun h1 => absurd h1 (by decide))
  refine x_iload_n B (pc := 12) 1 dL_goes_12 rfl rfl ?_
  refine x_iconst B (pc := 13) 1 dL_goes_13 (by decide) ?_
  refine x_icmp_ne B (pc := 14) 25 dL_goes_14 (by decide) (fun h14 => ?_) (fun h14 => absurd h14 (by decide))
  refine x_iload_n B (pc := 25) 1 dL_goes_25 rfl rfl ?_
  refine x_iconst B (pc := 26) 2 dL_goes_26 (by decide) ?_
  refine x_icmp_ne B (pc := 27) 37 dL_goes_27 (by decide) (fun h27 => ?_) (fun h27 => absurd h27 (by decide))
  refine x_iload_n B (pc := 37) 1 dL_goes_37 rfl rfl ?_
  refine x_iconst B (pc := 38) 3 dL_goes_38 (by decide) ?_
  refine x_icmp_ne B (pc := 39) 49 dL_goes_39 (by decide) (fun h39 => ?_) (fun h39 => absurd h39 (by decide))
  refine x_iload_n B (pc := 49) 1 dL_goes_49 rfl rfl ?_
  refine x_iconst B (pc := 50) 4 dL_goes_50 (by decide) ?_
  refine x_icmp_ne B (pc := 51) 61 dL_goes_51 (by decide) (fun h51 => absurd (by decide) h51) (fun h51 => ?_)
  refine x_aload_n B (pc := 54) 0 dL_goes_54 rfl rfl ?_
  have hkx : ∀ E, xpo (cod (decide (up = 1) && decide (op = 0)) true true) xISE xISE xISE E → X E 55 [(0, .ref (ad 0)), (1, .int 4), (2, .int c9)] [xoW ad up op tr] 1 6 := by
    intro E hE
    rcases hE with ⟨hc, rfl⟩ | ⟨hc, rfl⟩ | ⟨hc, rfl⟩
    · refine x_catch B [⟨0, 75, 76, 28⟩] ⟨0, 75, 80, 30⟩ [] rfl (List.forall_mem_cons.mpr ⟨⟨by decide, _, tm180, by decide +kernel⟩, (fun z hz => nomatch hz)⟩) (by decide) (by decide) tm181 (by decide +kernel) (fun q => ?_)
      show G 80 [(0, .ref (ad 0)), (1, .int 4), (2, .int c9)] [.ref q] [xoW ad up op tr] 1 6
      refine x_astore_n B (pc := 80) [(3, .ref q), (0, .ref (ad 0)), (1, .int 4), (2, .int c9)] dL_goes_80 rfl (by decide) rfl ?_
      refine x_bipush B (pc := 81) (-8) dL_goes_81 (by decide) ?_
      exact x_iret F (pc := 83) rfl dL_goes_83 (Or.inr ⟨by rw [hc]; decide, rfl, rfl⟩) (Nat.le_of_ble_eq_true rfl) (Nat.le_of_ble_eq_true rfl)
    · refine x_catch B [⟨0, 75, 76, 28⟩] ⟨0, 75, 80, 30⟩ [] rfl (List.forall_mem_cons.mpr ⟨⟨by decide, _, tm180, by decide +kernel⟩, (fun z hz => nomatch hz)⟩) (by decide) (by decide) tm181 (by decide +kernel) (fun q => ?_)
      show G 80 [(0, .ref (ad 0)), (1, .int 4), (2, .int c9)] [.ref q] [xoW ad up op tr] 1 6
      refine x_astore_n B (pc := 80) [(3, .ref q), (0, .ref (ad 0)), (1, .int 4), (2, .int c9)] dL_goes_80 rfl (by decide) rfl ?_
      refine x_bipush B (pc := 81) (-8) dL_goes_81 (by decide) ?_
      exact x_iret F (pc := 83) rfl dL_goes_83 (Or.inr ⟨by rw [hc]; decide, rfl, rfl⟩) (Nat.le_of_ble_eq_true rfl) (Nat.le_of_ble_eq_true rfl)
    · refine x_catch B [⟨0, 75, 76, 28⟩] ⟨0, 75, 80, 30⟩ [] rfl (List.forall_mem_cons.mpr ⟨⟨by decide, _, tm180, by decide +kernel⟩, (fun z hz => nomatch hz)⟩) (by decide) (by decide) tm181 (by decide +kernel) (fun q => ?_)
      show G 80 [(0, .ref (ad 0)), (1, .int 4), (2, .int c9)] [.ref q] [xoW ad up op tr] 1 6
      refine x_astore_n B (pc := 80) [(3, .ref q), (0, .ref (ad 0)), (1, .int 4), (2, .int c9)] dL_goes_80 rfl (by decide) rfl ?_
      refine x_bipush B (pc := 81) (-8) dL_goes_81 (by decide) ?_
      exact x_iret F (pc := 83) rfl dL_goes_83 (Or.inr ⟨by rw [hc]; decide, rfl, rfl⟩) (Nat.le_of_ble_eq_true rfl) (Nat.le_of_ble_eq_true rfl)
  refine x_callV B (pc := 55) (As := []) (c_X3_begin hl D e0 hup hop) xcl_X rfl 0 0 rfl rfl tm555 tm556 tm557 tm1 tm558 md_X3_begin ⟨Nat.le_of_ble_eq_true rfl, Nat.le_of_ble_eq_true rfl⟩ [0] rfl rfl rfl (Nat.le_of_ble_eq_true rfl) (Nat.le_of_ble_eq_true rfl) (Nat.le_of_ble_eq_true rfl) dL_goes_55 (fun E hE => hkx E hE) (fun v cs1 hp => ?_)
  obtain ⟨hc, rfl, rfl⟩ := hp
  show G 58 [(0, .ref (ad 0)), (1, .int 4), (2, .int c9)] [.int (tr + 1)] [xoW ad up 1 (tr + 1)] 1 6
  refine x_goto B (pc := 58) 75 dL_goes_58 (by decide) ?_
  exact x_iret F (pc := 75) rfl dL_goes_75 (Or.inl ⟨hc, rfl, rfl⟩) (Nat.le_of_ble_eq_true rfl) (Nat.le_of_ble_eq_true rfl)

set_option maxRecDepth 100000 in
set_option maxHeartbeats 4000000 in
theorem c_goes_end1 {l : Launch} (hl : l.stackTraces = false) (D : va_G) (e0 : Nat) {ad : Nat → Nat} {up op tr : Int32} {N : Nat} {gb : xRg} {qb : List xFr} {ht : xAg} {tq : List Nat} {da : Nat → Nat} {S : xS} {om : Nat → Int32} {c9 : Int32} (hop : op = 0 ∨ op = 1) (hok : alOk ht tq.length (fun i => da (tq.getD i 0))) (hT : tq.length ≤ 60) (hin : ∀ i, i < tq.length → tq.getD i 0 < N) (hqb : rwOk qb gb) (hql : qb.length + tq.length < 512) (hw : ∀ i, i < tq.length → ∃ o, o ≤ 2 ∧ S 14 (tq.getD i 0) = nI o) : xC l yL_goes (.codeWith yL_goes cL_goes 4 (some .int) [(0, 75, 76, 28), (0, 75, 80, 30)]) ({ frames := 8, cells := 1, slots := 6, locals := 126 } : Room) D e0 [.ref (ad 0), .int 5, .int c9] [xoW ad up op tr, rwW D (ad 4) (ad 13) (ad 14) (ad 15) gb qb.length, alW D e0 (ad 5) ht tq.length, dvW da N S om] (fun w cs => (cod (decide (op = 1)) true true = 0 ∧ w = some (.int (eR tq 1)) ∧ ∃ h1 g1, (∀ w1, alOk h1 0 w1) ∧ rwOk (eQ S qb tq 1) g1 ∧ cs = [xoW ad up 0 tr, rwW D (ad 4) (ad 13) (ad 14) (ad 15) g1 ((eQ S qb tq 1).length), alW D e0 (ad 5) h1 0, dvW da N (eS S tq 1) (eM S om tq 1)]) ∨ (cod (decide (op = 1)) true true ≠ 0 ∧ w = some (.int (-8)) ∧ cs = [xoW ad up op tr, rwW D (ad 4) (ad 13) (ad 14) (ad 15) gb qb.length, alW D e0 (ad 5) ht tq.length, dvW da N S om])) (fun _ => False) := by
  refine xCw_of hl (by decide +kernel) (Nat.le_of_ble_eq_true rfl) (fun G X F => ?_)
  have B : xB l D e0 "CreditLinksLaw" cL_goes 4 (some .int) [(0, 75, 76, 28), (0, 75, 80, 30)] _ G X := F.base
  show G 0 [(0, .ref (ad 0)), (1, .int 5), (2, .int c9)] [] [xoW ad up op tr, rwW D (ad 4) (ad 13) (ad 14) (ad 15) gb qb.length, alW D e0 (ad 5) ht tq.length, dvW da N S om] 0 0
  refine x_iload_n B (pc := 0) 1 dL_goes_0 rfl rfl ?_
  refine x_if_ne B (pc := 1) 12 dL_goes_1 (by decide) (fun h1 => ?_) (fun h1 => absurd h1 (by decide))
  refine x_iload_n B (pc := 12) 1 dL_goes_12 rfl rfl ?_
  refine x_iconst B (pc := 13) 1 dL_goes_13 (by decide) ?_
  refine x_icmp_ne B (pc := 14) 25 dL_goes_14 (by decide) (fun h14 => ?_) (fun h14 => absurd h14 (by decide))
  refine x_iload_n B (pc := 25) 1 dL_goes_25 rfl rfl ?_
  refine x_iconst B (pc := 26) 2 dL_goes_26 (by decide) ?_
  refine x_icmp_ne B (pc := 27) 37 dL_goes_27 (by decide) (fun h27 => ?_) (fun h27 => absurd h27 (by decide))
  refine x_iload_n B (pc := 37) 1 dL_goes_37 rfl rfl ?_
  refine x_iconst B (pc := 38) 3 dL_goes_38 (by decide) ?_
  refine x_icmp_ne B (pc := 39) 49 dL_goes_39 (by decide) (fun h39 => ?_) (fun h39 => absurd h39 (by decide))
  refine x_iload_n B (pc := 49) 1 dL_goes_49 rfl rfl ?_
  refine x_iconst B (pc := 50) 4 dL_goes_50 (by decide) ?_
  refine x_icmp_ne B (pc := 51) 61 dL_goes_51 (by decide) (fun h51 => ?_) (fun h51 => absurd h51 (by decide))
  refine x_aload_n B (pc := 61) 0 dL_goes_61 rfl rfl ?_
  refine x_iload_n B (pc := 62) 1 dL_goes_62 rfl rfl ?_
  refine x_iconst B (pc := 63) 5 dL_goes_63 (by decide) ?_
  refine x_icmp_ne B (pc := 64) 71 dL_goes_64 (by decide) (fun h64 => absurd (by decide) h64) (fun h64 => ?_)
  refine x_iconst B (pc := 67) 1 dL_goes_67 (by decide) ?_
  refine x_goto B (pc := 68) 72 dL_goes_68 (by decide) ?_
  have hkx : ∀ E, xpo (cod (decide (op = 1)) true true) xISE xISE xISE E → X E 72 [(0, .ref (ad 0)), (1, .int 5), (2, .int c9)] [xoW ad up op tr, rwW D (ad 4) (ad 13) (ad 14) (ad 15) gb qb.length, alW D e0 (ad 5) ht tq.length, dvW da N S om] 1 6 := by
    intro E hE
    rcases hE with ⟨hc, rfl⟩ | ⟨hc, rfl⟩ | ⟨hc, rfl⟩
    · refine x_catch B [⟨0, 75, 76, 28⟩] ⟨0, 75, 80, 30⟩ [] rfl (List.forall_mem_cons.mpr ⟨⟨by decide, _, tm180, by decide +kernel⟩, (fun z hz => nomatch hz)⟩) (by decide) (by decide) tm181 (by decide +kernel) (fun q => ?_)
      show G 80 [(0, .ref (ad 0)), (1, .int 5), (2, .int c9)] [.ref q] [xoW ad up op tr, rwW D (ad 4) (ad 13) (ad 14) (ad 15) gb qb.length, alW D e0 (ad 5) ht tq.length, dvW da N S om] 1 6
      refine x_astore_n B (pc := 80) [(3, .ref q), (0, .ref (ad 0)), (1, .int 5), (2, .int c9)] dL_goes_80 rfl (by decide) rfl ?_
      refine x_bipush B (pc := 81) (-8) dL_goes_81 (by decide) ?_
      exact x_iret F (pc := 83) rfl dL_goes_83 (Or.inr ⟨by rw [hc]; decide, rfl, rfl⟩) (Nat.le_of_ble_eq_true rfl) (Nat.le_of_ble_eq_true rfl)
    · refine x_catch B [⟨0, 75, 76, 28⟩] ⟨0, 75, 80, 30⟩ [] rfl (List.forall_mem_cons.mpr ⟨⟨by decide, _, tm180, by decide +kernel⟩, (fun z hz => nomatch hz)⟩) (by decide) (by decide) tm181 (by decide +kernel) (fun q => ?_)
      show G 80 [(0, .ref (ad 0)), (1, .int 5), (2, .int c9)] [.ref q] [xoW ad up op tr, rwW D (ad 4) (ad 13) (ad 14) (ad 15) gb qb.length, alW D e0 (ad 5) ht tq.length, dvW da N S om] 1 6
      refine x_astore_n B (pc := 80) [(3, .ref q), (0, .ref (ad 0)), (1, .int 5), (2, .int c9)] dL_goes_80 rfl (by decide) rfl ?_
      refine x_bipush B (pc := 81) (-8) dL_goes_81 (by decide) ?_
      exact x_iret F (pc := 83) rfl dL_goes_83 (Or.inr ⟨by rw [hc]; decide, rfl, rfl⟩) (Nat.le_of_ble_eq_true rfl) (Nat.le_of_ble_eq_true rfl)
    · refine x_catch B [⟨0, 75, 76, 28⟩] ⟨0, 75, 80, 30⟩ [] rfl (List.forall_mem_cons.mpr ⟨⟨by decide, _, tm180, by decide +kernel⟩, (fun z hz => nomatch hz)⟩) (by decide) (by decide) tm181 (by decide +kernel) (fun q => ?_)
      show G 80 [(0, .ref (ad 0)), (1, .int 5), (2, .int c9)] [.ref q] [xoW ad up op tr, rwW D (ad 4) (ad 13) (ad 14) (ad 15) gb qb.length, alW D e0 (ad 5) ht tq.length, dvW da N S om] 1 6
      refine x_astore_n B (pc := 80) [(3, .ref q), (0, .ref (ad 0)), (1, .int 5), (2, .int c9)] dL_goes_80 rfl (by decide) rfl ?_
      refine x_bipush B (pc := 81) (-8) dL_goes_81 (by decide) ?_
      exact x_iret F (pc := 83) rfl dL_goes_83 (Or.inr ⟨by rw [hc]; decide, rfl, rfl⟩) (Nat.le_of_ble_eq_true rfl) (Nat.le_of_ble_eq_true rfl)
  refine x_callV B (pc := 72) (As := [.int 1]) (c_X3_end hl D e0 (b := 1) hop hok hT hin hqb hql hw) xcl_X rfl 0 0 rfl rfl tm560 tm561 tm562 tm1 tm563 md_X3_end ⟨Nat.le_of_ble_eq_true rfl, Nat.le_of_ble_eq_true rfl⟩ [0, 1, 2, 3] rfl rfl rfl (Nat.le_of_ble_eq_true rfl) (Nat.le_of_ble_eq_true rfl) (Nat.le_of_ble_eq_true rfl) dL_goes_72 (fun E hE => hkx E hE) (fun v cs1 hp => ?_)
  obtain ⟨hc, rfl, h1, g1, hf0, hf1, rfl⟩ := hp
  show G 75 [(0, .ref (ad 0)), (1, .int 5), (2, .int c9)] [.int (eR tq 1)] [xoW ad up 0 tr, rwW D (ad 4) (ad 13) (ad 14) (ad 15) g1 ((eQ S qb tq 1).length), alW D e0 (ad 5) h1 0, dvW da N (eS S tq 1) (eM S om tq 1)] 1 6
  exact x_iret F (pc := 75) rfl dL_goes_75 (Or.inl ⟨hc, rfl, h1, g1, hf0, hf1, rfl⟩) (Nat.le_of_ble_eq_true rfl) (Nat.le_of_ble_eq_true rfl)

set_option maxRecDepth 100000 in
set_option maxHeartbeats 4000000 in
theorem c_goes_end0 {l : Launch} (hl : l.stackTraces = false) (D : va_G) (e0 : Nat) {ad : Nat → Nat} {up op tr : Int32} {N : Nat} {gb : xRg} {qb : List xFr} {ht : xAg} {tq : List Nat} {da : Nat → Nat} {S : xS} {om : Nat → Int32} {c9 : Int32} (hop : op = 0 ∨ op = 1) (hok : alOk ht tq.length (fun i => da (tq.getD i 0))) (hT : tq.length ≤ 60) (hin : ∀ i, i < tq.length → tq.getD i 0 < N) (hqb : rwOk qb gb) (hql : qb.length + tq.length < 512) (hw : ∀ i, i < tq.length → ∃ o, o ≤ 2 ∧ S 14 (tq.getD i 0) = nI o) : xC l yL_goes (.codeWith yL_goes cL_goes 4 (some .int) [(0, 75, 76, 28), (0, 75, 80, 30)]) ({ frames := 8, cells := 1, slots := 6, locals := 126 } : Room) D e0 [.ref (ad 0), .int 6, .int c9] [xoW ad up op tr, rwW D (ad 4) (ad 13) (ad 14) (ad 15) gb qb.length, alW D e0 (ad 5) ht tq.length, dvW da N S om] (fun w cs => (cod (decide (op = 1)) true true = 0 ∧ w = some (.int (eR tq 0)) ∧ ∃ h1 g1, (∀ w1, alOk h1 0 w1) ∧ rwOk (eQ S qb tq 0) g1 ∧ cs = [xoW ad up 0 tr, rwW D (ad 4) (ad 13) (ad 14) (ad 15) g1 ((eQ S qb tq 0).length), alW D e0 (ad 5) h1 0, dvW da N (eS S tq 0) (eM S om tq 0)]) ∨ (cod (decide (op = 1)) true true ≠ 0 ∧ w = some (.int (-8)) ∧ cs = [xoW ad up op tr, rwW D (ad 4) (ad 13) (ad 14) (ad 15) gb qb.length, alW D e0 (ad 5) ht tq.length, dvW da N S om])) (fun _ => False) := by
  refine xCw_of hl (by decide +kernel) (Nat.le_of_ble_eq_true rfl) (fun G X F => ?_)
  have B : xB l D e0 "CreditLinksLaw" cL_goes 4 (some .int) [(0, 75, 76, 28), (0, 75, 80, 30)] _ G X := F.base
  show G 0 [(0, .ref (ad 0)), (1, .int 6), (2, .int c9)] [] [xoW ad up op tr, rwW D (ad 4) (ad 13) (ad 14) (ad 15) gb qb.length, alW D e0 (ad 5) ht tq.length, dvW da N S om] 0 0
  refine x_iload_n B (pc := 0) 1 dL_goes_0 rfl rfl ?_
  refine x_if_ne B (pc := 1) 12 dL_goes_1 (by decide) (fun h1 => ?_) (fun h1 => absurd h1 (by decide))
  refine x_iload_n B (pc := 12) 1 dL_goes_12 rfl rfl ?_
  refine x_iconst B (pc := 13) 1 dL_goes_13 (by decide) ?_
  refine x_icmp_ne B (pc := 14) 25 dL_goes_14 (by decide) (fun h14 => ?_) (fun h14 => absurd h14 (by decide))
  refine x_iload_n B (pc := 25) 1 dL_goes_25 rfl rfl ?_
  refine x_iconst B (pc := 26) 2 dL_goes_26 (by decide) ?_
  refine x_icmp_ne B (pc := 27) 37 dL_goes_27 (by decide) (fun h27 => ?_) (fun h27 => absurd h27 (by decide))
  refine x_iload_n B (pc := 37) 1 dL_goes_37 rfl rfl ?_
  refine x_iconst B (pc := 38) 3 dL_goes_38 (by decide) ?_
  refine x_icmp_ne B (pc := 39) 49 dL_goes_39 (by decide) (fun h39 => ?_) (fun h39 => absurd h39 (by decide))
  refine x_iload_n B (pc := 49) 1 dL_goes_49 rfl rfl ?_
  refine x_iconst B (pc := 50) 4 dL_goes_50 (by decide) ?_
  refine x_icmp_ne B (pc := 51) 61 dL_goes_51 (by decide) (fun h51 => ?_) (fun h51 => absurd h51 (by decide))
  refine x_aload_n B (pc := 61) 0 dL_goes_61 rfl rfl ?_
  refine x_iload_n B (pc := 62) 1 dL_goes_62 rfl rfl ?_
  refine x_iconst B (pc := 63) 5 dL_goes_63 (by decide) ?_
  refine x_icmp_ne B (pc := 64) 71 dL_goes_64 (by decide) (fun h64 => ?_) (fun h64 => absurd h64 (by decide))
  refine x_iconst B (pc := 71) 0 dL_goes_71 (by decide) ?_
  have hkx : ∀ E, xpo (cod (decide (op = 1)) true true) xISE xISE xISE E → X E 72 [(0, .ref (ad 0)), (1, .int 6), (2, .int c9)] [xoW ad up op tr, rwW D (ad 4) (ad 13) (ad 14) (ad 15) gb qb.length, alW D e0 (ad 5) ht tq.length, dvW da N S om] 1 6 := by
    intro E hE
    rcases hE with ⟨hc, rfl⟩ | ⟨hc, rfl⟩ | ⟨hc, rfl⟩
    · refine x_catch B [⟨0, 75, 76, 28⟩] ⟨0, 75, 80, 30⟩ [] rfl (List.forall_mem_cons.mpr ⟨⟨by decide, _, tm180, by decide +kernel⟩, (fun z hz => nomatch hz)⟩) (by decide) (by decide) tm181 (by decide +kernel) (fun q => ?_)
      show G 80 [(0, .ref (ad 0)), (1, .int 6), (2, .int c9)] [.ref q] [xoW ad up op tr, rwW D (ad 4) (ad 13) (ad 14) (ad 15) gb qb.length, alW D e0 (ad 5) ht tq.length, dvW da N S om] 1 6
      refine x_astore_n B (pc := 80) [(3, .ref q), (0, .ref (ad 0)), (1, .int 6), (2, .int c9)] dL_goes_80 rfl (by decide) rfl ?_
      refine x_bipush B (pc := 81) (-8) dL_goes_81 (by decide) ?_
      exact x_iret F (pc := 83) rfl dL_goes_83 (Or.inr ⟨by rw [hc]; decide, rfl, rfl⟩) (Nat.le_of_ble_eq_true rfl) (Nat.le_of_ble_eq_true rfl)
    · refine x_catch B [⟨0, 75, 76, 28⟩] ⟨0, 75, 80, 30⟩ [] rfl (List.forall_mem_cons.mpr ⟨⟨by decide, _, tm180, by decide +kernel⟩, (fun z hz => nomatch hz)⟩) (by decide) (by decide) tm181 (by decide +kernel) (fun q => ?_)
      show G 80 [(0, .ref (ad 0)), (1, .int 6), (2, .int c9)] [.ref q] [xoW ad up op tr, rwW D (ad 4) (ad 13) (ad 14) (ad 15) gb qb.length, alW D e0 (ad 5) ht tq.length, dvW da N S om] 1 6
      refine x_astore_n B (pc := 80) [(3, .ref q), (0, .ref (ad 0)), (1, .int 6), (2, .int c9)] dL_goes_80 rfl (by decide) rfl ?_
      refine x_bipush B (pc := 81) (-8) dL_goes_81 (by decide) ?_
      exact x_iret F (pc := 83) rfl dL_goes_83 (Or.inr ⟨by rw [hc]; decide, rfl, rfl⟩) (Nat.le_of_ble_eq_true rfl) (Nat.le_of_ble_eq_true rfl)
    · refine x_catch B [⟨0, 75, 76, 28⟩] ⟨0, 75, 80, 30⟩ [] rfl (List.forall_mem_cons.mpr ⟨⟨by decide, _, tm180, by decide +kernel⟩, (fun z hz => nomatch hz)⟩) (by decide) (by decide) tm181 (by decide +kernel) (fun q => ?_)
      show G 80 [(0, .ref (ad 0)), (1, .int 6), (2, .int c9)] [.ref q] [xoW ad up op tr, rwW D (ad 4) (ad 13) (ad 14) (ad 15) gb qb.length, alW D e0 (ad 5) ht tq.length, dvW da N S om] 1 6
      refine x_astore_n B (pc := 80) [(3, .ref q), (0, .ref (ad 0)), (1, .int 6), (2, .int c9)] dL_goes_80 rfl (by decide) rfl ?_
      refine x_bipush B (pc := 81) (-8) dL_goes_81 (by decide) ?_
      exact x_iret F (pc := 83) rfl dL_goes_83 (Or.inr ⟨by rw [hc]; decide, rfl, rfl⟩) (Nat.le_of_ble_eq_true rfl) (Nat.le_of_ble_eq_true rfl)
  refine x_callV B (pc := 72) (As := [.int 0]) (c_X3_end hl D e0 (b := 0) hop hok hT hin hqb hql hw) xcl_X rfl 0 0 rfl rfl tm560 tm561 tm562 tm1 tm563 md_X3_end ⟨Nat.le_of_ble_eq_true rfl, Nat.le_of_ble_eq_true rfl⟩ [0, 1, 2, 3] rfl rfl rfl (Nat.le_of_ble_eq_true rfl) (Nat.le_of_ble_eq_true rfl) (Nat.le_of_ble_eq_true rfl) dL_goes_72 (fun E hE => hkx E hE) (fun v cs1 hp => ?_)
  obtain ⟨hc, rfl, h1, g1, hf0, hf1, rfl⟩ := hp
  show G 75 [(0, .ref (ad 0)), (1, .int 6), (2, .int c9)] [.int (eR tq 0)] [xoW ad up 0 tr, rwW D (ad 4) (ad 13) (ad 14) (ad 15) g1 ((eQ S qb tq 0).length), alW D e0 (ad 5) h1 0, dvW da N (eS S tq 0) (eM S om tq 0)] 1 6
  exact x_iret F (pc := 75) rfl dL_goes_75 (Or.inl ⟨hc, rfl, h1, g1, hf0, hf1, rfl⟩) (Nat.le_of_ble_eq_true rfl) (Nat.le_of_ble_eq_true rfl)

set_option maxRecDepth 100000 in
set_option maxHeartbeats 4000000 in
theorem c_of_credit {l : Launch} (hl : l.stackTraces = false) (D : va_G) (e0 : Nat) {ad : Nat → Nat} {up op tr : Int32} {L : xS} {a : Int32}  : xC l yL_of (.codeWith yL_of cL_of 4 (some .int) [(0, 56, 57, 26)]) ({ frames := 8, cells := 1, slots := 6, locals := 124 } : Room) D e0 [.ref (ad 0), .int 0, .int a] [xoW ad up op tr, lkW D ad L] (fun w cs => w = some (.int (bif (xinB 0 3 a) then crd L (ix a) else -8)) ∧ cs = [xoW ad up op tr, lkW D ad L]) (fun _ => False) := by
  refine xCw_of hl (by decide +kernel) (Nat.le_of_ble_eq_true rfl) (fun G X F => ?_)
  have B : xB l D e0 "CreditLinksLaw" cL_of 4 (some .int) [(0, 56, 57, 26)] _ G X := F.base
  show G 0 [(0, .ref (ad 0)), (1, .int 0), (2, .int a)] [] [xoW ad up op tr, lkW D ad L] 0 0
  refine x_iload_n B (pc := 0) 1 dL_of_0 rfl rfl ?_
  refine x_if_ne B (pc := 1) 12 dL_of_1 (by decide) (fun h1 => absurd (by decide) h1) (fun h1 => ?_)
  refine x_aload_n B (pc := 4) 0 dL_of_4 rfl rfl ?_
  refine x_iload_n B (pc := 5) 2 dL_of_5 rfl rfl ?_
  have hkx : ∀ E, xpo (cod (xinB 0 3 a) true true) xIOB xIAE xISE E → X E 6 [(0, .ref (ad 0)), (1, .int 0), (2, .int a)] [xoW ad up op tr, lkW D ad L] 1 6 := by
    intro E hE
    rcases hE with ⟨hc, rfl⟩ | ⟨hc, rfl⟩ | ⟨hc, rfl⟩
    · refine x_catch B [] ⟨0, 56, 57, 26⟩ [] rfl (fun z hz => nomatch hz) (by decide) (by decide) tm179 (by decide +kernel) (fun q => ?_)
      show G 57 [(0, .ref (ad 0)), (1, .int 0), (2, .int a)] [.ref q] [xoW ad up op tr, lkW D ad L] 1 6
      refine x_astore_n B (pc := 57) [(3, .ref q), (0, .ref (ad 0)), (1, .int 0), (2, .int a)] dL_of_57 rfl (by decide) rfl ?_
      refine x_bipush B (pc := 58) (-8) dL_of_58 (by decide) ?_
      exact x_iret F (pc := 60) rfl dL_of_60 (⟨by rw [cod_p1 hc] <;> rfl, rfl⟩) (Nat.le_of_ble_eq_true rfl) (Nat.le_of_ble_eq_true rfl)
    · exact (cod_ne2 hc).elim
    · exact (cod_ne3 hc).elim
  refine x_callV B (pc := 6) (As := [.int a]) (c_X3_credit hl D e0 ) xcl_X rfl 0 0 rfl rfl tm567 tm568 tm569 tm1 tm570 md_X3_credit ⟨Nat.le_of_ble_eq_true rfl, Nat.le_of_ble_eq_true rfl⟩ [0, 1] rfl rfl rfl (Nat.le_of_ble_eq_true rfl) (Nat.le_of_ble_eq_true rfl) (Nat.le_of_ble_eq_true rfl) dL_of_6 (fun E hE => hkx E hE) (fun v cs1 hp => ?_)
  obtain ⟨hc, rfl, rfl⟩ := hp
  show G 9 [(0, .ref (ad 0)), (1, .int 0), (2, .int a)] [.int (crd L (ix a))] [xoW ad up op tr, lkW D ad L] 1 6
  refine x_goto B (pc := 9) 56 dL_of_9 (by decide) ?_
  exact x_iret F (pc := 56) rfl dL_of_56 (⟨by rw [cod_p0 hc] <;> rfl, rfl⟩) (Nat.le_of_ble_eq_true rfl) (Nat.le_of_ble_eq_true rfl)

set_option maxRecDepth 100000 in
set_option maxHeartbeats 4000000 in
theorem c_of_forSender {l : Launch} (hl : l.stackTraces = false) (D : va_G) (e0 : Nat) {ad : Nat → Nat} {up op tr : Int32} {hs : xAg} {N : Nat} {da : Nat → Nat} {S : xS} {om : Nat → Int32} {a : Int32} (hok : alOk hs N da) (hN : N ≤ 60) : xC l yL_of (.codeWith yL_of cL_of 4 (some .int) [(0, 56, 57, 26)]) ({ frames := 8, cells := 1, slots := 6, locals := 124 } : Room) D e0 [.ref (ad 0), .int 1, .int a] [xoW ad up op tr, alW D e0 (ad 2) hs N, dvW da N S om] (fun w cs => w = some (.int (bif (xinD N a) then S 7 (ix a) else -8)) ∧ cs = [xoW ad up op tr, alW D e0 (ad 2) hs N, dvW da N S om]) (fun _ => False) := by
  refine xCw_of hl (by decide +kernel) (Nat.le_of_ble_eq_true rfl) (fun G X F => ?_)
  have B : xB l D e0 "CreditLinksLaw" cL_of 4 (some .int) [(0, 56, 57, 26)] _ G X := F.base
  show G 0 [(0, .ref (ad 0)), (1, .int 1), (2, .int a)] [] [xoW ad up op tr, alW D e0 (ad 2) hs N, dvW da N S om] 0 0
  refine x_iload_n B (pc := 0) 1 dL_of_0 rfl rfl ?_
  refine x_if_ne B (pc := 1) 12 dL_of_1 (by decide) (fun h1 => ?_) (fun h1 => absurd h1 (by decide))
  refine x_iload_n B (pc := 12) 1 dL_of_12 rfl rfl ?_
  refine x_iconst B (pc := 13) 1 dL_of_13 (by decide) ?_
  refine x_icmp_ne B (pc := 14) 25 dL_of_14 (by decide) (fun h14 => absurd (by decide) h14) (fun h14 => ?_)
  refine x_aload_n B (pc := 17) 0 dL_of_17 rfl rfl ?_
  refine x_iload_n B (pc := 18) 2 dL_of_18 rfl rfl ?_
  have hkx : ∀ E, xpo (cod (xinD N a) true true) xIOB xIAE xISE E → X E 19 [(0, .ref (ad 0)), (1, .int 1), (2, .int a)] [xoW ad up op tr, alW D e0 (ad 2) hs N, dvW da N S om] 1 6 := by
    intro E hE
    rcases hE with ⟨hc, rfl⟩ | ⟨hc, rfl⟩ | ⟨hc, rfl⟩
    · refine x_catch B [] ⟨0, 56, 57, 26⟩ [] rfl (fun z hz => nomatch hz) (by decide) (by decide) tm179 (by decide +kernel) (fun q => ?_)
      show G 57 [(0, .ref (ad 0)), (1, .int 1), (2, .int a)] [.ref q] [xoW ad up op tr, alW D e0 (ad 2) hs N, dvW da N S om] 1 6
      refine x_astore_n B (pc := 57) [(3, .ref q), (0, .ref (ad 0)), (1, .int 1), (2, .int a)] dL_of_57 rfl (by decide) rfl ?_
      refine x_bipush B (pc := 58) (-8) dL_of_58 (by decide) ?_
      exact x_iret F (pc := 60) rfl dL_of_60 (⟨by rw [cod_p1 hc] <;> rfl, rfl⟩) (Nat.le_of_ble_eq_true rfl) (Nat.le_of_ble_eq_true rfl)
    · exact (cod_ne2 hc).elim
    · exact (cod_ne3 hc).elim
  refine x_callV B (pc := 19) (As := [.int a]) (c_X3_forSender hl D e0 hok hN) xcl_X rfl 0 0 rfl rfl tm571 tm572 tm573 tm1 tm574 md_X3_forSender ⟨Nat.le_of_ble_eq_true rfl, Nat.le_of_ble_eq_true rfl⟩ [0, 1, 2] rfl rfl rfl (Nat.le_of_ble_eq_true rfl) (Nat.le_of_ble_eq_true rfl) (Nat.le_of_ble_eq_true rfl) dL_of_19 (fun E hE => hkx E hE) (fun v cs1 hp => ?_)
  obtain ⟨hc, rfl, rfl⟩ := hp
  show G 22 [(0, .ref (ad 0)), (1, .int 1), (2, .int a)] [.int (S 7 (ix a))] [xoW ad up op tr, alW D e0 (ad 2) hs N, dvW da N S om] 1 6
  refine x_goto B (pc := 22) 56 dL_of_22 (by decide) ?_
  exact x_iret F (pc := 56) rfl dL_of_56 (⟨by rw [cod_p0 hc] <;> rfl, rfl⟩) (Nat.le_of_ble_eq_true rfl) (Nat.le_of_ble_eq_true rfl)

set_option maxRecDepth 100000 in
set_option maxHeartbeats 4000000 in
theorem c_of_heard {l : Launch} (hl : l.stackTraces = false) (D : va_G) (e0 : Nat) {ad : Nat → Nat} {up op tr : Int32} {hs : xAg} {N : Nat} {da : Nat → Nat} {S : xS} {om : Nat → Int32} {a : Int32} (hok : alOk hs N da) (hN : N ≤ 60) : xC l yL_of (.codeWith yL_of cL_of 4 (some .int) [(0, 56, 57, 26)]) ({ frames := 8, cells := 1, slots := 6, locals := 124 } : Room) D e0 [.ref (ad 0), .int 2, .int a] [xoW ad up op tr, alW D e0 (ad 2) hs N, dvW da N S om] (fun w cs => w = some (.int (bif (xinD N a) then S 8 (ix a) else -8)) ∧ cs = [xoW ad up op tr, alW D e0 (ad 2) hs N, dvW da N S om]) (fun _ => False) := by
  refine xCw_of hl (by decide +kernel) (Nat.le_of_ble_eq_true rfl) (fun G X F => ?_)
  have B : xB l D e0 "CreditLinksLaw" cL_of 4 (some .int) [(0, 56, 57, 26)] _ G X := F.base
  show G 0 [(0, .ref (ad 0)), (1, .int 2), (2, .int a)] [] [xoW ad up op tr, alW D e0 (ad 2) hs N, dvW da N S om] 0 0
  refine x_iload_n B (pc := 0) 1 dL_of_0 rfl rfl ?_
  refine x_if_ne B (pc := 1) 12 dL_of_1 (by decide) (fun h1 => ?_) (fun h1 => absurd h1 (by decide))
  refine x_iload_n B (pc := 12) 1 dL_of_12 rfl rfl ?_
  refine x_iconst B (pc := 13) 1 dL_of_13 (by decide) ?_
  refine x_icmp_ne B (pc := 14) 25 dL_of_14 (by decide) (fun h14 => ?_) (fun h14 => absurd h14 (by decide))
  refine x_iload_n B (pc := 25) 1 dL_of_25 rfl rfl ?_
  refine x_iconst B (pc := 26) 2 dL_of_26 (by decide) ?_
  refine x_icmp_ne B (pc := 27) 38 dL_of_27 (by decide) (fun h27 => absurd (by decide) h27) (fun h27 => ?_)
  refine x_aload_n B (pc := 30) 0 dL_of_30 rfl rfl ?_
  refine x_iload_n B (pc := 31) 2 dL_of_31 rfl rfl ?_
  have hkx : ∀ E, xpo (cod (xinD N a) true true) xIOB xIAE xISE E → X E 32 [(0, .ref (ad 0)), (1, .int 2), (2, .int a)] [xoW ad up op tr, alW D e0 (ad 2) hs N, dvW da N S om] 1 6 := by
    intro E hE
    rcases hE with ⟨hc, rfl⟩ | ⟨hc, rfl⟩ | ⟨hc, rfl⟩
    · refine x_catch B [] ⟨0, 56, 57, 26⟩ [] rfl (fun z hz => nomatch hz) (by decide) (by decide) tm179 (by decide +kernel) (fun q => ?_)
      show G 57 [(0, .ref (ad 0)), (1, .int 2), (2, .int a)] [.ref q] [xoW ad up op tr, alW D e0 (ad 2) hs N, dvW da N S om] 1 6
      refine x_astore_n B (pc := 57) [(3, .ref q), (0, .ref (ad 0)), (1, .int 2), (2, .int a)] dL_of_57 rfl (by decide) rfl ?_
      refine x_bipush B (pc := 58) (-8) dL_of_58 (by decide) ?_
      exact x_iret F (pc := 60) rfl dL_of_60 (⟨by rw [cod_p1 hc] <;> rfl, rfl⟩) (Nat.le_of_ble_eq_true rfl) (Nat.le_of_ble_eq_true rfl)
    · exact (cod_ne2 hc).elim
    · exact (cod_ne3 hc).elim
  refine x_callV B (pc := 32) (As := [.int a]) (c_X3_heard hl D e0 hok hN) xcl_X rfl 0 0 rfl rfl tm575 tm576 tm577 tm1 tm578 md_X3_heard ⟨Nat.le_of_ble_eq_true rfl, Nat.le_of_ble_eq_true rfl⟩ [0, 1, 2] rfl rfl rfl (Nat.le_of_ble_eq_true rfl) (Nat.le_of_ble_eq_true rfl) (Nat.le_of_ble_eq_true rfl) dL_of_32 (fun E hE => hkx E hE) (fun v cs1 hp => ?_)
  obtain ⟨hc, rfl, rfl⟩ := hp
  show G 35 [(0, .ref (ad 0)), (1, .int 2), (2, .int a)] [.int (S 8 (ix a))] [xoW ad up op tr, alW D e0 (ad 2) hs N, dvW da N S om] 1 6
  refine x_goto B (pc := 35) 56 dL_of_35 (by decide) ?_
  exact x_iret F (pc := 56) rfl dL_of_56 (⟨by rw [cod_p0 hc] <;> rfl, rfl⟩) (Nat.le_of_ble_eq_true rfl) (Nat.le_of_ble_eq_true rfl)

set_option maxRecDepth 100000 in
set_option maxHeartbeats 4000000 in
theorem c_of_forReceiver {l : Launch} (hl : l.stackTraces = false) (D : va_G) (e0 : Nat) {ad : Nat → Nat} {up op tr : Int32} {hs : xAg} {N : Nat} {da : Nat → Nat} {S : xS} {om : Nat → Int32} {a : Int32} (hok : alOk hs N da) (hN : N ≤ 60) : xC l yL_of (.codeWith yL_of cL_of 4 (some .int) [(0, 56, 57, 26)]) ({ frames := 8, cells := 1, slots := 6, locals := 124 } : Room) D e0 [.ref (ad 0), .int 3, .int a] [xoW ad up op tr, alW D e0 (ad 2) hs N, dvW da N S om] (fun w cs => w = some (.int (bif (xinD N a) then S 9 (ix a) else -8)) ∧ cs = [xoW ad up op tr, alW D e0 (ad 2) hs N, dvW da N S om]) (fun _ => False) := by
  refine xCw_of hl (by decide +kernel) (Nat.le_of_ble_eq_true rfl) (fun G X F => ?_)
  have B : xB l D e0 "CreditLinksLaw" cL_of 4 (some .int) [(0, 56, 57, 26)] _ G X := F.base
  show G 0 [(0, .ref (ad 0)), (1, .int 3), (2, .int a)] [] [xoW ad up op tr, alW D e0 (ad 2) hs N, dvW da N S om] 0 0
  refine x_iload_n B (pc := 0) 1 dL_of_0 rfl rfl ?_
  refine x_if_ne B (pc := 1) 12 dL_of_1 (by decide) (fun h1 => ?_) (fun h1 => absurd h1 (by decide))
  refine x_iload_n B (pc := 12) 1 dL_of_12 rfl rfl ?_
  refine x_iconst B (pc := 13) 1 dL_of_13 (by decide) ?_
  refine x_icmp_ne B (pc := 14) 25 dL_of_14 (by decide) (fun h14 => ?_) (fun h14 => absurd h14 (by decide))
  refine x_iload_n B (pc := 25) 1 dL_of_25 rfl rfl ?_
  refine x_iconst B (pc := 26) 2 dL_of_26 (by decide) ?_
  refine x_icmp_ne B (pc := 27) 38 dL_of_27 (by decide) (fun h27 => ?_) (fun h27 => absurd h27 (by decide))
  refine x_iload_n B (pc := 38) 1 dL_of_38 rfl rfl ?_
  refine x_iconst B (pc := 39) 3 dL_of_39 (by decide) ?_
  refine x_icmp_ne B (pc := 40) 51 dL_of_40 (by decide) (fun h40 => absurd (by decide) h40) (fun h40 => ?_)
  refine x_aload_n B (pc := 43) 0 dL_of_43 rfl rfl ?_
  refine x_iload_n B (pc := 44) 2 dL_of_44 rfl rfl ?_
  have hkx : ∀ E, xpo (cod (xinD N a) true true) xIOB xIAE xISE E → X E 45 [(0, .ref (ad 0)), (1, .int 3), (2, .int a)] [xoW ad up op tr, alW D e0 (ad 2) hs N, dvW da N S om] 1 6 := by
    intro E hE
    rcases hE with ⟨hc, rfl⟩ | ⟨hc, rfl⟩ | ⟨hc, rfl⟩
    · refine x_catch B [] ⟨0, 56, 57, 26⟩ [] rfl (fun z hz => nomatch hz) (by decide) (by decide) tm179 (by decide +kernel) (fun q => ?_)
      show G 57 [(0, .ref (ad 0)), (1, .int 3), (2, .int a)] [.ref q] [xoW ad up op tr, alW D e0 (ad 2) hs N, dvW da N S om] 1 6
      refine x_astore_n B (pc := 57) [(3, .ref q), (0, .ref (ad 0)), (1, .int 3), (2, .int a)] dL_of_57 rfl (by decide) rfl ?_
      refine x_bipush B (pc := 58) (-8) dL_of_58 (by decide) ?_
      exact x_iret F (pc := 60) rfl dL_of_60 (⟨by rw [cod_p1 hc] <;> rfl, rfl⟩) (Nat.le_of_ble_eq_true rfl) (Nat.le_of_ble_eq_true rfl)
    · exact (cod_ne2 hc).elim
    · exact (cod_ne3 hc).elim
  refine x_callV B (pc := 45) (As := [.int a]) (c_X3_forReceiver hl D e0 hok hN) xcl_X rfl 0 0 rfl rfl tm579 tm580 tm581 tm1 tm582 md_X3_forReceiver ⟨Nat.le_of_ble_eq_true rfl, Nat.le_of_ble_eq_true rfl⟩ [0, 1, 2] rfl rfl rfl (Nat.le_of_ble_eq_true rfl) (Nat.le_of_ble_eq_true rfl) (Nat.le_of_ble_eq_true rfl) dL_of_45 (fun E hE => hkx E hE) (fun v cs1 hp => ?_)
  obtain ⟨hc, rfl, rfl⟩ := hp
  show G 48 [(0, .ref (ad 0)), (1, .int 3), (2, .int a)] [.int (S 9 (ix a))] [xoW ad up op tr, alW D e0 (ad 2) hs N, dvW da N S om] 1 6
  refine x_goto B (pc := 48) 56 dL_of_48 (by decide) ?_
  exact x_iret F (pc := 56) rfl dL_of_56 (⟨by rw [cod_p0 hc] <;> rfl, rfl⟩) (Nat.le_of_ble_eq_true rfl) (Nat.le_of_ble_eq_true rfl)

set_option maxRecDepth 100000 in
set_option maxHeartbeats 4000000 in
theorem c_of_effects {l : Launch} (hl : l.stackTraces = false) (D : va_G) (e0 : Nat) {ad : Nat → Nat} {up op tr : Int32} {hs : xAg} {N : Nat} {da : Nat → Nat} {S : xS} {om : Nat → Int32} {a : Int32} (hok : alOk hs N da) (hN : N ≤ 60) : xC l yL_of (.codeWith yL_of cL_of 4 (some .int) [(0, 56, 57, 26)]) ({ frames := 8, cells := 1, slots := 6, locals := 124 } : Room) D e0 [.ref (ad 0), .int 4, .int a] [xoW ad up op tr, alW D e0 (ad 2) hs N, dvW da N S om] (fun w cs => w = some (.int (bif (xinD N a) then S 13 (ix a) else -8)) ∧ cs = [xoW ad up op tr, alW D e0 (ad 2) hs N, dvW da N S om]) (fun _ => False) := by
  refine xCw_of hl (by decide +kernel) (Nat.le_of_ble_eq_true rfl) (fun G X F => ?_)
  have B : xB l D e0 "CreditLinksLaw" cL_of 4 (some .int) [(0, 56, 57, 26)] _ G X := F.base
  show G 0 [(0, .ref (ad 0)), (1, .int 4), (2, .int a)] [] [xoW ad up op tr, alW D e0 (ad 2) hs N, dvW da N S om] 0 0
  refine x_iload_n B (pc := 0) 1 dL_of_0 rfl rfl ?_
  refine x_if_ne B (pc := 1) 12 dL_of_1 (by decide) (fun h1 => ?_) (fun h1 => absurd h1 (by decide))
  refine x_iload_n B (pc := 12) 1 dL_of_12 rfl rfl ?_
  refine x_iconst B (pc := 13) 1 dL_of_13 (by decide) ?_
  refine x_icmp_ne B (pc := 14) 25 dL_of_14 (by decide) (fun h14 => ?_) (fun h14 => absurd h14 (by decide))
  refine x_iload_n B (pc := 25) 1 dL_of_25 rfl rfl ?_
  refine x_iconst B (pc := 26) 2 dL_of_26 (by decide) ?_
  refine x_icmp_ne B (pc := 27) 38 dL_of_27 (by decide) (fun h27 => ?_) (fun h27 => absurd h27 (by decide))
  refine x_iload_n B (pc := 38) 1 dL_of_38 rfl rfl ?_
  refine x_iconst B (pc := 39) 3 dL_of_39 (by decide) ?_
  refine x_icmp_ne B (pc := 40) 51 dL_of_40 (by decide) (fun h40 => ?_) (fun h40 => absurd h40 (by decide))
  refine x_aload_n B (pc := 51) 0 dL_of_51 rfl rfl ?_
  refine x_iload_n B (pc := 52) 2 dL_of_52 rfl rfl ?_
  have hkx : ∀ E, xpo (cod (xinD N a) true true) xIOB xIAE xISE E → X E 53 [(0, .ref (ad 0)), (1, .int 4), (2, .int a)] [xoW ad up op tr, alW D e0 (ad 2) hs N, dvW da N S om] 1 6 := by
    intro E hE
    rcases hE with ⟨hc, rfl⟩ | ⟨hc, rfl⟩ | ⟨hc, rfl⟩
    · refine x_catch B [] ⟨0, 56, 57, 26⟩ [] rfl (fun z hz => nomatch hz) (by decide) (by decide) tm179 (by decide +kernel) (fun q => ?_)
      show G 57 [(0, .ref (ad 0)), (1, .int 4), (2, .int a)] [.ref q] [xoW ad up op tr, alW D e0 (ad 2) hs N, dvW da N S om] 1 6
      refine x_astore_n B (pc := 57) [(3, .ref q), (0, .ref (ad 0)), (1, .int 4), (2, .int a)] dL_of_57 rfl (by decide) rfl ?_
      refine x_bipush B (pc := 58) (-8) dL_of_58 (by decide) ?_
      exact x_iret F (pc := 60) rfl dL_of_60 (⟨by rw [cod_p1 hc] <;> rfl, rfl⟩) (Nat.le_of_ble_eq_true rfl) (Nat.le_of_ble_eq_true rfl)
    · exact (cod_ne2 hc).elim
    · exact (cod_ne3 hc).elim
  refine x_callV B (pc := 53) (As := [.int a]) (c_X3_effects hl D e0 hok hN) xcl_X rfl 0 0 rfl rfl tm583 tm584 tm585 tm1 tm586 md_X3_effects ⟨Nat.le_of_ble_eq_true rfl, Nat.le_of_ble_eq_true rfl⟩ [0, 1, 2] rfl rfl rfl (Nat.le_of_ble_eq_true rfl) (Nat.le_of_ble_eq_true rfl) (Nat.le_of_ble_eq_true rfl) dL_of_53 (fun E hE => hkx E hE) (fun v cs1 hp => ?_)
  obtain ⟨hc, rfl, rfl⟩ := hp
  show G 56 [(0, .ref (ad 0)), (1, .int 4), (2, .int a)] [.int (S 13 (ix a))] [xoW ad up op tr, alW D e0 (ad 2) hs N, dvW da N S om] 1 6
  exact x_iret F (pc := 56) rfl dL_of_56 (⟨by rw [cod_p0 hc] <;> rfl, rfl⟩) (Nat.le_of_ble_eq_true rfl) (Nat.le_of_ble_eq_true rfl)
