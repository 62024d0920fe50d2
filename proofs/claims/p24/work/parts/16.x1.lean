set_option maxRecDepth 100000 in
set_option maxHeartbeats 4000000 in
theorem c_X3_linkAt {l : Launch} (hl : l.stackTraces = false) (D : va_G) (e0 : Nat) {ad : Nat → Nat} {up op tr : Int32} {L : xS} {j : Nat} (hj : j < 4) : xC l yX3_linkAt (.code yX3_linkAt cX3_linkAt 2 (some (.object "CreditLinks$Link"))) ({ frames := 0, cells := 0, slots := 0, locals := 0 } : Room) D e0 [.ref (ad 0), .int (nI j)] [xoW ad up op tr, lkW D ad L] (fun v cs => v = some (.ref (ad (6 + j))) ∧ cs = [xoW ad up op tr, lkW D ad L]) (fun _ => False) := by
  refine xC_of hl (by decide +kernel) (Nat.le_of_ble_eq_true rfl) (fun G X F => ?_)
  have B : xB l D e0 "CreditLinks" cX3_linkAt 2 (some (.object "CreditLinks$Link")) [] _ G X := F.base
  show G 0 [(0, .ref (ad 0)), (1, .int (nI j))] [] [xoW ad up op tr, lkW D ad L] 0 0
  refine x_iload_n B (pc := 0) 1 dX3_linkAt_0 rfl rfl ?_
  refine x_if_lt B (pc := 1) 9 dX3_linkAt_1 (by decide) (fun h1 => absurd h1 (nI_pos (by omega))) (fun h1 => ?_)
  refine x_iload_n B (pc := 4) 1 dX3_linkAt_4 rfl rfl ?_
  refine x_iconst B (pc := 5) 4 dX3_linkAt_5 (by decide) ?_
  refine x_icmp_lt B (pc := 6) 19 dX3_linkAt_6 (by decide) (fun h6 => ?_) (fun h6 => absurd (nI_lt (b := 4) hj (by decide)) h6)
  refine x_aload_n B (pc := 19) 0 dX3_linkAt_19 rfl rfl ?_
  refine x_get B (pc := 20) xcl_X 0 0 0 rfl rfl (by decide) tm100 rfl rfl dX3_linkAt_20 ?_
  refine x_iload_n B (pc := 23) 1 dX3_linkAt_23 rfl rfl ?_
  refine x_kaldN B (pc := 24) j 1 0 hj (by decide) rfl rfl dX3_linkAt_24 ?_
  show G 25 [(0, .ref (ad 0)), (1, .int (nI j))] [.ref (ad (6 + j))] [xoW ad up op tr, lkW D ad L] 0 0
  exact x_aret F (pc := 25) rfl (Or.inl ⟨_, rfl⟩) dX3_linkAt_25 (⟨rfl, rfl⟩) (Nat.le_of_ble_eq_true rfl) (Nat.le_of_ble_eq_true rfl)

set_option maxRecDepth 100000 in
set_option maxHeartbeats 4000000 in
theorem c_linkAt_no {l : Launch} (hl : l.stackTraces = false) (D : va_G) (e0 : Nat) {ad : Nat → Nat} {up op tr : Int32} {L : xS} {i : Int32} (hi : xinB 0 3 i = false) : xC l yX3_linkAt (.code yX3_linkAt cX3_linkAt 2 (some (.object "CreditLinks$Link"))) ({ frames := 6, cells := 1, slots := 6, locals := 82 } : Room) D e0 [.ref (ad 0), .int i] [xoW ad up op tr, lkW D ad L] (fun _ _ => False) (fun E => E = xIOB) := by
  refine xC_of hl (by decide +kernel) (Nat.le_of_ble_eq_true rfl) (fun G X F => ?_)
  have B : xB l D e0 "CreditLinks" cX3_linkAt 2 (some (.object "CreditLinks$Link")) [] _ G X := F.base
  show G 0 [(0, .ref (ad 0)), (1, .int i)] [] [xoW ad up op tr, lkW D ad L] 0 0
  refine x_iload_n B (pc := 0) 1 dX3_linkAt_0 rfl rfl ?_
  refine x_if_lt B (pc := 1) 9 dX3_linkAt_1 (by decide) (fun h1 => ?_) (fun h1 => ?_)
  · skip
    exact x_throw F (pc := 9) (cls := "java/lang/IndexOutOfBoundsException") (text := "there is no such link") (by decide +kernel) xat_IOB.1 xat_IOB.2 tm190 tm10 (by decide +kernel) dX3_linkAt_9 dX3_linkAt_12 dX3_linkAt_13 dX3_linkAt_15 dX3_linkAt_18 (Nat.le_of_ble_eq_true rfl) (Nat.le_of_ble_eq_true rfl) (Nat.le_of_ble_eq_true rfl) (Nat.le_of_ble_eq_true rfl) rfl
  · skip
    refine x_iload_n B (pc := 4) 1 dX3_linkAt_4 rfl rfl ?_
    refine x_iconst B (pc := 5) 4 dX3_linkAt_5 (by decide) ?_
    refine x_icmp_lt B (pc := 6) 19 dX3_linkAt_6 (by decide) (fun h6 => ?_) (fun h6 => ?_)
    · skip
      exact (xinB_no_b (by decide) hi h1 h6).elim
    · skip
      exact x_throw F (pc := 9) (cls := "java/lang/IndexOutOfBoundsException") (text := "there is no such link") (by decide +kernel) xat_IOB.1 xat_IOB.2 tm190 tm10 (by decide +kernel) dX3_linkAt_9 dX3_linkAt_12 dX3_linkAt_13 dX3_linkAt_15 dX3_linkAt_18 (Nat.le_of_ble_eq_true rfl) (Nat.le_of_ble_eq_true rfl) (Nat.le_of_ble_eq_true rfl) (Nat.le_of_ble_eq_true rfl) rfl

set_option maxRecDepth 100000 in
set_option maxHeartbeats 4000000 in
theorem c_X3_deliveryAt {l : Launch} (hl : l.stackTraces = false) (D : va_G) (e0 : Nat) {ad : Nat → Nat} {up op tr : Int32} {hs : xAg} {N : Nat} {da : Nat → Nat} {S : xS} {om : Nat → Int32} {d : Nat} (hok : alOk hs N da) (hN : N ≤ 60) (hd : d < N) : xC l yX3_deliveryAt (.code yX3_deliveryAt cX3_deliveryAt 2 (some (.object "CreditLinks$Delivery"))) ({ frames := 3, cells := 0, slots := 0, locals := 64 } : Room) D e0 [.ref (ad 0), .int (nI d)] [xoW ad up op tr, alW D e0 (ad 2) hs N, dvW da N S om] (fun v cs => v = some (.ref (da d)) ∧ cs = [xoW ad up op tr, alW D e0 (ad 2) hs N, dvW da N S om]) (fun _ => False) := by
  refine xC_of hl (by decide +kernel) (Nat.le_of_ble_eq_true rfl) (fun G X F => ?_)
  have B : xB l D e0 "CreditLinks" cX3_deliveryAt 2 (some (.object "CreditLinks$Delivery")) [] _ G X := F.base
  show G 0 [(0, .ref (ad 0)), (1, .int (nI d))] [] [xoW ad up op tr, alW D e0 (ad 2) hs N, dvW da N S om] 0 0
  refine x_iload_n B (pc := 0) 1 dX3_deliveryAt_0 rfl rfl ?_
  refine x_if_lt B (pc := 1) 15 dX3_deliveryAt_1 (by decide) (fun h1 => absurd h1 (nI_pos (by omega))) (fun h1 => ?_)
  refine x_iload_n B (pc := 4) 1 dX3_deliveryAt_4 rfl rfl ?_
  refine x_aload_n B (pc := 5) 0 dX3_deliveryAt_5 rfl rfl ?_
  refine x_get B (pc := 6) xcl_X 0 0 1 rfl rfl (by decide) tm101 rfl rfl dX3_deliveryAt_6 ?_
  refine x_callV B (pc := 9) (As := []) (c_Jx4a65c_size_8abf5 hl D e0 ) xcl_A rfl 0 0 rfl al_get0 tm129 tm130 tm131 tm4 tm132 md_Jx4a65c_size_8abf5 ⟨Nat.le_of_ble_eq_true rfl, Nat.le_of_ble_eq_true rfl⟩ [1] rfl rfl rfl (Nat.le_of_ble_eq_true rfl) (Nat.le_of_ble_eq_true rfl) (Nat.le_of_ble_eq_true rfl) dX3_deliveryAt_9 (fun E hE => False.elim hE) (fun v cs1 hp => ?_)
  obtain ⟨rfl, rfl⟩ := hp
  show G 12 [(0, .ref (ad 0)), (1, .int (nI d))] [.int (nI N), .int (nI d)] [xoW ad up op tr, alW D e0 (ad 2) hs N, dvW da N S om] 0 0
  refine x_icmp_lt B (pc := 12) 25 dX3_deliveryAt_12 (by decide) (fun h12 => ?_) (fun h12 => absurd (nI_lt hd (by omega)) h12)
  refine x_aload_n B (pc := 25) 0 dX3_deliveryAt_25 rfl rfl ?_
  refine x_get B (pc := 26) xcl_X 0 0 1 rfl rfl (by decide) tm101 rfl rfl dX3_deliveryAt_26 ?_
  refine x_iload_n B (pc := 29) 1 dX3_deliveryAt_29 rfl rfl ?_
  refine x_callV B (pc := 30) (As := [.int (nI d)]) (c_Jx4a65c_get_915e3 hl D e0 hok hd) xcl_A rfl 0 0 rfl al_get0 tm149 tm150 tm151 tm4 tm152 md_Jx4a65c_get_915e3 ⟨Nat.le_of_ble_eq_true rfl, Nat.le_of_ble_eq_true rfl⟩ [1] rfl rfl rfl (Nat.le_of_ble_eq_true rfl) (Nat.le_of_ble_eq_true rfl) (Nat.le_of_ble_eq_true rfl) dX3_deliveryAt_30 (fun E hE => False.elim hE) (fun v cs1 hp => ?_)
  obtain ⟨rfl, rfl⟩ := hp
  show G 33 [(0, .ref (ad 0)), (1, .int (nI d))] [.ref (da d)] [xoW ad up op tr, alW D e0 (ad 2) hs N, dvW da N S om] 0 0
  refine x_cast B (pc := 33) xcl_D 2 d rfl (dv_get hd) tm163 dX3_deliveryAt_33 ?_
  exact x_aret F (pc := 36) rfl (Or.inl ⟨_, rfl⟩) dX3_deliveryAt_36 (⟨rfl, rfl⟩) (Nat.le_of_ble_eq_true rfl) (Nat.le_of_ble_eq_true rfl)

set_option maxRecDepth 100000 in
set_option maxHeartbeats 4000000 in
theorem c_deliveryAt_no {l : Launch} (hl : l.stackTraces = false) (D : va_G) (e0 : Nat) {ad : Nat → Nat} {up op tr : Int32} {hs : xAg} {N : Nat} {da : Nat → Nat} {S : xS} {om : Nat → Int32} {i : Int32} (hi : xinD N i = false) : xC l yX3_deliveryAt (.code yX3_deliveryAt cX3_deliveryAt 2 (some (.object "CreditLinks$Delivery"))) ({ frames := 6, cells := 1, slots := 6, locals := 82 } : Room) D e0 [.ref (ad 0), .int i] [xoW ad up op tr, alW D e0 (ad 2) hs N, dvW da N S om] (fun _ _ => False) (fun E => E = xIOB) := by
  refine xC_of hl (by decide +kernel) (Nat.le_of_ble_eq_true rfl) (fun G X F => ?_)
  have B : xB l D e0 "CreditLinks" cX3_deliveryAt 2 (some (.object "CreditLinks$Delivery")) [] _ G X := F.base
  show G 0 [(0, .ref (ad 0)), (1, .int i)] [] [xoW ad up op tr, alW D e0 (ad 2) hs N, dvW da N S om] 0 0
  refine x_iload_n B (pc := 0) 1 dX3_deliveryAt_0 rfl rfl ?_
  refine x_if_lt B (pc := 1) 15 dX3_deliveryAt_1 (by decide) (fun h1 => ?_) (fun h1 => ?_)
  · skip
    exact x_throw F (pc := 15) (cls := "java/lang/IndexOutOfBoundsException") (text := "there is no such delivery") (by decide +kernel) xat_IOB.1 xat_IOB.2 tm190 tm10 (by decide +kernel) dX3_deliveryAt_15 dX3_deliveryAt_18 dX3_deliveryAt_19 dX3_deliveryAt_21 dX3_deliveryAt_24 (Nat.le_of_ble_eq_true rfl) (Nat.le_of_ble_eq_true rfl) (Nat.le_of_ble_eq_true rfl) (Nat.le_of_ble_eq_true rfl) rfl
  · skip
    refine x_iload_n B (pc := 4) 1 dX3_deliveryAt_4 rfl rfl ?_
    refine x_aload_n B (pc := 5) 0 dX3_deliveryAt_5 rfl rfl ?_
    refine x_get B (pc := 6) xcl_X 0 0 1 rfl rfl (by decide) tm101 rfl rfl dX3_deliveryAt_6 ?_
    refine x_callV B (pc := 9) (As := []) (c_Jx4a65c_size_8abf5 hl D e0 ) xcl_A rfl 0 0 rfl al_get0 tm129 tm130 tm131 tm4 tm132 md_Jx4a65c_size_8abf5 ⟨Nat.le_of_ble_eq_true rfl, Nat.le_of_ble_eq_true rfl⟩ [1] rfl rfl rfl (Nat.le_of_ble_eq_true rfl) (Nat.le_of_ble_eq_true rfl) (Nat.le_of_ble_eq_true rfl) dX3_deliveryAt_9 (fun E hE => False.elim hE) (fun v cs1 hp => ?_)
    obtain ⟨rfl, rfl⟩ := hp
    show G 12 [(0, .ref (ad 0)), (1, .int i)] [.int (nI N), .int i] [xoW ad up op tr, alW D e0 (ad 2) hs N, dvW da N S om] 0 0
    refine x_icmp_lt B (pc := 12) 25 dX3_deliveryAt_12 (by decide) (fun h12 => ?_) (fun h12 => ?_)
    · skip
      exact (xinD_no hi h1 h12).elim
    · skip
      exact x_throw F (pc := 15) (cls := "java/lang/IndexOutOfBoundsException") (text := "there is no such delivery") (by decide +kernel) xat_IOB.1 xat_IOB.2 tm190 tm10 (by decide +kernel) dX3_deliveryAt_15 dX3_deliveryAt_18 dX3_deliveryAt_19 dX3_deliveryAt_21 dX3_deliveryAt_24 (Nat.le_of_ble_eq_true rfl) (Nat.le_of_ble_eq_true rfl) (Nat.le_of_ble_eq_true rfl) (Nat.le_of_ble_eq_true rfl) rfl

set_option maxRecDepth 100000 in
set_option maxHeartbeats 4000000 in
theorem c_X3_requireConnection {l : Launch} (hl : l.stackTraces = false) (D : va_G) (e0 : Nat) {ad : Nat → Nat} {op tr : Int32}  : xC l yX3_requireConnection (.code yX3_requireConnection cX3_requireConnection 1 none) ({ frames := 0, cells := 0, slots := 0, locals := 0 } : Room) D e0 [.ref (ad 0)] [xoW ad 1 op tr] (fun v cs => v = none ∧ cs = [xoW ad 1 op tr]) (fun _ => False) := by
  refine xC_of hl (by decide +kernel) (Nat.le_of_ble_eq_true rfl) (fun G X F => ?_)
  have B : xB l D e0 "CreditLinks" cX3_requireConnection 1 none [] _ G X := F.base
  show G 0 [(0, .ref (ad 0))] [] [xoW ad 1 op tr] 0 0
  refine x_aload_n B (pc := 0) 0 dX3_requireConnection_0 rfl rfl ?_
  refine x_get B (pc := 1) (v := .int 1) xcl_X 0 0 5 rfl rfl (by decide) tm105 rfl rfl dX3_requireConnection_1 ?_
  refine x_if_ne B (pc := 4) 17 dX3_requireConnection_4 (by decide) (fun h4 => ?_) (fun h4 => absurd h4 (by decide))
  exact x_vret F (pc := 17) rfl dX3_requireConnection_17 (⟨rfl, rfl⟩) (Nat.le_of_ble_eq_true rfl) (Nat.le_of_ble_eq_true rfl)

set_option maxRecDepth 100000 in
set_option maxHeartbeats 4000000 in
theorem c_X3_requireConnection_no {l : Launch} (hl : l.stackTraces = false) (D : va_G) (e0 : Nat) {ad : Nat → Nat} {op tr : Int32}  : xC l yX3_requireConnection (.code yX3_requireConnection cX3_requireConnection 1 none) ({ frames := 6, cells := 1, slots := 6, locals := 82 } : Room) D e0 [.ref (ad 0)] [xoW ad 0 op tr] (fun _ _ => False) (fun E => E = xISE) := by
  refine xC_of hl (by decide +kernel) (Nat.le_of_ble_eq_true rfl) (fun G X F => ?_)
  have B : xB l D e0 "CreditLinks" cX3_requireConnection 1 none [] _ G X := F.base
  show G 0 [(0, .ref (ad 0))] [] [xoW ad 0 op tr] 0 0
  refine x_aload_n B (pc := 0) 0 dX3_requireConnection_0 rfl rfl ?_
  refine x_get B (pc := 1) (v := .int 0) xcl_X 0 0 5 rfl rfl (by decide) tm105 rfl rfl dX3_requireConnection_1 ?_
  refine x_if_ne B (pc := 4) 17 dX3_requireConnection_4 (by decide) (fun h4 => absurd rfl h4) (fun h4 => ?_)
  exact x_throw F (pc := 7) (cls := "java/lang/IllegalStateException") (text := "the connection is not up") (by decide +kernel) xat_ISE.1 xat_ISE.2 tm283 tm12 (by decide +kernel) dX3_requireConnection_7 dX3_requireConnection_10 dX3_requireConnection_11 dX3_requireConnection_13 dX3_requireConnection_16 (Nat.le_of_ble_eq_true rfl) (Nat.le_of_ble_eq_true rfl) (Nat.le_of_ble_eq_true rfl) (Nat.le_of_ble_eq_true rfl) rfl

set_option maxRecDepth 100000 in
set_option maxHeartbeats 4000000 in
theorem c_X3_requireTransaction {l : Launch} (hl : l.stackTraces = false) (D : va_G) (e0 : Nat) {ad : Nat → Nat} {up tr : Int32}  : xC l yX3_requireTransaction (.code yX3_requireTransaction cX3_requireTransaction 1 none) ({ frames := 0, cells := 0, slots := 0, locals := 0 } : Room) D e0 [.ref (ad 0)] [xoW ad up 1 tr] (fun v cs => v = none ∧ cs = [xoW ad up 1 tr]) (fun _ => False) := by
  refine xC_of hl (by decide +kernel) (Nat.le_of_ble_eq_true rfl) (fun G X F => ?_)
  have B : xB l D e0 "CreditLinks" cX3_requireTransaction 1 none [] _ G X := F.base
  show G 0 [(0, .ref (ad 0))] [] [xoW ad up 1 tr] 0 0
  refine x_aload_n B (pc := 0) 0 dX3_requireTransaction_0 rfl rfl ?_
  refine x_get B (pc := 1) (v := .int 1) xcl_X 0 0 6 rfl rfl (by decide) tm106 rfl rfl dX3_requireTransaction_1 ?_
  refine x_if_ne B (pc := 4) 17 dX3_requireTransaction_4 (by decide) (fun h4 => ?_) (fun h4 => absurd h4 (by decide))
  exact x_vret F (pc := 17) rfl dX3_requireTransaction_17 (⟨rfl, rfl⟩) (Nat.le_of_ble_eq_true rfl) (Nat.le_of_ble_eq_true rfl)

set_option maxRecDepth 100000 in
set_option maxHeartbeats 4000000 in
theorem c_X3_requireTransaction_no {l : Launch} (hl : l.stackTraces = false) (D : va_G) (e0 : Nat) {ad : Nat → Nat} {up tr : Int32}  : xC l yX3_requireTransaction (.code yX3_requireTransaction cX3_requireTransaction 1 none) ({ frames := 6, cells := 1, slots := 6, locals := 82 } : Room) D e0 [.ref (ad 0)] [xoW ad up 0 tr] (fun _ _ => False) (fun E => E = xISE) := by
  refine xC_of hl (by decide +kernel) (Nat.le_of_ble_eq_true rfl) (fun G X F => ?_)
  have B : xB l D e0 "CreditLinks" cX3_requireTransaction 1 none [] _ G X := F.base
  show G 0 [(0, .ref (ad 0))] [] [xoW ad up 0 tr] 0 0
  refine x_aload_n B (pc := 0) 0 dX3_requireTransaction_0 rfl rfl ?_
  refine x_get B (pc := 1) (v := .int 0) xcl_X 0 0 6 rfl rfl (by decide) tm106 rfl rfl dX3_requireTransaction_1 ?_
  refine x_if_ne B (pc := 4) 17 dX3_requireTransaction_4 (by decide) (fun h4 => absurd rfl h4) (fun h4 => ?_)
  exact x_throw F (pc := 7) (cls := "java/lang/IllegalStateException") (text := "no transaction is open") (by decide +kernel) xat_ISE.1 xat_ISE.2 tm283 tm12 (by decide +kernel) dX3_requireTransaction_7 dX3_requireTransaction_10 dX3_requireTransaction_11 dX3_requireTransaction_13 dX3_requireTransaction_16 (Nat.le_of_ble_eq_true rfl) (Nat.le_of_ble_eq_true rfl) (Nat.le_of_ble_eq_true rfl) (Nat.le_of_ble_eq_true rfl) rfl

set_option maxRecDepth 100000 in
set_option maxHeartbeats 4000000 in
theorem c_X3_requireUndecided {l : Launch} (hl : l.stackTraces = false) (D : va_G) (e0 : Nat) {N : Nat} {da : Nat → Nat} {S : xS} {om : Nat → Int32} {d : Nat} (hd : d < N) (h9 : S 9 d = 2) (h14 : S 14 d = -1) : xC l yX3_requireUndecided (.code yX3_requireUndecided cX3_requireUndecided 1 none) ({ frames := 0, cells := 0, slots := 0, locals := 0 } : Room) D e0 [.ref (da d)] [dvW da N S om] (fun v cs => v = none ∧ cs = [dvW da N S om]) (fun _ => False) := by
  refine xC_of hl (by decide +kernel) (Nat.le_of_ble_eq_true rfl) (fun G X F => ?_)
  have B : xB l D e0 "CreditLinks" cX3_requireUndecided 1 none [] _ G X := F.base
  show G 0 [(0, .ref (da d))] [] [dvW da N S om] 0 0
  refine x_aload_n B (pc := 0) 0 dX3_requireUndecided_0 rfl rfl ?_
  refine x_get B (pc := 1) (v := .int (S 9 d)) xcl_D 0 d 6 rfl (dv_get hd) (by decide) tm339 rfl rfl dX3_requireUndecided_1 ?_
  refine x_iconst B (pc := 4) 2 dX3_requireUndecided_4 (by decide) ?_
  refine x_icmp_eq B (pc := 5) 18 dX3_requireUndecided_5 (by decide) (fun h5 => ?_) (fun h5 => absurd h9 h5)
  refine x_aload_n B (pc := 18) 0 dX3_requireUndecided_18 rfl rfl ?_
  refine x_get B (pc := 19) (v := .int (S 14 d)) xcl_D 0 d 10 rfl (dv_get hd) (by decide) tm344 rfl rfl dX3_requireUndecided_19 ?_
  refine x_iconst B (pc := 22) (-1) dX3_requireUndecided_22 (by decide) ?_
  refine x_icmp_eq B (pc := 23) 36 dX3_requireUndecided_23 (by decide) (fun h23 => ?_) (fun h23 => absurd h14 h23)
  exact x_vret F (pc := 36) rfl dX3_requireUndecided_36 (⟨rfl, rfl⟩) (Nat.le_of_ble_eq_true rfl) (Nat.le_of_ble_eq_true rfl)

set_option maxRecDepth 100000 in
set_option maxHeartbeats 4000000 in
theorem c_requireUndecided_no {l : Launch} (hl : l.stackTraces = false) (D : va_G) (e0 : Nat) {N : Nat} {da : Nat → Nat} {S : xS} {om : Nat → Int32} {d : Nat} (hd : d < N) (hn : ¬ (S 9 d = 2 ∧ S 14 d = -1)) : xC l yX3_requireUndecided (.code yX3_requireUndecided cX3_requireUndecided 1 none) ({ frames := 6, cells := 1, slots := 6, locals := 82 } : Room) D e0 [.ref (da d)] [dvW da N S om] (fun _ _ => False) (fun E => E = xISE) := by
  refine xC_of hl (by decide +kernel) (Nat.le_of_ble_eq_true rfl) (fun G X F => ?_)
  have B : xB l D e0 "CreditLinks" cX3_requireUndecided 1 none [] _ G X := F.base
  show G 0 [(0, .ref (da d))] [] [dvW da N S om] 0 0
  refine x_aload_n B (pc := 0) 0 dX3_requireUndecided_0 rfl rfl ?_
  refine x_get B (pc := 1) (v := .int (S 9 d)) xcl_D 0 d 6 rfl (dv_get hd) (by decide) tm339 rfl rfl dX3_requireUndecided_1 ?_
  refine x_iconst B (pc := 4) 2 dX3_requireUndecided_4 (by decide) ?_
  refine x_icmp_eq B (pc := 5) 18 dX3_requireUndecided_5 (by decide) (fun h5 => ?_) (fun h5 => ?_)
  · skip
    refine x_aload_n B (pc := 18) 0 dX3_requireUndecided_18 rfl rfl ?_
    refine x_get B (pc := 19) (v := .int (S 14 d)) xcl_D 0 d 10 rfl (dv_get hd) (by decide) tm344 rfl rfl dX3_requireUndecided_19 ?_
    refine x_iconst B (pc := 22) (-1) dX3_requireUndecided_22 (by decide) ?_
    refine x_icmp_eq B (pc := 23) 36 dX3_requireUndecided_23 (by decide) (fun h23 => absurd h23 (fun e => hn ⟨h5, e⟩)) (fun h23 => ?_)
    exact x_throw F (pc := 26) (cls := "java/lang/IllegalStateException") (text := "an outcome waits for the delivery") (by decide +kernel) xat_ISE.1 xat_ISE.2 tm283 tm12 (by decide +kernel) dX3_requireUndecided_26 dX3_requireUndecided_29 dX3_requireUndecided_30 dX3_requireUndecided_32 dX3_requireUndecided_35 (Nat.le_of_ble_eq_true rfl) (Nat.le_of_ble_eq_true rfl) (Nat.le_of_ble_eq_true rfl) (Nat.le_of_ble_eq_true rfl) rfl
  · skip
    exact x_throw F (pc := 8) (cls := "java/lang/IllegalStateException") (text := "the delivery is not whole") (by decide +kernel) xat_ISE.1 xat_ISE.2 tm283 tm12 (by decide +kernel) dX3_requireUndecided_8 dX3_requireUndecided_11 dX3_requireUndecided_12 dX3_requireUndecided_14 dX3_requireUndecided_17 (Nat.le_of_ble_eq_true rfl) (Nat.le_of_ble_eq_true rfl) (Nat.le_of_ble_eq_true rfl) (Nat.le_of_ble_eq_true rfl) rfl

set_option maxRecDepth 100000 in
set_option maxHeartbeats 4000000 in
theorem c_X3_requireOutcome {l : Launch} (hl : l.stackTraces = false) (D : va_G) (e0 : Nat) {o : Nat} (ho : o ≤ 2) : xC l yX3_requireOutcome (.code yX3_requireOutcome cX3_requireOutcome 1 none) ({ frames := 0, cells := 0, slots := 0, locals := 0 } : Room) D e0 [.int (nI o)] [] (fun v cs => v = none ∧ cs = []) (fun _ => False) := by
  refine xC_of hl (by decide +kernel) (Nat.le_of_ble_eq_true rfl) (fun G X F => ?_)
  have B : xB l D e0 "CreditLinks" cX3_requireOutcome 1 none [] _ G X := F.base
  show G 0 [(0, .int (nI o))] [] [] 0 0
  refine x_iload_n B (pc := 0) 0 dX3_requireOutcome_0 rfl rfl ?_
  refine x_if_lt B (pc := 1) 9 dX3_requireOutcome_1 (by decide) (fun h1 => absurd h1 (nI_pos (by omega))) (fun h1 => ?_)
  refine x_iload_n B (pc := 4) 0 dX3_requireOutcome_4 rfl rfl ?_
  refine x_iconst B (pc := 5) 2 dX3_requireOutcome_5 (by decide) ?_
  refine x_icmp_le B (pc := 6) 19 dX3_requireOutcome_6 (by decide) (fun h6 => ?_) (fun h6 => absurd (nI_le (b := 2) ho (by decide)) h6)
  exact x_vret F (pc := 19) rfl dX3_requireOutcome_19 (⟨rfl, rfl⟩) (Nat.le_of_ble_eq_true rfl) (Nat.le_of_ble_eq_true rfl)

set_option maxRecDepth 100000 in
set_option maxHeartbeats 4000000 in
theorem c_requireOutcome_no {l : Launch} (hl : l.stackTraces = false) (D : va_G) (e0 : Nat) {o : Int32} (ho : xinB 0 2 o = false) : xC l yX3_requireOutcome (.code yX3_requireOutcome cX3_requireOutcome 1 none) ({ frames := 6, cells := 1, slots := 6, locals := 82 } : Room) D e0 [.int o] [] (fun _ _ => False) (fun E => E = xIAE) := by
  refine xC_of hl (by decide +kernel) (Nat.le_of_ble_eq_true rfl) (fun G X F => ?_)
  have B : xB l D e0 "CreditLinks" cX3_requireOutcome 1 none [] _ G X := F.base
  show G 0 [(0, .int o)] [] [] 0 0
  refine x_iload_n B (pc := 0) 0 dX3_requireOutcome_0 rfl rfl ?_
  refine x_if_lt B (pc := 1) 9 dX3_requireOutcome_1 (by decide) (fun h1 => ?_) (fun h1 => ?_)
  · skip
    exact x_throw F (pc := 9) (cls := "java/lang/IllegalArgumentException") (text := "there is no such outcome") (by decide +kernel) xat_IAE.1 xat_IAE.2 tm258 tm11 (by decide +kernel) dX3_requireOutcome_9 dX3_requireOutcome_12 dX3_requireOutcome_13 dX3_requireOutcome_15 dX3_requireOutcome_18 (Nat.le_of_ble_eq_true rfl) (Nat.le_of_ble_eq_true rfl) (Nat.le_of_ble_eq_true rfl) (Nat.le_of_ble_eq_true rfl) rfl
  · skip
    refine x_iload_n B (pc := 4) 0 dX3_requireOutcome_4 rfl rfl ?_
    refine x_iconst B (pc := 5) 2 dX3_requireOutcome_5 (by decide) ?_
    refine x_icmp_le B (pc := 6) 19 dX3_requireOutcome_6 (by decide) (fun h6 => ?_) (fun h6 => ?_)
    · skip
      exact (xinB_no_a ho h1 h6).elim
    · skip
      exact x_throw F (pc := 9) (cls := "java/lang/IllegalArgumentException") (text := "there is no such outcome") (by decide +kernel) xat_IAE.1 xat_IAE.2 tm258 tm11 (by decide +kernel) dX3_requireOutcome_9 dX3_requireOutcome_12 dX3_requireOutcome_13 dX3_requireOutcome_15 dX3_requireOutcome_18 (Nat.le_of_ble_eq_true rfl) (Nat.le_of_ble_eq_true rfl) (Nat.le_of_ble_eq_true rfl) (Nat.le_of_ble_eq_true rfl) rfl

set_option maxRecDepth 100000 in
set_option maxHeartbeats 4000000 in
theorem c_X3_requireCount {l : Launch} (hl : l.stackTraces = false) (D : va_G) (e0 : Nat) {o : Nat} (h1 : 1 ≤ o) (ho : o ≤ 100) : xC l yX3_requireCount (.code yX3_requireCount cX3_requireCount 1 none) ({ frames := 0, cells := 0, slots := 0, locals := 0 } : Room) D e0 [.int (nI o)] [] (fun v cs => v = none ∧ cs = []) (fun _ => False) := by
  refine xC_of hl (by decide +kernel) (Nat.le_of_ble_eq_true rfl) (fun G X F => ?_)
  have B : xB l D e0 "CreditLinks" cX3_requireCount 1 none [] _ G X := F.base
  show G 0 [(0, .int (nI o))] [] [] 0 0
  refine x_iload_n B (pc := 0) 0 dX3_requireCount_0 rfl rfl ?_
  refine x_iconst B (pc := 1) 1 dX3_requireCount_1 (by decide) ?_
  refine x_icmp_lt B (pc := 2) 11 dX3_requireCount_2 (by decide) (fun h2 => absurd h2 (nI_nlt (b := 1) h1 (by omega))) (fun h2 => ?_)
  refine x_iload_n B (pc := 5) 0 dX3_requireCount_5 rfl rfl ?_
  refine x_bipush B (pc := 6) 100 dX3_requireCount_6 (by decide) ?_
  refine x_icmp_le B (pc := 8) 21 dX3_requireCount_8 (by decide) (fun h8 => ?_) (fun h8 => absurd (nI_le (b := 100) ho (by decide)) h8)
  exact x_vret F (pc := 21) rfl dX3_requireCount_21 (⟨rfl, rfl⟩) (Nat.le_of_ble_eq_true rfl) (Nat.le_of_ble_eq_true rfl)

set_option maxRecDepth 100000 in
set_option maxHeartbeats 4000000 in
theorem c_requireCount_no {l : Launch} (hl : l.stackTraces = false) (D : va_G) (e0 : Nat) {o : Int32} (ho : xinB 1 100 o = false) : xC l yX3_requireCount (.code yX3_requireCount cX3_requireCount 1 none) ({ frames := 6, cells := 1, slots := 6, locals := 82 } : Room) D e0 [.int o] [] (fun _ _ => False) (fun E => E = xIAE) := by
  refine xC_of hl (by decide +kernel) (Nat.le_of_ble_eq_true rfl) (fun G X F => ?_)
  have B : xB l D e0 "CreditLinks" cX3_requireCount 1 none [] _ G X := F.base
  show G 0 [(0, .int o)] [] [] 0 0
  refine x_iload_n B (pc := 0) 0 dX3_requireCount_0 rfl rfl ?_
  refine x_iconst B (pc := 1) 1 dX3_requireCount_1 (by decide) ?_
  refine x_icmp_lt B (pc := 2) 11 dX3_requireCount_2 (by decide) (fun h2 => ?_) (fun h2 => ?_)
  · skip
    exact x_throw F (pc := 11) (cls := "java/lang/IllegalArgumentException") (text := "count is out of range") (by decide +kernel) xat_IAE.1 xat_IAE.2 tm258 tm11 (by decide +kernel) dX3_requireCount_11 dX3_requireCount_14 dX3_requireCount_15 dX3_requireCount_17 dX3_requireCount_20 (Nat.le_of_ble_eq_true rfl) (Nat.le_of_ble_eq_true rfl) (Nat.le_of_ble_eq_true rfl) (Nat.le_of_ble_eq_true rfl) rfl
  · skip
    refine x_iload_n B (pc := 5) 0 dX3_requireCount_5 rfl rfl ?_
    refine x_bipush B (pc := 6) 100 dX3_requireCount_6 (by decide) ?_
    refine x_icmp_le B (pc := 8) 21 dX3_requireCount_8 (by decide) (fun h8 => ?_) (fun h8 => ?_)
    · skip
      exact (xinB_no_a ho h2 h8).elim
    · skip
      exact x_throw F (pc := 11) (cls := "java/lang/IllegalArgumentException") (text := "count is out of range") (by decide +kernel) xat_IAE.1 xat_IAE.2 tm258 tm11 (by decide +kernel) dX3_requireCount_11 dX3_requireCount_14 dX3_requireCount_15 dX3_requireCount_17 dX3_requireCount_20 (Nat.le_of_ble_eq_true rfl) (Nat.le_of_ble_eq_true rfl) (Nat.le_of_ble_eq_true rfl) (Nat.le_of_ble_eq_true rfl) rfl

set_option maxRecDepth 100000 in
set_option maxHeartbeats 4000000 in
theorem c_X3_addParts {l : Launch} (hl : l.stackTraces = false) (D : va_G) (e0 : Nat) {ad : Nat → Nat} {up op tr : Int32} {N : Nat} {gf : xRg} {qf : List xFr} {da : Nat → Nat} {S : xS} {om : Nat → Int32} {kd d m : Nat} (hd : d < N) (hm : S 6 d = nI m) (hm4 : m ≤ 4) (hq : rwOk qf gf) (hql : qf.length + m ≤ 512) : xC l yX3_addParts (.code yX3_addParts cX3_addParts 4 none) ({ frames := 1, cells := 0, slots := 0, locals := 24 } : Room) D e0 [.ref (ad 0), .ref (da d), .int (nI kd)] [xoW ad up op tr, rwW D (ad 3) (ad 10) (ad 11) (ad 12) gf qf.length, dvW da N S om] (fun v cs => v = none ∧ ∃ g1, rwOk (qf ++ pts kd d m) g1 ∧ cs = [xoW ad up op tr, rwW D (ad 3) (ad 10) (ad 11) (ad 12) g1 ((qf ++ pts kd d m).length), dvW da N S om]) (fun _ => False) := by
  refine xC_of hl (by decide +kernel) (Nat.le_of_ble_eq_true rfl) (fun G X F => ?_)
  have B : xB l D e0 "CreditLinks" cX3_addParts 4 none [] _ G X := F.base
  show G 0 [(0, .ref (ad 0)), (1, .ref (da d)), (2, .int (nI kd))] [] [xoW ad up op tr, rwW D (ad 3) (ad 10) (ad 11) (ad 12) gf qf.length, dvW da N S om] 0 0
  refine x_iconst B (pc := 0) 0 dX3_addParts_0 (by decide) ?_
  refine x_val B (y := nI 0) rfl ?_
  refine x_istore_n B (pc := 1) [(3, .int (nI 0)), (0, .ref (ad 0)), (1, .ref (da d)), (2, .int (nI kd))] dX3_addParts_1 rfl (by decide) rfl ?_
  have hloop2 : ∀ (fu : Nat) (i : Nat) (g1 : xRg), i ≤ m → m + 1 ≤ i + fu → rwOk (qf ++ pts kd d i) g1 → G 2 [(3, .int (nI i)), (2, .int (nI kd)), (1, .ref (da d)), (0, .ref (ad 0))] [] [xoW ad up op tr, rwW D (ad 3) (ad 10) (ad 11) (ad 12) g1 ((qf ++ pts kd d i).length), dvW da N S om] 0 0 := by
    intro fu
    induction fu with
    | zero =>
      intro i g1 hi hfu hg
      omega
    | succ fu ih =>
      intro i g1 hi hfu hg
      refine x_iload_n B (pc := 2) 0 dX3_addParts_2 rfl rfl ?_
      refine x_aload_n B (pc := 3) 2 dX3_addParts_3 rfl rfl ?_
      refine x_get B (pc := 4) (v := .int (S 6 d)) xcl_D 2 d 3 rfl (dv_get hd) (by decide) tm333 rfl rfl dX3_addParts_4 ?_
      refine x_val B (y := nI m) hm ?_
      refine x_icmp_ge B (pc := 7) 29 dX3_addParts_7 (by decide) (fun h7 => ?_) (fun h7 => ?_)
      · skip
        have hge : i = m := by
          have := (nI_leI (by omega) (by omega)).mp h7
          omega
        subst hge
        exact x_vret F (pc := 29) rfl dX3_addParts_29 (⟨rfl, g1, hg, rfl⟩) (Nat.le_of_ble_eq_true rfl) (Nat.le_of_ble_eq_true rfl)
      · skip
        have hlt : i < m := Nat.lt_of_not_le (fun e => h7 (nI_le e (by omega)))
        have hlen : (qf ++ pts kd d i).length < 512 := by rw [List.length_append, pts_len]; omega
        refine x_aload_n B (pc := 10) 3 dX3_addParts_10 rfl rfl ?_
        refine x_get B (pc := 11) xcl_X 0 0 2 rfl rfl (by decide) tm102 rfl rfl dX3_addParts_11 ?_
        refine x_iload_n B (pc := 14) 1 dX3_addParts_14 rfl rfl ?_
        refine x_aload_n B (pc := 15) 2 dX3_addParts_15 rfl rfl ?_
        refine x_get B (pc := 16) (v := .int (nI d)) xcl_D 2 d 0 rfl (dv_get hd) (by decide) tm327 rfl rfl dX3_addParts_16 ?_
        refine x_iload_n B (pc := 19) 0 dX3_addParts_19 rfl rfl ?_
        refine x_callV B (pc := 20) (As := [.int (nI kd), .int (nI d), .int (nI i)]) (c_X2_add hl D e0 hg hlen) xcl_R rfl 0 0 rfl rfl tm305 tm306 tm307 tm5 tm308 md_X2_add ⟨Nat.le_of_ble_eq_true rfl, Nat.le_of_ble_eq_true rfl⟩ [1] rfl rfl rfl (Nat.le_of_ble_eq_true rfl) (Nat.le_of_ble_eq_true rfl) (Nat.le_of_ble_eq_true rfl) dX3_addParts_20 (fun E hE => False.elim hE) (fun v cs1 hp => ?_)
        obtain ⟨rfl, g2, hg2, rfl⟩ := hp
        show G 23 [(3, .int (nI i)), (2, .int (nI kd)), (1, .ref (da d)), (0, .ref (ad 0))] [] [xoW ad up op tr, rwW D (ad 3) (ad 10) (ad 11) (ad 12) g2 (((qf ++ pts kd d i) ++ [(kd, d, i)]).length), dvW da N S om] 0 0
        refine x_iinc B (pc := 23) 0 (nI (i + 1)) [(3, .int (nI (i + 1))), (2, .int (nI kd)), (1, .ref (da d)), (0, .ref (ad 0))] dX3_addParts_23 rfl (nI_1 i) (by decide) rfl ?_
        refine x_goto B (pc := 26) 2 dX3_addParts_26 (by decide) ?_
        refine x_lv B [0, 1, 2, 3] [(3, .int (nI (i + 1))), (2, .int (nI kd)), (1, .ref (da d)), (0, .ref (ad 0))] rfl ?_
        have e9 := pts_s kd d i qf
        rw [← e9] at hg2 ⊢
        exact ih (i + 1) g2 (by omega) (by omega) hg2
  refine x_lv B [0, 3, 2, 1] [(3, .int (nI 0)), (2, .int (nI kd)), (1, .ref (da d)), (0, .ref (ad 0))] rfl ?_
  have e0 := pts_0 kd d qf
  have hl0 := hloop2 (m + 1) 0 gf (Nat.zero_le _) (by omega) (by rw [e0]; exact hq)
  rw [e0] at hl0
  exact hl0

set_option maxRecDepth 100000 in
set_option maxHeartbeats 4000000 in
theorem c_X3_carryOut {l : Launch} (hl : l.stackTraces = false) (D : va_G) (e0 : Nat) {ad : Nat → Nat} {up op tr : Int32} {N : Nat} {gb : xRg} {qb : List xFr} {da : Nat → Nat} {S : xS} {om : Nat → Int32} {d oo : Nat} (hd : d < N) (hq : rwOk qb gb) (hql : qb.length < 512) : xC l yX3_carryOut (.code yX3_carryOut cX3_carryOut 3 none) ({ frames := 1, cells := 0, slots := 0, locals := 24 } : Room) D e0 [.ref (ad 0), .ref (da d), .int (nI oo)] [xoW ad up op tr, rwW D (ad 4) (ad 13) (ad 14) (ad 15) gb qb.length, dvW da N S om] (fun v cs => v = none ∧ ∃ g1, rwOk (aOut S d oo qb) g1 ∧ cs = [xoW ad up op tr, rwW D (ad 4) (ad 13) (ad 14) (ad 15) g1 ((aOut S d oo qb).length), dvW da N (aDec S d (nI oo)) (upd om d (nI oo))]) (fun _ => False) := by
  refine xC_of hl (by decide +kernel) (Nat.le_of_ble_eq_true rfl) (fun G X F => ?_)
  have B : xB l D e0 "CreditLinks" cX3_carryOut 3 none [] _ G X := F.base
  show G 0 [(0, .ref (ad 0)), (1, .ref (da d)), (2, .int (nI oo))] [] [xoW ad up op tr, rwW D (ad 4) (ad 13) (ad 14) (ad 15) gb qb.length, dvW da N S om] 0 0
  refine x_aload_n B (pc := 0) 1 dX3_carryOut_0 rfl rfl ?_
  refine x_iload_n B (pc := 1) 2 dX3_carryOut_1 rfl rfl ?_
  refine x_callV B (pc := 2) (As := [.int (nI oo)]) (c_X0_takeDecision hl D e0 hd) xcl_D rfl 0 d rfl (dv_get hd) tm457 tm458 tm459 tm14 tm460 md_X0_takeDecision ⟨Nat.le_of_ble_eq_true rfl, Nat.le_of_ble_eq_true rfl⟩ [2] rfl rfl rfl (Nat.le_of_ble_eq_true rfl) (Nat.le_of_ble_eq_true rfl) (Nat.le_of_ble_eq_true rfl) dX3_carryOut_2 (fun E hE => False.elim hE) (fun v cs1 hp => ?_)
  obtain ⟨rfl, rfl⟩ := hp
  show G 5 [(0, .ref (ad 0)), (1, .ref (da d)), (2, .int (nI oo))] [] [xoW ad up op tr, rwW D (ad 4) (ad 13) (ad 14) (ad 15) gb qb.length, dvW da N (aDec S d (nI oo)) (upd om d (nI oo))] 0 0
  refine x_aload_n B (pc := 5) 1 dX3_carryOut_5 rfl rfl ?_
  refine x_get B (pc := 6) (v := .int (S 5 d)) xcl_D 2 d 2 rfl (dv_get hd) (by decide) tm331 rfl (congrArg (fun z => some (Value.int z)) (congrFun (aDec_k S d (nI oo) (by decide)) d)) dX3_carryOut_6 ?_
  refine x_if_eq B (pc := 9) 25 dX3_carryOut_9 (by decide) (fun h9 => ?_) (fun h9 => ?_)
  · skip
    exact x_vret F (pc := 25) rfl dX3_carryOut_25 (⟨rfl, gb, by unfold aOut; rw [if_pos h9]; exact hq, by unfold aOut; rw [if_pos h9]⟩) (Nat.le_of_ble_eq_true rfl) (Nat.le_of_ble_eq_true rfl)
  · skip
    refine x_aload_n B (pc := 12) 0 dX3_carryOut_12 rfl rfl ?_
    refine x_get B (pc := 13) xcl_X 0 0 3 rfl rfl (by decide) tm103 rfl rfl dX3_carryOut_13 ?_
    refine x_iconst B (pc := 16) 4 dX3_carryOut_16 (by decide) ?_
    refine x_val B (y := nI 4) rfl ?_
    refine x_aload_n B (pc := 17) 1 dX3_carryOut_17 rfl rfl ?_
    refine x_get B (pc := 18) (v := .int (nI d)) xcl_D 2 d 0 rfl (dv_get hd) (by decide) tm327 rfl rfl dX3_carryOut_18 ?_
    refine x_iload_n B (pc := 21) 2 dX3_carryOut_21 rfl rfl ?_
    refine x_callV B (pc := 22) (As := [.int (nI 4), .int (nI d), .int (nI oo)]) (c_X2_add hl D e0 hq hql) xcl_R rfl 0 0 rfl rfl tm305 tm306 tm307 tm5 tm308 md_X2_add ⟨Nat.le_of_ble_eq_true rfl, Nat.le_of_ble_eq_true rfl⟩ [1] rfl rfl rfl (Nat.le_of_ble_eq_true rfl) (Nat.le_of_ble_eq_true rfl) (Nat.le_of_ble_eq_true rfl) dX3_carryOut_22 (fun E hE => False.elim hE) (fun v cs1 hp => ?_)
    obtain ⟨rfl, g1, hg1, rfl⟩ := hp
    show G 25 [(0, .ref (ad 0)), (1, .ref (da d)), (2, .int (nI oo))] [] [xoW ad up op tr, rwW D (ad 4) (ad 13) (ad 14) (ad 15) g1 ((qb ++ [(4, d, oo)]).length), dvW da N (aDec S d (nI oo)) (upd om d (nI oo))] 0 0
    exact x_vret F (pc := 25) rfl dX3_carryOut_25 (⟨rfl, g1, by unfold aOut; rw [if_neg h9]; exact hg1, by unfold aOut; rw [if_neg h9]⟩) (Nat.le_of_ble_eq_true rfl) (Nat.le_of_ble_eq_true rfl)

set_option maxRecDepth 100000 in
set_option maxHeartbeats 4000000 in
theorem c_X3_receiverTakesFrame {l : Launch} (hl : l.stackTraces = false) (D : va_G) (e0 : Nat) {ad : Nat → Nat} {up op tr : Int32} {L : xS} {hs : xAg} {N : Nat} {gf : xRg} {qf : List xFr} {da : Nat → Nat} {S : xS} {om : Nat → Int32} {kd d p : Nat} (hok : alOk hs N da) (hN : N ≤ 60) (hd : d < N) (hkd : kd ≤ 2) (hp4 : p < 4) (hl4 : ∃ j, j < 4 ∧ S 4 d = nI j) (hq : rwOk ((kd, d, p) :: qf) gf) : xC l yX3_receiverTakesFrame (.code yX3_receiverTakesFrame cX3_receiverTakesFrame 4 (some .boolean)) ({ frames := 4, cells := 0, slots := 0, locals := 85 } : Room) D e0 [.ref (ad 0)] [xoW ad up op tr, lkW D ad L, alW D e0 (ad 2) hs N, rwW D (ad 3) (ad 10) (ad 11) (ad 12) gf (((kd, d, p) :: qf).length), dvW da N S om] (fun v cs => v = some (.int (rcvR S (kd, d, p))) ∧ ∃ g1, rwOk qf g1 ∧ cs = [xoW ad up op tr, lkW D ad (rcvL L S (kd, d, p)), alW D e0 (ad 2) hs N, rwW D (ad 3) (ad 10) (ad 11) (ad 12) g1 qf.length, dvW da N (rcvS S (kd, d, p)) om]) (fun _ => False) := by
  refine xC_of hl (by decide +kernel) (Nat.le_of_ble_eq_true rfl) (fun G X F => ?_)
  have B : xB l D e0 "CreditLinks" cX3_receiverTakesFrame 4 (some .boolean) [] _ G X := F.base
  show G 0 [(0, .ref (ad 0))] [] [xoW ad up op tr, lkW D ad L, alW D e0 (ad 2) hs N, rwW D (ad 3) (ad 10) (ad 11) (ad 12) gf (((kd, d, p) :: qf).length), dvW da N S om] 0 0
  obtain ⟨j, hj, ej⟩ := hl4
  have elk : lkOf S d = j := by unfold lkOf; rw [ej]; exact nI_clamp (by omega)
  refine x_aload_n B (pc := 0) 0 dX3_receiverTakesFrame_0 rfl rfl ?_
  refine x_get B (pc := 1) xcl_X 0 0 2 rfl rfl (by decide) tm102 rfl rfl dX3_receiverTakesFrame_1 ?_
  refine x_callV B (pc := 4) (As := []) (c_X2_firstKind hl D e0 hq) xcl_R rfl 0 0 rfl rfl tm485 tm486 tm487 tm5 tm488 md_X2_firstKind ⟨Nat.le_of_ble_eq_true rfl, Nat.le_of_ble_eq_true rfl⟩ [3] rfl rfl rfl (Nat.le_of_ble_eq_true rfl) (Nat.le_of_ble_eq_true rfl) (Nat.le_of_ble_eq_true rfl) dX3_receiverTakesFrame_4 (fun E hE => False.elim hE) (fun v cs1 hp => ?_)
  obtain ⟨rfl, rfl⟩ := hp
  show G 7 [(0, .ref (ad 0))] [.int (nI kd)] [xoW ad up op tr, lkW D ad L, alW D e0 (ad 2) hs N, rwW D (ad 3) (ad 10) (ad 11) (ad 12) gf (((kd, d, p) :: qf).length), dvW da N S om] 0 0
  refine x_istore_n B (pc := 7) [(1, .int (nI kd)), (0, .ref (ad 0))] dX3_receiverTakesFrame_7 rfl (by decide) rfl ?_
  refine x_aload_n B (pc := 8) 1 dX3_receiverTakesFrame_8 rfl rfl ?_
  refine x_aload_n B (pc := 9) 1 dX3_receiverTakesFrame_9 rfl rfl ?_
  refine x_get B (pc := 10) xcl_X 0 0 2 rfl rfl (by decide) tm102 rfl rfl dX3_receiverTakesFrame_10 ?_
  refine x_callV B (pc := 13) (As := []) (c_X2_firstSubject hl D e0 hq) xcl_R rfl 0 0 rfl rfl tm489 tm490 tm491 tm5 tm492 md_X2_firstSubject ⟨Nat.le_of_ble_eq_true rfl, Nat.le_of_ble_eq_true rfl⟩ [3] rfl rfl rfl (Nat.le_of_ble_eq_true rfl) (Nat.le_of_ble_eq_true rfl) (Nat.le_of_ble_eq_true rfl) dX3_receiverTakesFrame_13 (fun E hE => False.elim hE) (fun v cs1 hp => ?_)
  obtain ⟨rfl, rfl⟩ := hp
  show G 16 [(1, .int (nI kd)), (0, .ref (ad 0))] [.int (nI d), .ref (ad 0)] [xoW ad up op tr, lkW D ad L, alW D e0 (ad 2) hs N, rwW D (ad 3) (ad 10) (ad 11) (ad 12) gf (((kd, d, p) :: qf).length), dvW da N S om] 0 0
  refine x_callV B (pc := 16) (As := [.int (nI d)]) (c_X3_deliveryAt hl D e0 hok hN hd) xcl_X rfl 0 0 rfl rfl tm439 tm441 ts7 tm1 tm442 md_X3_deliveryAt ⟨Nat.le_of_ble_eq_true rfl, Nat.le_of_ble_eq_true rfl⟩ [0, 2, 4] rfl rfl rfl (Nat.le_of_ble_eq_true rfl) (Nat.le_of_ble_eq_true rfl) (Nat.le_of_ble_eq_true rfl) dX3_receiverTakesFrame_16 (fun E hE => False.elim hE) (fun v cs1 hp => ?_)
  obtain ⟨rfl, rfl⟩ := hp
  show G 19 [(1, .int (nI kd)), (0, .ref (ad 0))] [.ref (da d)] [xoW ad up op tr, lkW D ad L, alW D e0 (ad 2) hs N, rwW D (ad 3) (ad 10) (ad 11) (ad 12) gf (((kd, d, p) :: qf).length), dvW da N S om] 0 0
  refine x_astore_n B (pc := 19) [(2, .ref (da d)), (1, .int (nI kd)), (0, .ref (ad 0))] dX3_receiverTakesFrame_19 rfl (by decide) rfl ?_
  refine x_aload_n B (pc := 20) 2 dX3_receiverTakesFrame_20 rfl rfl ?_
  refine x_get B (pc := 21) xcl_X 0 0 2 rfl rfl (by decide) tm102 rfl rfl dX3_receiverTakesFrame_21 ?_
  refine x_callV B (pc := 24) (As := []) (c_X2_firstValue hl D e0 hq) xcl_R rfl 0 0 rfl rfl tm493 tm494 tm495 tm5 tm496 md_X2_firstValue ⟨Nat.le_of_ble_eq_true rfl, Nat.le_of_ble_eq_true rfl⟩ [3] rfl rfl rfl (Nat.le_of_ble_eq_true rfl) (Nat.le_of_ble_eq_true rfl) (Nat.le_of_ble_eq_true rfl) dX3_receiverTakesFrame_24 (fun E hE => False.elim hE) (fun v cs1 hp => ?_)
  obtain ⟨rfl, rfl⟩ := hp
  show G 27 [(2, .ref (da d)), (1, .int (nI kd)), (0, .ref (ad 0))] [.int (nI p)] [xoW ad up op tr, lkW D ad L, alW D e0 (ad 2) hs N, rwW D (ad 3) (ad 10) (ad 11) (ad 12) gf (((kd, d, p) :: qf).length), dvW da N S om] 0 0
  refine x_istore_n B (pc := 27) [(3, .int (nI p)), (2, .ref (da d)), (1, .int (nI kd)), (0, .ref (ad 0))] dX3_receiverTakesFrame_27 rfl (by decide) rfl ?_
  refine x_aload_n B (pc := 28) 3 dX3_receiverTakesFrame_28 rfl rfl ?_
  refine x_get B (pc := 29) xcl_X 0 0 2 rfl rfl (by decide) tm102 rfl rfl dX3_receiverTakesFrame_29 ?_
  refine x_callV B (pc := 32) (As := []) (c_X2_dropFirst hl D e0 hq) xcl_R rfl 0 0 rfl rfl tm497 tm498 tm499 tm5 tm500 md_X2_dropFirst ⟨Nat.le_of_ble_eq_true rfl, Nat.le_of_ble_eq_true rfl⟩ [3] rfl rfl rfl (Nat.le_of_ble_eq_true rfl) (Nat.le_of_ble_eq_true rfl) (Nat.le_of_ble_eq_true rfl) dX3_receiverTakesFrame_32 (fun E hE => False.elim hE) (fun v cs1 hp => ?_)
  obtain ⟨rfl, g1, hg1, rfl⟩ := hp
  show G 35 [(3, .int (nI p)), (2, .ref (da d)), (1, .int (nI kd)), (0, .ref (ad 0))] [] [xoW ad up op tr, lkW D ad L, alW D e0 (ad 2) hs N, rwW D (ad 3) (ad 10) (ad 11) (ad 12) g1 qf.length, dvW da N S om] 0 0
  refine x_iload_n B (pc := 35) 2 dX3_receiverTakesFrame_35 rfl rfl ?_
  refine x_iconst B (pc := 36) 2 dX3_receiverTakesFrame_36 (by decide) ?_
  refine x_icmp_ne B (pc := 37) 46 dX3_receiverTakesFrame_37 (by decide) (fun h37 => ?_) (fun h37 => ?_)
  · skip
    have hk2 : kd ≠ 2 := fun e => h37 (congrArg nI e)
    refine x_iload_n B (pc := 46) 2 dX3_receiverTakesFrame_46 rfl rfl ?_
    refine x_if_ne B (pc := 47) 65 dX3_receiverTakesFrame_47 (by decide) (fun h47 => ?_) (fun h47 => ?_)
    · skip
      refine x_aload_n B (pc := 65) 1 dX3_receiverTakesFrame_65 rfl rfl ?_
      refine x_iload_n B (pc := 66) 0 dX3_receiverTakesFrame_66 rfl rfl ?_
      refine x_callV B (pc := 67) (As := [.int (nI p)]) (c_X0_takePart hl D e0 hd hp4) xcl_D rfl 0 d rfl (dv_get hd) tm509 tm510 tm511 tm14 tm512 md_X0_takePart ⟨Nat.le_of_ble_eq_true rfl, Nat.le_of_ble_eq_true rfl⟩ [4] rfl rfl rfl (Nat.le_of_ble_eq_true rfl) (Nat.le_of_ble_eq_true rfl) (Nat.le_of_ble_eq_true rfl) dX3_receiverTakesFrame_67 (fun E hE => False.elim hE) (fun v cs1 hp => ?_)
      obtain ⟨rfl, rfl⟩ := hp
      show G 70 [(3, .int (nI p)), (2, .ref (da d)), (1, .int (nI kd)), (0, .ref (ad 0))] [.int (aComeR S d p)] [xoW ad up op tr, lkW D ad L, alW D e0 (ad 2) hs N, rwW D (ad 3) (ad 10) (ad 11) (ad 12) g1 qf.length, dvW da N (aComeS S d p) om] 0 0
      exact x_zret F (pc := 70) rfl (by unfold aComeR; split <;> (try split) <;> rfl) dX3_receiverTakesFrame_70 (⟨by unfold rcvR; rw [if_neg hk2], g1, hg1, by unfold rcvL rcvS; rw [if_neg hk2, if_neg (fun e => by first | exact h47 (congrArg nI e.1) | exact h51 (congrArg nI e.2))]⟩) (Nat.le_of_ble_eq_true rfl) (Nat.le_of_ble_eq_true rfl)
    · skip
      refine x_iload_n B (pc := 50) 0 dX3_receiverTakesFrame_50 rfl rfl ?_
      refine x_if_ne B (pc := 51) 65 dX3_receiverTakesFrame_51 (by decide) (fun h51 => ?_) (fun h51 => ?_)
      · skip
        refine x_aload_n B (pc := 65) 1 dX3_receiverTakesFrame_65 rfl rfl ?_
        refine x_iload_n B (pc := 66) 0 dX3_receiverTakesFrame_66 rfl rfl ?_
        refine x_callV B (pc := 67) (As := [.int (nI p)]) (c_X0_takePart hl D e0 hd hp4) xcl_D rfl 0 d rfl (dv_get hd) tm509 tm510 tm511 tm14 tm512 md_X0_takePart ⟨Nat.le_of_ble_eq_true rfl, Nat.le_of_ble_eq_true rfl⟩ [4] rfl rfl rfl (Nat.le_of_ble_eq_true rfl) (Nat.le_of_ble_eq_true rfl) (Nat.le_of_ble_eq_true rfl) dX3_receiverTakesFrame_67 (fun E hE => False.elim hE) (fun v cs1 hp => ?_)
        obtain ⟨rfl, rfl⟩ := hp
        show G 70 [(3, .int (nI p)), (2, .ref (da d)), (1, .int (nI kd)), (0, .ref (ad 0))] [.int (aComeR S d p)] [xoW ad up op tr, lkW D ad L, alW D e0 (ad 2) hs N, rwW D (ad 3) (ad 10) (ad 11) (ad 12) g1 qf.length, dvW da N (aComeS S d p) om] 0 0
        exact x_zret F (pc := 70) rfl (by unfold aComeR; split <;> (try split) <;> rfl) dX3_receiverTakesFrame_70 (⟨by unfold rcvR; rw [if_neg hk2], g1, hg1, by unfold rcvL rcvS; rw [if_neg hk2, if_neg (fun e => by first | exact h47 (congrArg nI e.1) | exact h51 (congrArg nI e.2))]⟩) (Nat.le_of_ble_eq_true rfl) (Nat.le_of_ble_eq_true rfl)
      · skip
        refine x_aload_n B (pc := 54) 3 dX3_receiverTakesFrame_54 rfl rfl ?_
        refine x_aload_n B (pc := 55) 1 dX3_receiverTakesFrame_55 rfl rfl ?_
        refine x_get B (pc := 56) (v := .int (S 4 d)) xcl_D 4 d 1 rfl (dv_get hd) (by decide) tm329 rfl rfl dX3_receiverTakesFrame_56 ?_
        refine x_val B (y := nI j) ej ?_
        refine x_callV B (pc := 59) (As := [.int (nI j)]) (c_X3_linkAt hl D e0 hj) xcl_X rfl 0 0 rfl rfl tm186 tm188 ts0 tm1 tm189 md_X3_linkAt ⟨Nat.le_of_ble_eq_true rfl, Nat.le_of_ble_eq_true rfl⟩ [0, 1] rfl rfl rfl (Nat.le_of_ble_eq_true rfl) (Nat.le_of_ble_eq_true rfl) (Nat.le_of_ble_eq_true rfl) dX3_receiverTakesFrame_59 (fun E hE => False.elim hE) (fun v cs1 hp => ?_)
        obtain ⟨rfl, rfl⟩ := hp
        show G 62 [(3, .int (nI p)), (2, .ref (da d)), (1, .int (nI kd)), (0, .ref (ad 0))] [.ref (ad (6 + j))] [xoW ad up op tr, lkW D ad L, alW D e0 (ad 2) hs N, rwW D (ad 3) (ad 10) (ad 11) (ad 12) g1 qf.length, dvW da N S om] 0 0
        refine x_callV B (pc := 62) (As := []) (c_X1_countCome hl D e0 hj) xcl_L rfl 0 (j + 1) rfl (lk_get hj) tm505 tm506 tm507 tm6 tm508 md_X1_countCome ⟨Nat.le_of_ble_eq_true rfl, Nat.le_of_ble_eq_true rfl⟩ [1] rfl rfl rfl (Nat.le_of_ble_eq_true rfl) (Nat.le_of_ble_eq_true rfl) (Nat.le_of_ble_eq_true rfl) dX3_receiverTakesFrame_62 (fun E hE => False.elim hE) (fun v cs1 hp => ?_)
        obtain ⟨rfl, rfl⟩ := hp
        show G 65 [(3, .int (nI p)), (2, .ref (da d)), (1, .int (nI kd)), (0, .ref (ad 0))] [] [xoW ad up op tr, lkW D ad (xup L 3 j ((L 3 j + 1) &&& 15)), alW D e0 (ad 2) hs N, rwW D (ad 3) (ad 10) (ad 11) (ad 12) g1 qf.length, dvW da N S om] 0 0
        refine x_aload_n B (pc := 65) 1 dX3_receiverTakesFrame_65 rfl rfl ?_
        refine x_iload_n B (pc := 66) 0 dX3_receiverTakesFrame_66 rfl rfl ?_
        refine x_callV B (pc := 67) (As := [.int (nI p)]) (c_X0_takePart hl D e0 hd hp4) xcl_D rfl 0 d rfl (dv_get hd) tm509 tm510 tm511 tm14 tm512 md_X0_takePart ⟨Nat.le_of_ble_eq_true rfl, Nat.le_of_ble_eq_true rfl⟩ [4] rfl rfl rfl (Nat.le_of_ble_eq_true rfl) (Nat.le_of_ble_eq_true rfl) (Nat.le_of_ble_eq_true rfl) dX3_receiverTakesFrame_67 (fun E hE => False.elim hE) (fun v cs1 hp => ?_)
        obtain ⟨rfl, rfl⟩ := hp
        show G 70 [(3, .int (nI p)), (2, .ref (da d)), (1, .int (nI kd)), (0, .ref (ad 0))] [.int (aComeR S d p)] [xoW ad up op tr, lkW D ad (xup L 3 j ((L 3 j + 1) &&& 15)), alW D e0 (ad 2) hs N, rwW D (ad 3) (ad 10) (ad 11) (ad 12) g1 qf.length, dvW da N (aComeS S d p) om] 0 0
        exact x_zret F (pc := 70) rfl (by unfold aComeR; split <;> (try split) <;> rfl) dX3_receiverTakesFrame_70 (⟨by unfold rcvR; rw [if_neg hk2], g1, hg1, by unfold rcvL rcvS; rw [if_neg hk2, if_pos (show kd = 0 ∧ p = 0 from ⟨(nI_eq (by omega) (by decide)).mp (h47.trans nI_0.symm), (nI_eq (by omega) (by decide)).mp (h51.trans nI_0.symm)⟩), elk]⟩) (Nat.le_of_ble_eq_true rfl) (Nat.le_of_ble_eq_true rfl)
  · skip
    have hk2 : kd = 2 := (nI_eq (by omega) (by decide)).mp h37
    refine x_aload_n B (pc := 40) 1 dX3_receiverTakesFrame_40 rfl rfl ?_
    refine x_callV B (pc := 41) (As := []) (c_X0_forgetDecided hl D e0 hd) xcl_D rfl 0 d rfl (dv_get hd) tm501 tm502 tm503 tm14 tm504 md_X0_forgetDecided ⟨Nat.le_of_ble_eq_true rfl, Nat.le_of_ble_eq_true rfl⟩ [4] rfl rfl rfl (Nat.le_of_ble_eq_true rfl) (Nat.le_of_ble_eq_true rfl) (Nat.le_of_ble_eq_true rfl) dX3_receiverTakesFrame_41 (fun E hE => False.elim hE) (fun v cs1 hp => ?_)
    obtain ⟨rfl, rfl⟩ := hp
    show G 44 [(3, .int (nI p)), (2, .ref (da d)), (1, .int (nI kd)), (0, .ref (ad 0))] [] [xoW ad up op tr, lkW D ad L, alW D e0 (ad 2) hs N, rwW D (ad 3) (ad 10) (ad 11) (ad 12) g1 qf.length, dvW da N (aForget S d) om] 0 0
    refine x_iconst B (pc := 44) 0 dX3_receiverTakesFrame_44 (by decide) ?_
    exact x_zret F (pc := 45) rfl rfl dX3_receiverTakesFrame_45 (⟨by unfold rcvR; rw [if_pos hk2], g1, hg1, by unfold rcvL rcvS; rw [if_pos hk2, if_neg (fun e => by have := e.1; omega)]⟩) (Nat.le_of_ble_eq_true rfl) (Nat.le_of_ble_eq_true rfl)

set_option maxRecDepth 100000 in
set_option maxHeartbeats 4000000 in
theorem c_X3_senderTakesFrame {l : Launch} (hl : l.stackTraces = false) (D : va_G) (e0 : Nat) {ad : Nat → Nat} {up op tr : Int32} {L : xS} {hs : xAg} {N : Nat} {gf : xRg} {qf : List xFr} {gb : xRg} {qb : List xFr} {da : Nat → Nat} {S : xS} {om : Nat → Int32} {kd s9 v9 : Nat} (hok : alOk hs N da) (hN : N ≤ 60) (hfr : kd = 3 ∧ s9 < 4 ∨ kd = 4 ∧ s9 < N) (hq : rwOk qf gf) (hql : qf.length < 512) (hqb : rwOk ((kd, s9, v9) :: qb) gb) : xC l yX3_senderTakesFrame (.code yX3_senderTakesFrame cX3_senderTakesFrame 5 (some .boolean)) ({ frames := 4, cells := 0, slots := 0, locals := 85 } : Room) D e0 [.ref (ad 0)] [xoW ad up op tr, lkW D ad L, alW D e0 (ad 2) hs N, rwW D (ad 3) (ad 10) (ad 11) (ad 12) gf qf.length, rwW D (ad 4) (ad 13) (ad 14) (ad 15) gb (((kd, s9, v9) :: qb).length), dvW da N S om] (fun v cs => v = some (.int (sndR S (kd, s9, v9))) ∧ ∃ g1 g2, rwOk (sndQ S (kd, s9, v9) qf) g1 ∧ rwOk qb g2 ∧ cs = [xoW ad up op tr, lkW D ad (sndL L (kd, s9, v9)), alW D e0 (ad 2) hs N, rwW D (ad 3) (ad 10) (ad 11) (ad 12) g1 ((sndQ S (kd, s9, v9) qf).length), rwW D (ad 4) (ad 13) (ad 14) (ad 15) g2 qb.length, dvW da N (sndS S (kd, s9, v9)) om]) (fun _ => False) := by
  refine xC_of hl (by decide +kernel) (Nat.le_of_ble_eq_true rfl) (fun G X F => ?_)
  have B : xB l D e0 "CreditLinks" cX3_senderTakesFrame 5 (some .boolean) [] _ G X := F.base
  show G 0 [(0, .ref (ad 0))] [] [xoW ad up op tr, lkW D ad L, alW D e0 (ad 2) hs N, rwW D (ad 3) (ad 10) (ad 11) (ad 12) gf qf.length, rwW D (ad 4) (ad 13) (ad 14) (ad 15) gb (((kd, s9, v9) :: qb).length), dvW da N S om] 0 0
  refine x_aload_n B (pc := 0) 0 dX3_senderTakesFrame_0 rfl rfl ?_
  refine x_get B (pc := 1) xcl_X 0 0 3 rfl rfl (by decide) tm103 rfl rfl dX3_senderTakesFrame_1 ?_
  refine x_callV B (pc := 4) (As := []) (c_X2_firstKind hl D e0 hqb) xcl_R rfl 0 0 rfl rfl tm485 tm486 tm487 tm5 tm488 md_X2_firstKind ⟨Nat.le_of_ble_eq_true rfl, Nat.le_of_ble_eq_true rfl⟩ [4] rfl rfl rfl (Nat.le_of_ble_eq_true rfl) (Nat.le_of_ble_eq_true rfl) (Nat.le_of_ble_eq_true rfl) dX3_senderTakesFrame_4 (fun E hE => False.elim hE) (fun v cs1 hp => ?_)
  obtain ⟨rfl, rfl⟩ := hp
  show G 7 [(0, .ref (ad 0))] [.int (nI kd)] [xoW ad up op tr, lkW D ad L, alW D e0 (ad 2) hs N, rwW D (ad 3) (ad 10) (ad 11) (ad 12) gf qf.length, rwW D (ad 4) (ad 13) (ad 14) (ad 15) gb (((kd, s9, v9) :: qb).length), dvW da N S om] 0 0
  refine x_istore_n B (pc := 7) [(1, .int (nI kd)), (0, .ref (ad 0))] dX3_senderTakesFrame_7 rfl (by decide) rfl ?_
  refine x_aload_n B (pc := 8) 1 dX3_senderTakesFrame_8 rfl rfl ?_
  refine x_get B (pc := 9) xcl_X 0 0 3 rfl rfl (by decide) tm103 rfl rfl dX3_senderTakesFrame_9 ?_
  refine x_callV B (pc := 12) (As := []) (c_X2_firstSubject hl D e0 hqb) xcl_R rfl 0 0 rfl rfl tm489 tm490 tm491 tm5 tm492 md_X2_firstSubject ⟨Nat.le_of_ble_eq_true rfl, Nat.le_of_ble_eq_true rfl⟩ [4] rfl rfl rfl (Nat.le_of_ble_eq_true rfl) (Nat.le_of_ble_eq_true rfl) (Nat.le_of_ble_eq_true rfl) dX3_senderTakesFrame_12 (fun E hE => False.elim hE) (fun v cs1 hp => ?_)
  obtain ⟨rfl, rfl⟩ := hp
  show G 15 [(1, .int (nI kd)), (0, .ref (ad 0))] [.int (nI s9)] [xoW ad up op tr, lkW D ad L, alW D e0 (ad 2) hs N, rwW D (ad 3) (ad 10) (ad 11) (ad 12) gf qf.length, rwW D (ad 4) (ad 13) (ad 14) (ad 15) gb (((kd, s9, v9) :: qb).length), dvW da N S om] 0 0
  refine x_istore_n B (pc := 15) [(2, .int (nI s9)), (1, .int (nI kd)), (0, .ref (ad 0))] dX3_senderTakesFrame_15 rfl (by decide) rfl ?_
  refine x_aload_n B (pc := 16) 2 dX3_senderTakesFrame_16 rfl rfl ?_
  refine x_get B (pc := 17) xcl_X 0 0 3 rfl rfl (by decide) tm103 rfl rfl dX3_senderTakesFrame_17 ?_
  refine x_callV B (pc := 20) (As := []) (c_X2_firstValue hl D e0 hqb) xcl_R rfl 0 0 rfl rfl tm493 tm494 tm495 tm5 tm496 md_X2_firstValue ⟨Nat.le_of_ble_eq_true rfl, Nat.le_of_ble_eq_true rfl⟩ [4] rfl rfl rfl (Nat.le_of_ble_eq_true rfl) (Nat.le_of_ble_eq_true rfl) (Nat.le_of_ble_eq_true rfl) dX3_senderTakesFrame_20 (fun E hE => False.elim hE) (fun v cs1 hp => ?_)
  obtain ⟨rfl, rfl⟩ := hp
  show G 23 [(2, .int (nI s9)), (1, .int (nI kd)), (0, .ref (ad 0))] [.int (nI v9)] [xoW ad up op tr, lkW D ad L, alW D e0 (ad 2) hs N, rwW D (ad 3) (ad 10) (ad 11) (ad 12) gf qf.length, rwW D (ad 4) (ad 13) (ad 14) (ad 15) gb (((kd, s9, v9) :: qb).length), dvW da N S om] 0 0
  refine x_istore_n B (pc := 23) [(3, .int (nI v9)), (2, .int (nI s9)), (1, .int (nI kd)), (0, .ref (ad 0))] dX3_senderTakesFrame_23 rfl (by decide) rfl ?_
  refine x_aload_n B (pc := 24) 3 dX3_senderTakesFrame_24 rfl rfl ?_
  refine x_get B (pc := 25) xcl_X 0 0 3 rfl rfl (by decide) tm103 rfl rfl dX3_senderTakesFrame_25 ?_
  refine x_callV B (pc := 28) (As := []) (c_X2_dropFirst hl D e0 hqb) xcl_R rfl 0 0 rfl rfl tm497 tm498 tm499 tm5 tm500 md_X2_dropFirst ⟨Nat.le_of_ble_eq_true rfl, Nat.le_of_ble_eq_true rfl⟩ [4] rfl rfl rfl (Nat.le_of_ble_eq_true rfl) (Nat.le_of_ble_eq_true rfl) (Nat.le_of_ble_eq_true rfl) dX3_senderTakesFrame_28 (fun E hE => False.elim hE) (fun v cs1 hp => ?_)
  obtain ⟨rfl, g2, hg2, rfl⟩ := hp
  show G 31 [(3, .int (nI v9)), (2, .int (nI s9)), (1, .int (nI kd)), (0, .ref (ad 0))] [] [xoW ad up op tr, lkW D ad L, alW D e0 (ad 2) hs N, rwW D (ad 3) (ad 10) (ad 11) (ad 12) gf qf.length, rwW D (ad 4) (ad 13) (ad 14) (ad 15) g2 qb.length, dvW da N S om] 0 0
  refine x_iload_n B (pc := 31) 2 dX3_senderTakesFrame_31 rfl rfl ?_
  refine x_iconst B (pc := 32) 3 dX3_senderTakesFrame_32 (by decide) ?_
  refine x_icmp_ne B (pc := 33) 47 dX3_senderTakesFrame_33 (by decide) (fun h33 => ?_) (fun h33 => ?_)
  · skip
    have hk3 : kd ≠ 3 := fun e => h33 (congrArg nI e)
    have hd : s9 < N := by omega
    refine x_aload_n B (pc := 47) 3 dX3_senderTakesFrame_47 rfl rfl ?_
    refine x_iload_n B (pc := 48) 1 dX3_senderTakesFrame_48 rfl rfl ?_
    refine x_callV B (pc := 49) (As := [.int (nI s9)]) (c_X3_deliveryAt hl D e0 hok hN hd) xcl_X rfl 0 0 rfl rfl tm439 tm441 ts7 tm1 tm442 md_X3_deliveryAt ⟨Nat.le_of_ble_eq_true rfl, Nat.le_of_ble_eq_true rfl⟩ [0, 2, 5] rfl rfl rfl (Nat.le_of_ble_eq_true rfl) (Nat.le_of_ble_eq_true rfl) (Nat.le_of_ble_eq_true rfl) dX3_senderTakesFrame_49 (fun E hE => False.elim hE) (fun v cs1 hp => ?_)
    obtain ⟨rfl, rfl⟩ := hp
    show G 52 [(3, .int (nI v9)), (2, .int (nI s9)), (1, .int (nI kd)), (0, .ref (ad 0))] [.ref (da s9)] [xoW ad up op tr, lkW D ad L, alW D e0 (ad 2) hs N, rwW D (ad 3) (ad 10) (ad 11) (ad 12) gf qf.length, rwW D (ad 4) (ad 13) (ad 14) (ad 15) g2 qb.length, dvW da N S om] 0 0
    refine x_astore B (pc := 52) [(4, .ref (da s9)), (3, .int (nI v9)), (2, .int (nI s9)), (1, .int (nI kd)), (0, .ref (ad 0))] dX3_senderTakesFrame_52 (by decide) rfl ?_
    refine x_aload B (pc := 54) 0 dX3_senderTakesFrame_54 rfl ?_
    refine x_get B (pc := 56) (v := .int (S 5 s9)) xcl_D 5 s9 2 rfl (dv_get hd) (by decide) tm331 rfl rfl dX3_senderTakesFrame_56 ?_
    refine x_iconst B (pc := 59) 2 dX3_senderTakesFrame_59 (by decide) ?_
    refine x_icmp_ne B (pc := 60) 73 dX3_senderTakesFrame_60 (by decide) (fun h60 => ?_) (fun h60 => ?_)
    · skip
      refine x_aload B (pc := 73) 0 dX3_senderTakesFrame_73 rfl ?_
      refine x_iload_n B (pc := 75) 1 dX3_senderTakesFrame_75 rfl rfl ?_
      refine x_callV B (pc := 76) (As := [.int (nI v9)]) (c_X0_settle hl D e0 hd) xcl_D rfl 0 s9 rfl (dv_get hd) tm521 tm522 tm523 tm14 tm524 md_X0_settle ⟨Nat.le_of_ble_eq_true rfl, Nat.le_of_ble_eq_true rfl⟩ [5] rfl rfl rfl (Nat.le_of_ble_eq_true rfl) (Nat.le_of_ble_eq_true rfl) (Nat.le_of_ble_eq_true rfl) dX3_senderTakesFrame_76 (fun E hE => False.elim hE) (fun v cs1 hp => ?_)
      obtain ⟨rfl, rfl⟩ := hp
      show G 79 [(4, .ref (da s9)), (3, .int (nI v9)), (2, .int (nI s9)), (1, .int (nI kd)), (0, .ref (ad 0))] [.int (aSetR S s9)] [xoW ad up op tr, lkW D ad L, alW D e0 (ad 2) hs N, rwW D (ad 3) (ad 10) (ad 11) (ad 12) gf qf.length, rwW D (ad 4) (ad 13) (ad 14) (ad 15) g2 qb.length, dvW da N (aSetS S s9 (nI v9)) om] 0 0
      exact x_zret F (pc := 79) rfl (by unfold aSetR; split <;> rfl) dX3_senderTakesFrame_79 (⟨by unfold sndR; rw [if_neg hk3], gf, g2, by unfold sndQ; rw [if_neg hk3, if_neg h60]; exact hq, hg2, by unfold sndL sndQ sndS; rw [if_neg hk3, if_neg hk3, if_neg hk3, if_neg h60]⟩) (Nat.le_of_ble_eq_true rfl) (Nat.le_of_ble_eq_true rfl)
    · skip
      refine x_aload_n B (pc := 63) 4 dX3_senderTakesFrame_63 rfl rfl ?_
      refine x_get B (pc := 64) xcl_X 0 0 2 rfl rfl (by decide) tm102 rfl rfl dX3_senderTakesFrame_64 ?_
      refine x_iconst B (pc := 67) 2 dX3_senderTakesFrame_67 (by decide) ?_
      refine x_val B (y := nI 2) rfl ?_
      refine x_iload_n B (pc := 68) 2 dX3_senderTakesFrame_68 rfl rfl ?_
      refine x_iconst B (pc := 69) 0 dX3_senderTakesFrame_69 (by decide) ?_
      refine x_val B (y := nI 0) rfl ?_
      refine x_callV B (pc := 70) (As := [.int (nI 2), .int (nI s9), .int (nI 0)]) (c_X2_add hl D e0 hq hql) xcl_R rfl 0 0 rfl rfl tm305 tm306 tm307 tm5 tm308 md_X2_add ⟨Nat.le_of_ble_eq_true rfl, Nat.le_of_ble_eq_true rfl⟩ [3] rfl rfl rfl (Nat.le_of_ble_eq_true rfl) (Nat.le_of_ble_eq_true rfl) (Nat.le_of_ble_eq_true rfl) dX3_senderTakesFrame_70 (fun E hE => False.elim hE) (fun v cs1 hp => ?_)
      obtain ⟨rfl, g1, hg1, rfl⟩ := hp
      show G 73 [(4, .ref (da s9)), (3, .int (nI v9)), (2, .int (nI s9)), (1, .int (nI kd)), (0, .ref (ad 0))] [] [xoW ad up op tr, lkW D ad L, alW D e0 (ad 2) hs N, rwW D (ad 3) (ad 10) (ad 11) (ad 12) g1 ((qf ++ [(2, s9, 0)]).length), rwW D (ad 4) (ad 13) (ad 14) (ad 15) g2 qb.length, dvW da N S om] 0 0
      refine x_aload B (pc := 73) 0 dX3_senderTakesFrame_73 rfl ?_
      refine x_iload_n B (pc := 75) 1 dX3_senderTakesFrame_75 rfl rfl ?_
      refine x_callV B (pc := 76) (As := [.int (nI v9)]) (c_X0_settle hl D e0 hd) xcl_D rfl 0 s9 rfl (dv_get hd) tm521 tm522 tm523 tm14 tm524 md_X0_settle ⟨Nat.le_of_ble_eq_true rfl, Nat.le_of_ble_eq_true rfl⟩ [5] rfl rfl rfl (Nat.le_of_ble_eq_true rfl) (Nat.le_of_ble_eq_true rfl) (Nat.le_of_ble_eq_true rfl) dX3_senderTakesFrame_76 (fun E hE => False.elim hE) (fun v cs1 hp => ?_)
      obtain ⟨rfl, rfl⟩ := hp
      show G 79 [(4, .ref (da s9)), (3, .int (nI v9)), (2, .int (nI s9)), (1, .int (nI kd)), (0, .ref (ad 0))] [.int (aSetR S s9)] [xoW ad up op tr, lkW D ad L, alW D e0 (ad 2) hs N, rwW D (ad 3) (ad 10) (ad 11) (ad 12) g1 ((qf ++ [(2, s9, 0)]).length), rwW D (ad 4) (ad 13) (ad 14) (ad 15) g2 qb.length, dvW da N (aSetS S s9 (nI v9)) om] 0 0
      exact x_zret F (pc := 79) rfl (by unfold aSetR; split <;> rfl) dX3_senderTakesFrame_79 (⟨by unfold sndR; rw [if_neg hk3], g1, g2, by unfold sndQ; rw [if_neg hk3, if_pos h60]; exact hg1, hg2, by unfold sndL sndQ sndS; rw [if_neg hk3, if_neg hk3, if_neg hk3, if_pos h60]⟩) (Nat.le_of_ble_eq_true rfl) (Nat.le_of_ble_eq_true rfl)
  · skip
    have hk3 : kd = 3 := (nI_eq (by omega) (by decide)).mp h33
    have hj : s9 < 4 := by omega
    refine x_aload_n B (pc := 36) 3 dX3_senderTakesFrame_36 rfl rfl ?_
    refine x_iload_n B (pc := 37) 1 dX3_senderTakesFrame_37 rfl rfl ?_
    refine x_callV B (pc := 38) (As := [.int (nI s9)]) (c_X3_linkAt hl D e0 hj) xcl_X rfl 0 0 rfl rfl tm186 tm188 ts0 tm1 tm189 md_X3_linkAt ⟨Nat.le_of_ble_eq_true rfl, Nat.le_of_ble_eq_true rfl⟩ [0, 1] rfl rfl rfl (Nat.le_of_ble_eq_true rfl) (Nat.le_of_ble_eq_true rfl) (Nat.le_of_ble_eq_true rfl) dX3_senderTakesFrame_38 (fun E hE => False.elim hE) (fun v cs1 hp => ?_)
    obtain ⟨rfl, rfl⟩ := hp
    show G 41 [(3, .int (nI v9)), (2, .int (nI s9)), (1, .int (nI kd)), (0, .ref (ad 0))] [.ref (ad (6 + s9))] [xoW ad up op tr, lkW D ad L, alW D e0 (ad 2) hs N, rwW D (ad 3) (ad 10) (ad 11) (ad 12) gf qf.length, rwW D (ad 4) (ad 13) (ad 14) (ad 15) g2 qb.length, dvW da N S om] 0 0
    refine x_iload_n B (pc := 41) 0 dX3_senderTakesFrame_41 rfl rfl ?_
    refine x_put B (pc := 42) xcl_L 1 (s9 + 1) 2 [xoW ad up op tr, lkW D ad (xup L 2 s9 (nI v9)), alW D e0 (ad 2) hs N, rwW D (ad 3) (ad 10) (ad 11) (ad 12) gf qf.length, rwW D (ad 4) (ad 13) (ad 14) (ad 15) g2 qb.length, dvW da N S om] rfl (lk_get hj) (by decide) tm88 rfl rfl rfl rfl rfl (Nat.le_of_ble_eq_true rfl) (lk_set2 hj) rfl dX3_senderTakesFrame_42 ?_
    refine x_iconst B (pc := 45) 0 dX3_senderTakesFrame_45 (by decide) ?_
    exact x_zret F (pc := 46) rfl rfl dX3_senderTakesFrame_46 (⟨by unfold sndR; rw [if_pos hk3], gf, g2, by unfold sndQ; rw [if_pos hk3]; exact hq, hg2, by unfold sndL sndQ sndS; rw [if_pos hk3, if_pos hk3, if_pos hk3]⟩) (Nat.le_of_ble_eq_true rfl) (Nat.le_of_ble_eq_true rfl)

set_option maxRecDepth 100000 in
set_option maxHeartbeats 4000000 in
theorem c_X3_closeTransaction {l : Launch} (hl : l.stackTraces = false) (D : va_G) (e0 : Nat) {ad : Nat → Nat} {up op tr : Int32} {N : Nat} {ht : xAg} {tq : List Nat} {da : Nat → Nat} {S : xS} {om : Nat → Int32} (hok : alOk ht tq.length (fun i => da (tq.getD i 0))) (hT : tq.length ≤ 60) (hin : ∀ i, i < tq.length → tq.getD i 0 < N) : xC l yX3_closeTransaction (.code yX3_closeTransaction cX3_closeTransaction 2 none) ({ frames := 3, cells := 0, slots := 0, locals := 64 } : Room) D e0 [.ref (ad 0)] [xoW ad up op tr, alW D e0 (ad 5) ht tq.length, dvW da N S om] (fun v cs => v = none ∧ ∃ h1, (∀ w1, alOk h1 0 w1) ∧ cs = [xoW ad up 0 tr, alW D e0 (ad 5) h1 0, dvW da N (clrS S tq) om]) (fun _ => False) := by
  refine xC_of hl (by decide +kernel) (Nat.le_of_ble_eq_true rfl) (fun G X F => ?_)
  have B : xB l D e0 "CreditLinks" cX3_closeTransaction 2 none [] _ G X := F.base
  show G 0 [(0, .ref (ad 0))] [] [xoW ad up op tr, alW D e0 (ad 5) ht tq.length, dvW da N S om] 0 0
  refine x_iconst B (pc := 0) 0 dX3_closeTransaction_0 (by decide) ?_
  refine x_val B (y := nI 0) rfl ?_
  refine x_istore_n B (pc := 1) [(1, .int (nI 0)), (0, .ref (ad 0))] dX3_closeTransaction_1 rfl (by decide) rfl ?_
  have hloop2 : ∀ (fu : Nat) (i : Nat), i ≤ tq.length → tq.length + 1 ≤ i + fu → G 2 [(1, .int (nI i)), (0, .ref (ad 0))] [] [xoW ad up op tr, alW D e0 (ad 5) ht tq.length, dvW da N (clrS S (tq.take i)) om] 0 0 := by
    intro fu
    induction fu with
    | zero =>
      intro i hi hfu
      omega
    | succ fu ih =>
      intro i hi hfu
      refine x_iload_n B (pc := 2) 0 dX3_closeTransaction_2 rfl rfl ?_
      refine x_aload_n B (pc := 3) 1 dX3_closeTransaction_3 rfl rfl ?_
      refine x_get B (pc := 4) xcl_X 0 0 4 rfl rfl (by decide) tm104 rfl rfl dX3_closeTransaction_4 ?_
      refine x_callV B (pc := 7) (As := []) (c_Jx4a65c_size_8abf5 hl D e0 ) xcl_A rfl 0 0 rfl al_get0 tm129 tm130 tm131 tm4 tm132 md_Jx4a65c_size_8abf5 ⟨Nat.le_of_ble_eq_true rfl, Nat.le_of_ble_eq_true rfl⟩ [1] rfl rfl rfl (Nat.le_of_ble_eq_true rfl) (Nat.le_of_ble_eq_true rfl) (Nat.le_of_ble_eq_true rfl) dX3_closeTransaction_7 (fun E hE => False.elim hE) (fun v cs1 hp => ?_)
      obtain ⟨rfl, rfl⟩ := hp
      show G 10 [(1, .int (nI i)), (0, .ref (ad 0))] [.int (nI tq.length), .int (nI i)] [xoW ad up op tr, alW D e0 (ad 5) ht tq.length, dvW da N (clrS S (tq.take i)) om] 0 0
      refine x_icmp_ge B (pc := 10) 34 dX3_closeTransaction_10 (by decide) (fun h10 => ?_) (fun h10 => ?_)
      · skip
        have hge : i = tq.length := by
          have := (nI_leI (by omega) (by omega)).mp h10
          omega
        subst hge
        rw [List.take_length]
        refine x_lv B [1] [(0, .ref (ad 0))] rfl ?_
        refine x_aload_n B (pc := 34) 0 dX3_closeTransaction_34 rfl rfl ?_
        refine x_get B (pc := 35) xcl_X 0 0 4 rfl rfl (by decide) tm104 rfl rfl dX3_closeTransaction_35 ?_
        refine x_callV B (pc := 38) (As := []) (c_Jx4a65c_clear_da8c8 hl D e0 hok hT) xcl_A rfl 0 0 rfl al_get0 tm537 tm538 tm539 tm4 tm540 md_Jx4a65c_clear_da8c8 ⟨Nat.le_of_ble_eq_true rfl, Nat.le_of_ble_eq_true rfl⟩ [1] rfl rfl rfl (Nat.le_of_ble_eq_true rfl) (Nat.le_of_ble_eq_true rfl) (Nat.le_of_ble_eq_true rfl) dX3_closeTransaction_38 (fun E hE => False.elim hE) (fun v cs1 hp => ?_)
        obtain ⟨rfl, h1, hh1, rfl⟩ := hp
        show G 41 [(0, .ref (ad 0))] [] [xoW ad up op tr, alW D e0 (ad 5) h1 0, dvW da N (clrS S tq) om] 0 0
        refine x_aload_n B (pc := 41) 0 dX3_closeTransaction_41 rfl rfl ?_
        refine x_iconst B (pc := 42) 0 dX3_closeTransaction_42 (by decide) ?_
        refine x_put B (pc := 43) xcl_X 0 0 6 [xoW ad up 0 tr, alW D e0 (ad 5) h1 0, dvW da N (clrS S tq) om] rfl rfl (by decide) tm106 rfl rfl rfl rfl rfl (Nat.le_of_ble_eq_true rfl) rfl rfl dX3_closeTransaction_43 ?_
        exact x_vret F (pc := 46) rfl dX3_closeTransaction_46 (⟨rfl, h1, hh1, rfl⟩) (Nat.le_of_ble_eq_true rfl) (Nat.le_of_ble_eq_true rfl)
      · skip
        have hlt : i < tq.length := Nat.lt_of_not_le (fun e => h10 (nI_le e (by omega)))
        refine x_aload_n B (pc := 13) 1 dX3_closeTransaction_13 rfl rfl ?_
        refine x_get B (pc := 14) xcl_X 0 0 4 rfl rfl (by decide) tm104 rfl rfl dX3_closeTransaction_14 ?_
        refine x_iload_n B (pc := 17) 0 dX3_closeTransaction_17 rfl rfl ?_
        refine x_callV B (pc := 18) (As := [.int (nI i)]) (c_Jx4a65c_get_915e3 hl D e0 hok hlt) xcl_A rfl 0 0 rfl al_get0 tm149 tm150 tm151 tm4 tm152 md_Jx4a65c_get_915e3 ⟨Nat.le_of_ble_eq_true rfl, Nat.le_of_ble_eq_true rfl⟩ [1] rfl rfl rfl (Nat.le_of_ble_eq_true rfl) (Nat.le_of_ble_eq_true rfl) (Nat.le_of_ble_eq_true rfl) dX3_closeTransaction_18 (fun E hE => False.elim hE) (fun v cs1 hp => ?_)
        obtain ⟨rfl, rfl⟩ := hp
        show G 21 [(1, .int (nI i)), (0, .ref (ad 0))] [.ref (da (tq.getD i 0))] [xoW ad up op tr, alW D e0 (ad 5) ht tq.length, dvW da N (clrS S (tq.take i)) om] 0 0
        refine x_cast B (pc := 21) xcl_D 2 (tq.getD i 0) rfl (dv_get (hin i hlt)) tm163 dX3_closeTransaction_21 ?_
        refine x_iconst B (pc := 24) (-1) dX3_closeTransaction_24 (by decide) ?_
        refine x_put B (pc := 25) xcl_D 2 (tq.getD i 0) 10 [xoW ad up op tr, alW D e0 (ad 5) ht tq.length, dvW da N (xup (clrS S (tq.take i)) 14 (tq.getD i 0) (-1)) om] rfl (dv_get (hin i hlt)) (by decide) tm344 rfl rfl rfl rfl rfl (Nat.le_of_ble_eq_true rfl) (dv_set10 (hin i hlt)) rfl dX3_closeTransaction_25 ?_
        refine x_iinc B (pc := 28) 0 (nI (i + 1)) [(1, .int (nI (i + 1))), (0, .ref (ad 0))] dX3_closeTransaction_28 rfl (nI_1 i) (by decide) rfl ?_
        refine x_goto B (pc := 31) 2 dX3_closeTransaction_31 (by decide) ?_
        refine x_lv B [0, 1] [(1, .int (nI (i + 1))), (0, .ref (ad 0))] rfl ?_
        have e9 : xup (clrS S (tq.take i)) 14 (tq.getD i 0) (-1) = clrS S (tq.take (i + 1)) := by rw [take_snoc hlt, clrS_snoc]
        rw [e9]
        exact ih (i + 1) (by omega) (by omega)
  refine x_lv B [0, 1] [(1, .int (nI 0)), (0, .ref (ad 0))] rfl ?_
  exact hloop2 (tq.length + 1) 0 (Nat.zero_le _) (by omega)
