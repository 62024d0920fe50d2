set_option maxRecDepth 100000 in
set_option maxHeartbeats 4000000 in
theorem c_J9_floorMod_7cf53 {l : Launch} (hl : l.stackTraces = false) (D : va_G) (e0 : Nat) {x : Int32}  : xC l yJ9_floorMod_7cf53 (.code yJ9_floorMod_7cf53 cJ9_floorMod_7cf53 3 (some .int)) ({ frames := 0, cells := 0, slots := 0, locals := 0 } : Room) D e0 [.int x, .int 16] [] (fun v cs => v = some (.int (x &&& 15)) ∧ cs = []) (fun _ => False) := by
  refine xC_of hl (by decide +kernel) (Nat.le_of_ble_eq_true rfl) (fun G X F => ?_)
  have B : xB l D e0 "java/lang/Math" cJ9_floorMod_7cf53 3 (some .int) [] _ G X := F.base
  show G 0 [(0, .int x), (1, .int 16)] [] [] 0 0
  refine x_iload_n B (pc := 0) 0 dJ9_floorMod_7cf53_0 rfl rfl ?_
  refine x_iload_n B (pc := 1) 1 dJ9_floorMod_7cf53_1 rfl rfl ?_
  refine x_irem B (pc := 2) dJ9_floorMod_7cf53_2 (by decide) ?_
  refine x_istore_n B (pc := 3) [(2, .int (x - x / 16 * 16)), (0, .int x), (1, .int 16)] dJ9_floorMod_7cf53_3 rfl (by decide) rfl ?_
  refine x_iload_n B (pc := 4) 1 dJ9_floorMod_7cf53_4 rfl rfl ?_
  refine x_iload_n B (pc := 5) 2 dJ9_floorMod_7cf53_5 rfl rfl ?_
  refine x_ixor B (pc := 6) dJ9_floorMod_7cf53_6 ?_
  refine x_if_ge B (pc := 7) 18 dJ9_floorMod_7cf53_7 (by decide) (fun h7 => ?_) (fun h7 => ?_)
  · skip
    refine x_iload_n B (pc := 18) 0 dJ9_floorMod_7cf53_18 rfl rfl ?_
    exact x_iret F (pc := 19) rfl dJ9_floorMod_7cf53_19 (⟨by first | rw [fm_pos h7] | rw [(fm_neg h7).1 h11], rfl⟩) (Nat.le_of_ble_eq_true rfl) (Nat.le_of_ble_eq_true rfl)
  · skip
    refine x_iload_n B (pc := 10) 0 dJ9_floorMod_7cf53_10 rfl rfl ?_
    refine x_if_eq B (pc := 11) 18 dJ9_floorMod_7cf53_11 (by decide) (fun h11 => ?_) (fun h11 => ?_)
    · skip
      refine x_iload_n B (pc := 18) 0 dJ9_floorMod_7cf53_18 rfl rfl ?_
      exact x_iret F (pc := 19) rfl dJ9_floorMod_7cf53_19 (⟨by first | rw [fm_pos h7] | rw [(fm_neg h7).1 h11], rfl⟩) (Nat.le_of_ble_eq_true rfl) (Nat.le_of_ble_eq_true rfl)
    · skip
      refine x_iload_n B (pc := 14) 0 dJ9_floorMod_7cf53_14 rfl rfl ?_
      refine x_iload_n B (pc := 15) 2 dJ9_floorMod_7cf53_15 rfl rfl ?_
      refine x_iadd B (pc := 16) dJ9_floorMod_7cf53_16 ?_
      exact x_iret F (pc := 17) rfl dJ9_floorMod_7cf53_17 (⟨by rw [(fm_neg h7).2 h11], rfl⟩) (Nat.le_of_ble_eq_true rfl) (Nat.le_of_ble_eq_true rfl)

set_option maxRecDepth 100000 in
set_option maxHeartbeats 4000000 in
theorem c_X3_wrapped {l : Launch} (hl : l.stackTraces = false) (D : va_G) (e0 : Nat) {x : Int32}  : xC l yX3_wrapped (.code yX3_wrapped cX3_wrapped 1 (some .int)) ({ frames := 1, cells := 0, slots := 0, locals := 22 } : Room) D e0 [.int x] [] (fun v cs => v = some (.int (x &&& 15)) ∧ cs = []) (fun _ => False) := by
  refine xC_of hl (by decide +kernel) (Nat.le_of_ble_eq_true rfl) (fun G X F => ?_)
  have B : xB l D e0 "CreditLinks" cX3_wrapped 1 (some .int) [] _ G X := F.base
  show G 0 [(0, .int x)] [] [] 0 0
  refine x_iload_n B (pc := 0) 0 dX3_wrapped_0 rfl rfl ?_
  refine x_bipush B (pc := 1) 16 dX3_wrapped_1 (by decide) ?_
  refine x_callS B (pc := 3) (As := [.int x, .int 16]) (c_J9_floorMod_7cf53 hl D e0 ) tm302 tm303 tm13 tm304 md_J9_floorMod_7cf53 ⟨Nat.le_of_ble_eq_true rfl, Nat.le_of_ble_eq_true rfl⟩ [] rfl rfl rfl (Nat.le_of_ble_eq_true rfl) (Nat.le_of_ble_eq_true rfl) (Nat.le_of_ble_eq_true rfl) dX3_wrapped_3 (fun E hE => False.elim hE) (fun v cs1 hp => ?_)
  obtain ⟨rfl, rfl⟩ := hp
  show G 6 [(0, .int x)] [.int (x &&& 15)] [] 0 0
  exact x_iret F (pc := 6) rfl dX3_wrapped_6 (⟨rfl, rfl⟩) (Nat.le_of_ble_eq_true rfl) (Nat.le_of_ble_eq_true rfl)

set_option maxRecDepth 100000 in
set_option maxHeartbeats 4000000 in
theorem c_X2_length {l : Launch} (hl : l.stackTraces = false) (D : va_G) (e0 : Nat) {r ka sa va : Nat} {q : List xFr} {g : xRg}  : xC l yX2_length (.code yX2_length cX2_length 1 (some .int)) ({ frames := 0, cells := 0, slots := 0, locals := 0 } : Room) D e0 [.ref r] [rwW D r ka sa va g q.length] (fun v cs => v = some (.int (nI q.length)) ∧ cs = [rwW D r ka sa va g q.length]) (fun _ => False) := by
  refine xC_of hl (by decide +kernel) (Nat.le_of_ble_eq_true rfl) (fun G X F => ?_)
  have B : xB l D e0 "CreditLinks$Row" cX2_length 1 (some .int) [] _ G X := F.base
  show G 0 [(0, .ref r)] [] [rwW D r ka sa va g q.length] 0 0
  refine x_aload_n B (pc := 0) 0 dX2_length_0 rfl rfl ?_
  refine x_get B (pc := 1) (v := .int (nI q.length)) xcl_R 0 0 4 rfl rfl (by decide) tm66 rfl rfl dX2_length_1 ?_
  exact x_iret F (pc := 4) rfl dX2_length_4 (⟨rfl, rfl⟩) (Nat.le_of_ble_eq_true rfl) (Nat.le_of_ble_eq_true rfl)

set_option maxRecDepth 100000 in
set_option maxHeartbeats 4000000 in
theorem c_X2_add {l : Launch} (hl : l.stackTraces = false) (D : va_G) (e0 : Nat) {r ka sa va : Nat} {q : List xFr} {g : xRg} {a b c : Nat} (hq : rwOk q g) (hl9 : q.length < 512) : xC l yX2_add (.code yX2_add cX2_add 5 none) ({ frames := 0, cells := 0, slots := 0, locals := 0 } : Room) D e0 [.ref r, .int (nI a), .int (nI b), .int (nI c)] [rwW D r ka sa va g q.length] (fun v cs => v = none ∧ ∃ g1, rwOk (q ++ [(a, b, c)]) g1 ∧ cs = [rwW D r ka sa va g1 (q ++ [(a, b, c)]).length]) (fun _ => False) := by
  refine xC_of hl (by decide +kernel) (Nat.le_of_ble_eq_true rfl) (fun G X F => ?_)
  have B : xB l D e0 "CreditLinks$Row" cX2_add 5 none [] _ G X := F.base
  show G 0 [(0, .ref r), (1, .int (nI a)), (2, .int (nI b)), (3, .int (nI c))] [] [rwW D r ka sa va g q.length] 0 0
  have hg9 := hq.1
  refine x_aload_n B (pc := 0) 0 dX2_add_0 rfl rfl ?_
  refine x_get B (pc := 1) (v := .int (nI q.length)) xcl_R 0 0 4 rfl rfl (by decide) tm66 rfl rfl dX2_add_1 ?_
  refine x_sipush B (pc := 4) 512 dX2_add_4 (by decide) ?_
  refine x_icmp_lt B (pc := 7) 11 dX2_add_7 (by decide) (fun h7 => ?_) (fun h7 => absurd (nI_lt (b := 512) hl9 (by decide)) h7)
  refine x_aload_n B (pc := 11) 0 dX2_add_11 rfl rfl ?_
  refine x_get B (pc := 12) (v := .int (nI g.1)) xcl_R 0 0 3 rfl rfl (by decide) tm65 rfl rfl dX2_add_12 ?_
  refine x_aload_n B (pc := 15) 0 dX2_add_15 rfl rfl ?_
  refine x_get B (pc := 16) (v := .int (nI q.length)) xcl_R 0 0 4 rfl rfl (by decide) tm66 rfl rfl dX2_add_16 ?_
  refine x_iadd B (pc := 19) dX2_add_19 ?_
  refine x_sipush B (pc := 20) 511 dX2_add_20 (by decide) ?_
  refine x_iand B (pc := 23) dX2_add_23 ?_
  refine x_val B (y := nI ((g.1 + q.length) % 512)) (nring (by omega)) ?_
  refine x_istore B (pc := 24) [(4, .int (nI ((g.1 + q.length) % 512))), (0, .ref r), (1, .int (nI a)), (2, .int (nI b)), (3, .int (nI c))] dX2_add_24 (by decide) rfl ?_
  refine x_aload_n B (pc := 26) 1 dX2_add_26 rfl rfl ?_
  refine x_get B (pc := 27) xcl_R 0 0 0 rfl rfl (by decide) tm62 rfl rfl dX2_add_27 ?_
  refine x_iload B (pc := 30) 0 dX2_add_30 rfl ?_
  refine x_iload_n B (pc := 32) 2 dX2_add_32 rfl rfl ?_
  refine x_iastN B (pc := 33) ((g.1 + q.length) % 512) 0 1 [rwW D r ka sa va (g.1, upd g.2.1 ((g.1 + q.length) % 512) (nI a), g.2.2.1, g.2.2.2) q.length] (Nat.mod_lt _ (by decide)) (by decide) rfl rfl rfl rfl dX2_add_33 ?_
  refine x_aload_n B (pc := 34) 1 dX2_add_34 rfl rfl ?_
  refine x_get B (pc := 35) xcl_R 0 0 1 rfl rfl (by decide) tm63 rfl rfl dX2_add_35 ?_
  refine x_iload B (pc := 38) 0 dX2_add_38 rfl ?_
  refine x_iload_n B (pc := 40) 3 dX2_add_40 rfl rfl ?_
  refine x_iastN B (pc := 41) ((g.1 + q.length) % 512) 0 2 [rwW D r ka sa va (g.1, upd g.2.1 ((g.1 + q.length) % 512) (nI a), upd g.2.2.1 ((g.1 + q.length) % 512) (nI b), g.2.2.2) q.length] (Nat.mod_lt _ (by decide)) (by decide) rfl rfl rfl rfl dX2_add_41 ?_
  refine x_aload_n B (pc := 42) 1 dX2_add_42 rfl rfl ?_
  refine x_get B (pc := 43) xcl_R 0 0 2 rfl rfl (by decide) tm64 rfl rfl dX2_add_43 ?_
  refine x_iload B (pc := 46) 0 dX2_add_46 rfl ?_
  refine x_iload_n B (pc := 48) 4 dX2_add_48 rfl rfl ?_
  refine x_iastN B (pc := 49) ((g.1 + q.length) % 512) 0 3 [rwW D r ka sa va (g.1, upd g.2.1 ((g.1 + q.length) % 512) (nI a), upd g.2.2.1 ((g.1 + q.length) % 512) (nI b), upd g.2.2.2 ((g.1 + q.length) % 512) (nI c)) q.length] (Nat.mod_lt _ (by decide)) (by decide) rfl rfl rfl rfl dX2_add_49 ?_
  refine x_aload_n B (pc := 50) 1 dX2_add_50 rfl rfl ?_
  refine x_dup B (pc := 51) dX2_add_51 rfl ?_
  refine x_get B (pc := 52) (v := .int (nI q.length)) xcl_R 0 0 4 rfl rfl (by decide) tm66 rfl rfl dX2_add_52 ?_
  refine x_iconst B (pc := 55) 1 dX2_add_55 (by decide) ?_
  refine x_iadd B (pc := 56) dX2_add_56 ?_
  refine x_val B (y := nI (q.length + 1)) (nI_1 _) ?_
  refine x_put B (pc := 57) xcl_R 0 0 4 [rwW D r ka sa va (g.1, upd g.2.1 ((g.1 + q.length) % 512) (nI a), upd g.2.2.1 ((g.1 + q.length) % 512) (nI b), upd g.2.2.2 ((g.1 + q.length) % 512) (nI c)) (q.length + 1)] rfl rfl (by decide) tm66 rfl rfl rfl rfl rfl (Nat.le_of_ble_eq_true rfl) rfl rfl dX2_add_57 ?_
  exact x_vret F (pc := 60) rfl dX2_add_60 (⟨rfl, _, rw_add hq hl9, by rw [List.length_append]; rfl⟩) (Nat.le_of_ble_eq_true rfl) (Nat.le_of_ble_eq_true rfl)

set_option maxRecDepth 100000 in
set_option maxHeartbeats 4000000 in
theorem c_X2_firstKind {l : Launch} (hl : l.stackTraces = false) (D : va_G) (e0 : Nat) {r ka sa va : Nat} {x9 : xFr} {q : List xFr} {g : xRg} (hq : rwOk (x9 :: q) g) : xC l yX2_firstKind (.code yX2_firstKind cX2_firstKind 1 (some .int)) ({ frames := 0, cells := 0, slots := 0, locals := 0 } : Room) D e0 [.ref r] [rwW D r ka sa va g (q.length + 1)] (fun v cs => v = some (.int (nI x9.1)) ∧ cs = [rwW D r ka sa va g (q.length + 1)]) (fun _ => False) := by
  refine xC_of hl (by decide +kernel) (Nat.le_of_ble_eq_true rfl) (fun G X F => ?_)
  have B : xB l D e0 "CreditLinks$Row" cX2_firstKind 1 (some .int) [] _ G X := F.base
  show G 0 [(0, .ref r)] [] [rwW D r ka sa va g (q.length + 1)] 0 0
  have hg9 := hq.1
  refine x_aload_n B (pc := 0) 0 dX2_firstKind_0 rfl rfl ?_
  refine x_get B (pc := 1) xcl_R 0 0 0 rfl rfl (by decide) tm62 rfl rfl dX2_firstKind_1 ?_
  refine x_aload_n B (pc := 4) 0 dX2_firstKind_4 rfl rfl ?_
  refine x_get B (pc := 5) (v := .int (nI g.1)) xcl_R 0 0 3 rfl rfl (by decide) tm65 rfl rfl dX2_firstKind_5 ?_
  refine x_sipush B (pc := 8) 511 dX2_firstKind_8 (by decide) ?_
  refine x_iand B (pc := 11) dX2_firstKind_11 ?_
  refine x_val B (y := nI g.1) (nring0 hg9) ?_
  refine x_ialdN B (pc := 12) g.1 0 1 (by omega) (by decide) rfl rfl dX2_firstKind_12 ?_
  exact x_iret F (pc := 13) rfl dX2_firstKind_13 (⟨by rw [(rw_hd hq).1], rfl⟩) (Nat.le_of_ble_eq_true rfl) (Nat.le_of_ble_eq_true rfl)

set_option maxRecDepth 100000 in
set_option maxHeartbeats 4000000 in
theorem c_X2_firstSubject {l : Launch} (hl : l.stackTraces = false) (D : va_G) (e0 : Nat) {r ka sa va : Nat} {x9 : xFr} {q : List xFr} {g : xRg} (hq : rwOk (x9 :: q) g) : xC l yX2_firstSubject (.code yX2_firstSubject cX2_firstSubject 1 (some .int)) ({ frames := 0, cells := 0, slots := 0, locals := 0 } : Room) D e0 [.ref r] [rwW D r ka sa va g (q.length + 1)] (fun v cs => v = some (.int (nI x9.2.1)) ∧ cs = [rwW D r ka sa va g (q.length + 1)]) (fun _ => False) := by
  refine xC_of hl (by decide +kernel) (Nat.le_of_ble_eq_true rfl) (fun G X F => ?_)
  have B : xB l D e0 "CreditLinks$Row" cX2_firstSubject 1 (some .int) [] _ G X := F.base
  show G 0 [(0, .ref r)] [] [rwW D r ka sa va g (q.length + 1)] 0 0
  have hg9 := hq.1
  refine x_aload_n B (pc := 0) 0 dX2_firstSubject_0 rfl rfl ?_
  refine x_get B (pc := 1) xcl_R 0 0 1 rfl rfl (by decide) tm63 rfl rfl dX2_firstSubject_1 ?_
  refine x_aload_n B (pc := 4) 0 dX2_firstSubject_4 rfl rfl ?_
  refine x_get B (pc := 5) (v := .int (nI g.1)) xcl_R 0 0 3 rfl rfl (by decide) tm65 rfl rfl dX2_firstSubject_5 ?_
  refine x_sipush B (pc := 8) 511 dX2_firstSubject_8 (by decide) ?_
  refine x_iand B (pc := 11) dX2_firstSubject_11 ?_
  refine x_val B (y := nI g.1) (nring0 hg9) ?_
  refine x_ialdN B (pc := 12) g.1 0 2 (by omega) (by decide) rfl rfl dX2_firstSubject_12 ?_
  exact x_iret F (pc := 13) rfl dX2_firstSubject_13 (⟨by rw [(rw_hd hq).2.1], rfl⟩) (Nat.le_of_ble_eq_true rfl) (Nat.le_of_ble_eq_true rfl)

set_option maxRecDepth 100000 in
set_option maxHeartbeats 4000000 in
theorem c_X2_firstValue {l : Launch} (hl : l.stackTraces = false) (D : va_G) (e0 : Nat) {r ka sa va : Nat} {x9 : xFr} {q : List xFr} {g : xRg} (hq : rwOk (x9 :: q) g) : xC l yX2_firstValue (.code yX2_firstValue cX2_firstValue 1 (some .int)) ({ frames := 0, cells := 0, slots := 0, locals := 0 } : Room) D e0 [.ref r] [rwW D r ka sa va g (q.length + 1)] (fun v cs => v = some (.int (nI x9.2.2)) ∧ cs = [rwW D r ka sa va g (q.length + 1)]) (fun _ => False) := by
  refine xC_of hl (by decide +kernel) (Nat.le_of_ble_eq_true rfl) (fun G X F => ?_)
  have B : xB l D e0 "CreditLinks$Row" cX2_firstValue 1 (some .int) [] _ G X := F.base
  show G 0 [(0, .ref r)] [] [rwW D r ka sa va g (q.length + 1)] 0 0
  have hg9 := hq.1
  refine x_aload_n B (pc := 0) 0 dX2_firstValue_0 rfl rfl ?_
  refine x_get B (pc := 1) xcl_R 0 0 2 rfl rfl (by decide) tm64 rfl rfl dX2_firstValue_1 ?_
  refine x_aload_n B (pc := 4) 0 dX2_firstValue_4 rfl rfl ?_
  refine x_get B (pc := 5) (v := .int (nI g.1)) xcl_R 0 0 3 rfl rfl (by decide) tm65 rfl rfl dX2_firstValue_5 ?_
  refine x_sipush B (pc := 8) 511 dX2_firstValue_8 (by decide) ?_
  refine x_iand B (pc := 11) dX2_firstValue_11 ?_
  refine x_val B (y := nI g.1) (nring0 hg9) ?_
  refine x_ialdN B (pc := 12) g.1 0 3 (by omega) (by decide) rfl rfl dX2_firstValue_12 ?_
  exact x_iret F (pc := 13) rfl dX2_firstValue_13 (⟨by rw [(rw_hd hq).2.2], rfl⟩) (Nat.le_of_ble_eq_true rfl) (Nat.le_of_ble_eq_true rfl)

set_option maxRecDepth 100000 in
set_option maxHeartbeats 4000000 in
theorem c_X2_dropFirst {l : Launch} (hl : l.stackTraces = false) (D : va_G) (e0 : Nat) {r ka sa va : Nat} {x9 : xFr} {q : List xFr} {g : xRg} (hq : rwOk (x9 :: q) g) : xC l yX2_dropFirst (.code yX2_dropFirst cX2_dropFirst 1 none) ({ frames := 0, cells := 0, slots := 0, locals := 0 } : Room) D e0 [.ref r] [rwW D r ka sa va g (q.length + 1)] (fun v cs => v = none ∧ ∃ g1, rwOk q g1 ∧ cs = [rwW D r ka sa va g1 q.length]) (fun _ => False) := by
  refine xC_of hl (by decide +kernel) (Nat.le_of_ble_eq_true rfl) (fun G X F => ?_)
  have B : xB l D e0 "CreditLinks$Row" cX2_dropFirst 1 none [] _ G X := F.base
  show G 0 [(0, .ref r)] [] [rwW D r ka sa va g (q.length + 1)] 0 0
  have hg9 := hq.1
  have hl9 : q.length + 1 ≤ 512 := hq.2.1
  refine x_aload_n B (pc := 0) 0 dX2_dropFirst_0 rfl rfl ?_
  refine x_get B (pc := 1) (v := .int (nI (q.length + 1))) xcl_R 0 0 4 rfl rfl (by decide) tm66 rfl rfl dX2_dropFirst_1 ?_
  refine x_if_le B (pc := 4) 31 dX2_dropFirst_4 (by decide) (fun h4 => absurd h4 (nI_nle (by omega) (by omega))) (fun h4 => ?_)
  refine x_aload_n B (pc := 7) 0 dX2_dropFirst_7 rfl rfl ?_
  refine x_aload_n B (pc := 8) 0 dX2_dropFirst_8 rfl rfl ?_
  refine x_get B (pc := 9) (v := .int (nI g.1)) xcl_R 0 0 3 rfl rfl (by decide) tm65 rfl rfl dX2_dropFirst_9 ?_
  refine x_iconst B (pc := 12) 1 dX2_dropFirst_12 (by decide) ?_
  refine x_iadd B (pc := 13) dX2_dropFirst_13 ?_
  refine x_sipush B (pc := 14) 511 dX2_dropFirst_14 (by decide) ?_
  refine x_iand B (pc := 17) dX2_dropFirst_17 ?_
  refine x_val B (y := nI ((g.1 + 1) % 512)) (nring (a := g.1) (b := 1) (by omega)) ?_
  refine x_put B (pc := 18) xcl_R 0 0 3 [rwW D r ka sa va (((g.1 + 1) % 512), g.2.1, g.2.2.1, g.2.2.2) (q.length + 1)] rfl rfl (by decide) tm65 rfl rfl rfl rfl rfl (Nat.le_of_ble_eq_true rfl) rfl rfl dX2_dropFirst_18 ?_
  refine x_aload_n B (pc := 21) 0 dX2_dropFirst_21 rfl rfl ?_
  refine x_dup B (pc := 22) dX2_dropFirst_22 rfl ?_
  refine x_get B (pc := 23) (v := .int (nI (q.length + 1))) xcl_R 0 0 4 rfl rfl (by decide) tm66 rfl rfl dX2_dropFirst_23 ?_
  refine x_iconst B (pc := 26) 1 dX2_dropFirst_26 (by decide) ?_
  refine x_isub B (pc := 27) dX2_dropFirst_27 ?_
  refine x_val B (y := nI q.length) (nI_pred _) ?_
  refine x_put B (pc := 28) xcl_R 0 0 4 [rwW D r ka sa va (((g.1 + 1) % 512), g.2.1, g.2.2.1, g.2.2.2) q.length] rfl rfl (by decide) tm66 rfl rfl rfl rfl rfl (Nat.le_of_ble_eq_true rfl) rfl rfl dX2_dropFirst_28 ?_
  exact x_vret F (pc := 31) rfl dX2_dropFirst_31 (⟨rfl, _, rw_tl hq, rfl⟩) (Nat.le_of_ble_eq_true rfl) (Nat.le_of_ble_eq_true rfl)

set_option maxRecDepth 100000 in
set_option maxHeartbeats 4000000 in
theorem c_X2_drop {l : Launch} (hl : l.stackTraces = false) (D : va_G) (e0 : Nat) {r ka sa va : Nat} {q : List xFr} {g : xRg}  : xC l yX2_drop (.code yX2_drop cX2_drop 1 none) ({ frames := 0, cells := 0, slots := 0, locals := 0 } : Room) D e0 [.ref r] [rwW D r ka sa va g q.length] (fun v cs => v = none ∧ ∃ g1, rwOk [] g1 ∧ cs = [rwW D r ka sa va g1 0]) (fun _ => False) := by
  refine xC_of hl (by decide +kernel) (Nat.le_of_ble_eq_true rfl) (fun G X F => ?_)
  have B : xB l D e0 "CreditLinks$Row" cX2_drop 1 none [] _ G X := F.base
  show G 0 [(0, .ref r)] [] [rwW D r ka sa va g q.length] 0 0
  refine x_aload_n B (pc := 0) 0 dX2_drop_0 rfl rfl ?_
  refine x_iconst B (pc := 1) 0 dX2_drop_1 (by decide) ?_
  refine x_val B (y := nI 0) rfl ?_
  refine x_put B (pc := 2) xcl_R 0 0 3 [rwW D r ka sa va (0, g.2.1, g.2.2.1, g.2.2.2) q.length] rfl rfl (by decide) tm65 rfl rfl rfl rfl rfl (Nat.le_of_ble_eq_true rfl) rfl rfl dX2_drop_2 ?_
  refine x_aload_n B (pc := 5) 0 dX2_drop_5 rfl rfl ?_
  refine x_iconst B (pc := 6) 0 dX2_drop_6 (by decide) ?_
  refine x_val B (y := nI 0) rfl ?_
  refine x_put B (pc := 7) xcl_R 0 0 4 [rwW D r ka sa va (0, g.2.1, g.2.2.1, g.2.2.2) 0] rfl rfl (by decide) tm66 rfl rfl rfl rfl rfl (Nat.le_of_ble_eq_true rfl) rfl rfl dX2_drop_7 ?_
  exact x_vret F (pc := 10) rfl dX2_drop_10 (⟨rfl, _, rw_nil g, rfl⟩) (Nat.le_of_ble_eq_true rfl) (Nat.le_of_ble_eq_true rfl)

set_option maxRecDepth 100000 in
set_option maxHeartbeats 4000000 in
theorem c_X1_creditLeft {l : Launch} (hl : l.stackTraces = false) (D : va_G) (e0 : Nat) {ad : Nat → Nat} {S : xS} {j : Nat} (hj : j < 4) : xC l yX1_creditLeft (.code yX1_creditLeft cX1_creditLeft 1 (some .int)) ({ frames := 2, cells := 0, slots := 0, locals := 42 } : Room) D e0 [.ref (ad (6 + j))] [lkW D ad S] (fun v cs => v = some (.int ((S 2 j - S 1 j) &&& 15)) ∧ cs = [lkW D ad S]) (fun _ => False) := by
  refine xC_of hl (by decide +kernel) (Nat.le_of_ble_eq_true rfl) (fun G X F => ?_)
  have B : xB l D e0 "CreditLinks$Link" cX1_creditLeft 1 (some .int) [] _ G X := F.base
  show G 0 [(0, .ref (ad (6 + j)))] [] [lkW D ad S] 0 0
  refine x_aload_n B (pc := 0) 0 dX1_creditLeft_0 rfl rfl ?_
  refine x_get B (pc := 1) (v := .int (S 2 j)) xcl_L 0 (j + 1) 2 rfl (lk_get hj) (by decide) tm87 rfl rfl dX1_creditLeft_1 ?_
  refine x_aload_n B (pc := 4) 0 dX1_creditLeft_4 rfl rfl ?_
  refine x_get B (pc := 5) (v := .int (S 1 j)) xcl_L 0 (j + 1) 1 rfl (lk_get hj) (by decide) tm86 rfl rfl dX1_creditLeft_5 ?_
  refine x_isub B (pc := 8) dX1_creditLeft_8 ?_
  refine x_callSN B (pc := 9) (host := "CreditLinks") (As := [.int ((S 2 j) - (S 1 j))]) (c_X3_wrapped hl D e0 ) (by decide +kernel) tm300 tm1 tm301 md_X3_wrapped ⟨Nat.le_of_ble_eq_true rfl, Nat.le_of_ble_eq_true rfl⟩ [] rfl rfl rfl (Nat.le_of_ble_eq_true rfl) (Nat.le_of_ble_eq_true rfl) (Nat.le_of_ble_eq_true rfl) dX1_creditLeft_9 (fun E hE => False.elim hE) (fun v cs1 hp => ?_)
  obtain ⟨rfl, rfl⟩ := hp
  show G 12 [(0, .ref (ad (6 + j)))] [.int ((S 2 j - S 1 j) &&& 15)] [lkW D ad S] 0 0
  exact x_iret F (pc := 12) rfl dX1_creditLeft_12 (⟨rfl, rfl⟩) (Nat.le_of_ble_eq_true rfl) (Nat.le_of_ble_eq_true rfl)

set_option maxRecDepth 100000 in
set_option maxHeartbeats 4000000 in
theorem c_X1_countSent {l : Launch} (hl : l.stackTraces = false) (D : va_G) (e0 : Nat) {ad : Nat → Nat} {S : xS} {j : Nat} (hj : j < 4) : xC l yX1_countSent (.code yX1_countSent cX1_countSent 1 none) ({ frames := 2, cells := 0, slots := 0, locals := 42 } : Room) D e0 [.ref (ad (6 + j))] [lkW D ad S] (fun v cs => v = none ∧ cs = [lkW D ad (xup S 1 j ((S 1 j + 1) &&& 15))]) (fun _ => False) := by
  refine xC_of hl (by decide +kernel) (Nat.le_of_ble_eq_true rfl) (fun G X F => ?_)
  have B : xB l D e0 "CreditLinks$Link" cX1_countSent 1 none [] _ G X := F.base
  show G 0 [(0, .ref (ad (6 + j)))] [] [lkW D ad S] 0 0
  refine x_aload_n B (pc := 0) 0 dX1_countSent_0 rfl rfl ?_
  refine x_aload_n B (pc := 1) 0 dX1_countSent_1 rfl rfl ?_
  refine x_get B (pc := 2) (v := .int (S 1 j)) xcl_L 0 (j + 1) 1 rfl (lk_get hj) (by decide) tm86 rfl rfl dX1_countSent_2 ?_
  refine x_iconst B (pc := 5) 1 dX1_countSent_5 (by decide) ?_
  refine x_iadd B (pc := 6) dX1_countSent_6 ?_
  refine x_callSN B (pc := 7) (host := "CreditLinks") (As := [.int ((S 1 j) + 1)]) (c_X3_wrapped hl D e0 ) (by decide +kernel) tm300 tm1 tm301 md_X3_wrapped ⟨Nat.le_of_ble_eq_true rfl, Nat.le_of_ble_eq_true rfl⟩ [] rfl rfl rfl (Nat.le_of_ble_eq_true rfl) (Nat.le_of_ble_eq_true rfl) (Nat.le_of_ble_eq_true rfl) dX1_countSent_7 (fun E hE => False.elim hE) (fun v cs1 hp => ?_)
  obtain ⟨rfl, rfl⟩ := hp
  show G 10 [(0, .ref (ad (6 + j)))] [.int ((S 1 j + 1) &&& 15), .ref (ad (6 + j))] [lkW D ad S] 0 0
  refine x_put B (pc := 10) xcl_L 0 (j + 1) 1 [lkW D ad (xup S 1 j ((S 1 j + 1) &&& 15))] rfl (lk_get hj) (by decide) tm86 rfl rfl rfl rfl rfl (Nat.le_of_ble_eq_true rfl) (lk_set1 hj) rfl dX1_countSent_10 ?_
  exact x_vret F (pc := 13) rfl dX1_countSent_13 (⟨rfl, rfl⟩) (Nat.le_of_ble_eq_true rfl) (Nat.le_of_ble_eq_true rfl)

set_option maxRecDepth 100000 in
set_option maxHeartbeats 4000000 in
theorem c_X1_countCome {l : Launch} (hl : l.stackTraces = false) (D : va_G) (e0 : Nat) {ad : Nat → Nat} {S : xS} {j : Nat} (hj : j < 4) : xC l yX1_countCome (.code yX1_countCome cX1_countCome 1 none) ({ frames := 2, cells := 0, slots := 0, locals := 42 } : Room) D e0 [.ref (ad (6 + j))] [lkW D ad S] (fun v cs => v = none ∧ cs = [lkW D ad (xup S 3 j ((S 3 j + 1) &&& 15))]) (fun _ => False) := by
  refine xC_of hl (by decide +kernel) (Nat.le_of_ble_eq_true rfl) (fun G X F => ?_)
  have B : xB l D e0 "CreditLinks$Link" cX1_countCome 1 none [] _ G X := F.base
  show G 0 [(0, .ref (ad (6 + j)))] [] [lkW D ad S] 0 0
  refine x_aload_n B (pc := 0) 0 dX1_countCome_0 rfl rfl ?_
  refine x_aload_n B (pc := 1) 0 dX1_countCome_1 rfl rfl ?_
  refine x_get B (pc := 2) (v := .int (S 3 j)) xcl_L 0 (j + 1) 3 rfl (lk_get hj) (by decide) tm89 rfl rfl dX1_countCome_2 ?_
  refine x_iconst B (pc := 5) 1 dX1_countCome_5 (by decide) ?_
  refine x_iadd B (pc := 6) dX1_countCome_6 ?_
  refine x_callSN B (pc := 7) (host := "CreditLinks") (As := [.int ((S 3 j) + 1)]) (c_X3_wrapped hl D e0 ) (by decide +kernel) tm300 tm1 tm301 md_X3_wrapped ⟨Nat.le_of_ble_eq_true rfl, Nat.le_of_ble_eq_true rfl⟩ [] rfl rfl rfl (Nat.le_of_ble_eq_true rfl) (Nat.le_of_ble_eq_true rfl) (Nat.le_of_ble_eq_true rfl) dX1_countCome_7 (fun E hE => False.elim hE) (fun v cs1 hp => ?_)
  obtain ⟨rfl, rfl⟩ := hp
  show G 10 [(0, .ref (ad (6 + j)))] [.int ((S 3 j + 1) &&& 15), .ref (ad (6 + j))] [lkW D ad S] 0 0
  refine x_put B (pc := 10) xcl_L 0 (j + 1) 3 [lkW D ad (xup S 3 j ((S 3 j + 1) &&& 15))] rfl (lk_get hj) (by decide) tm89 rfl rfl rfl rfl rfl (Nat.le_of_ble_eq_true rfl) (lk_set3 hj) rfl dX1_countCome_10 ?_
  exact x_vret F (pc := 13) rfl dX1_countCome_13 (⟨rfl, rfl⟩) (Nat.le_of_ble_eq_true rfl) (Nat.le_of_ble_eq_true rfl)

set_option maxRecDepth 100000 in
set_option maxHeartbeats 4000000 in
theorem c_X1_startAgain {l : Launch} (hl : l.stackTraces = false) (D : va_G) (e0 : Nat) {ad : Nat → Nat} {S : xS} {j : Nat} (hj : j < 4) : xC l yX1_startAgain (.code yX1_startAgain cX1_startAgain 1 none) ({ frames := 0, cells := 0, slots := 0, locals := 0 } : Room) D e0 [.ref (ad (6 + j))] [lkW D ad S] (fun v cs => v = none ∧ cs = [lkW D ad (xup (xup S 3 j (S 1 j)) 2 j (S 1 j))]) (fun _ => False) := by
  refine xC_of hl (by decide +kernel) (Nat.le_of_ble_eq_true rfl) (fun G X F => ?_)
  have B : xB l D e0 "CreditLinks$Link" cX1_startAgain 1 none [] _ G X := F.base
  show G 0 [(0, .ref (ad (6 + j)))] [] [lkW D ad S] 0 0
  refine x_aload_n B (pc := 0) 0 dX1_startAgain_0 rfl rfl ?_
  refine x_aload_n B (pc := 1) 0 dX1_startAgain_1 rfl rfl ?_
  refine x_get B (pc := 2) (v := .int (S 1 j)) xcl_L 0 (j + 1) 1 rfl (lk_get hj) (by decide) tm86 rfl rfl dX1_startAgain_2 ?_
  refine x_put B (pc := 5) xcl_L 0 (j + 1) 3 [lkW D ad (xup S 3 j (S 1 j))] rfl (lk_get hj) (by decide) tm89 rfl rfl rfl rfl rfl (Nat.le_of_ble_eq_true rfl) (lk_set3 hj) rfl dX1_startAgain_5 ?_
  refine x_aload_n B (pc := 8) 0 dX1_startAgain_8 rfl rfl ?_
  refine x_aload_n B (pc := 9) 0 dX1_startAgain_9 rfl rfl ?_
  refine x_get B (pc := 10) (v := .int (S 1 j)) xcl_L 0 (j + 1) 1 rfl (lk_get hj) (by decide) tm86 rfl rfl dX1_startAgain_10 ?_
  refine x_put B (pc := 13) xcl_L 0 (j + 1) 2 [lkW D ad (xup (xup S 3 j (S 1 j)) 2 j (S 1 j))] rfl (lk_get hj) (by decide) tm87 rfl rfl rfl rfl rfl (Nat.le_of_ble_eq_true rfl) (lk_set2 hj) rfl dX1_startAgain_13 ?_
  exact x_vret F (pc := 16) rfl dX1_startAgain_16 (⟨rfl, rfl⟩) (Nat.le_of_ble_eq_true rfl) (Nat.le_of_ble_eq_true rfl)
