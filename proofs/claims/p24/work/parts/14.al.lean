set_option maxRecDepth 100000 in
set_option maxHeartbeats 4000000 in
theorem c_Jxa1e45_init_da8c8 {l : Launch} (hl : l.stackTraces = false) (D : va_G) (e0 : Nat) {a : Nat}  : xC l yJxa1e45_init_da8c8 (.code yJxa1e45_init_da8c8 cJxa1e45_init_da8c8 1 none) ({ frames := 1, cells := 0, slots := 0, locals := 12 } : Room) D e0 [.ref a] [] (fun v cs => v = none ∧ cs = []) (fun _ => False) := by
  refine xC_of hl (by decide +kernel) (Nat.le_of_ble_eq_true rfl) (fun G X F => ?_)
  have B : xB l D e0 "java/util/AbstractCollection" cJxa1e45_init_da8c8 1 none [] _ G X := F.base
  show G 0 [(0, .ref a)] [] [] 0 0
  refine x_aload_n B (pc := 0) 0 dJxa1e45_init_da8c8_0 rfl rfl ?_
  refine x_objInit B (pc := 1) tm41 tm26 tm27 (Nat.le_of_ble_eq_true rfl) (Nat.le_of_ble_eq_true rfl) dJxa1e45_init_da8c8_1 ?_
  exact x_vret F (pc := 4) rfl dJxa1e45_init_da8c8_4 (⟨rfl, rfl⟩) (Nat.le_of_ble_eq_true rfl) (Nat.le_of_ble_eq_true rfl)

set_option maxRecDepth 100000 in
set_option maxHeartbeats 4000000 in
theorem c_Jxc12de_init_da8c8 {l : Launch} (hl : l.stackTraces = false) (D : va_G) (e0 : Nat) {a : Nat}  : xC l yJxc12de_init_da8c8 (.code yJxc12de_init_da8c8 cJxc12de_init_da8c8 1 none) ({ frames := 2, cells := 0, slots := 0, locals := 32 } : Room) D e0 [.ref a] [[(a, .inr (0, [.int 0, .null, .int 0]))]] (fun v cs => v = none ∧ cs = [[(a, .inr (0, [.int 0, .null, .int 0]))]]) (fun _ => False) := by
  refine xC_of hl (by decide +kernel) (Nat.le_of_ble_eq_true rfl) (fun G X F => ?_)
  have B : xB l D e0 "java/util/AbstractList" cJxc12de_init_da8c8 1 none [] _ G X := F.base
  show G 0 [(0, .ref a)] [] [[(a, .inr (0, [.int 0, .null, .int 0]))]] 0 0
  refine x_aload_n B (pc := 0) 0 dJxc12de_init_da8c8_0 rfl rfl ?_
  refine x_callI B (pc := 1) (As := []) (c_Jxa1e45_init_da8c8 hl D e0 ) rfl tm38 tm39 tm2 tm40 md_Jxa1e45_init_da8c8 ⟨Nat.le_of_ble_eq_true rfl, Nat.le_of_ble_eq_true rfl⟩ [] rfl rfl rfl (Nat.le_of_ble_eq_true rfl) (Nat.le_of_ble_eq_true rfl) (Nat.le_of_ble_eq_true rfl) dJxc12de_init_da8c8_1 (fun E hE => False.elim hE) (fun v cs1 hp => ?_)
  obtain ⟨rfl, rfl⟩ := hp
  show G 4 [(0, .ref a)] [] [[(a, .inr (0, [.int 0, .null, .int 0]))]] 0 0
  refine x_aload_n B (pc := 4) 0 dJxc12de_init_da8c8_4 rfl rfl ?_
  refine x_iconst B (pc := 5) 0 dJxc12de_init_da8c8_5 (by decide) ?_
  refine x_put B (pc := 6) xcl_A 0 0 0 [[(a, .inr (0, [.int 0, .null, .int 0]))]] rfl rfl (by decide) tm46 rfl rfl rfl rfl rfl (Nat.le_of_ble_eq_true rfl) rfl rfl dJxc12de_init_da8c8_6 ?_
  exact x_vret F (pc := 9) rfl dJxc12de_init_da8c8_9 (⟨rfl, rfl⟩) (Nat.le_of_ble_eq_true rfl) (Nat.le_of_ble_eq_true rfl)

set_option maxRecDepth 100000 in
set_option maxHeartbeats 4000000 in
theorem c_Jx4a65c_init_da8c8 {l : Launch} (hl : l.stackTraces = false) (D : va_G) (e0 : Nat) {a : Nat}  : xC l yJx4a65c_init_da8c8 (.code yJx4a65c_init_da8c8 cJx4a65c_init_da8c8 1 none) ({ frames := 3, cells := 0, slots := 0, locals := 52 } : Room) D e0 [.ref a] [[(a, .inr (0, [.int 0, .null, .int 0]))]] (fun v cs => v = none ∧ cs = [alW D e0 a (0, none) 0]) (fun _ => False) := by
  refine xC_of hl (by decide +kernel) (Nat.le_of_ble_eq_true rfl) (fun G X F => ?_)
  have B : xB l D e0 "java/util/ArrayList" cJx4a65c_init_da8c8 1 none [] _ G X := F.base
  show G 0 [(0, .ref a)] [] [[(a, .inr (0, [.int 0, .null, .int 0]))]] 0 0
  refine x_aload_n B (pc := 0) 0 dJx4a65c_init_da8c8_0 rfl rfl ?_
  refine x_callI B (pc := 1) (As := []) (c_Jxc12de_init_da8c8 hl D e0 ) rfl tm35 tm36 tm3 tm37 md_Jxc12de_init_da8c8 ⟨Nat.le_of_ble_eq_true rfl, Nat.le_of_ble_eq_true rfl⟩ [0] rfl rfl rfl (Nat.le_of_ble_eq_true rfl) (Nat.le_of_ble_eq_true rfl) (Nat.le_of_ble_eq_true rfl) dJx4a65c_init_da8c8_1 (fun E hE => False.elim hE) (fun v cs1 hp => ?_)
  obtain ⟨rfl, rfl⟩ := hp
  show G 4 [(0, .ref a)] [] [[(a, .inr (0, [.int 0, .null, .int 0]))]] 0 0
  refine x_aload_n B (pc := 4) 0 dJx4a65c_init_da8c8_4 rfl rfl ?_
  refine x_gets0 B (pc := 5) tm42 dJx4a65c_init_da8c8_5 ?_
  refine x_put B (pc := 8) xcl_A 0 0 1 [[(a, .inr (0, [.int 0, .ref e0, .int 0]))]] rfl rfl (by decide) tm44 rfl rfl rfl rfl rfl (Nat.le_of_ble_eq_true rfl) rfl rfl dJx4a65c_init_da8c8_8 ?_
  exact x_vret F (pc := 11) rfl dJx4a65c_init_da8c8_11 (⟨rfl, rfl⟩) (Nat.le_of_ble_eq_true rfl) (Nat.le_of_ble_eq_true rfl)

set_option maxRecDepth 100000 in
set_option maxHeartbeats 4000000 in
theorem c_Jx4a65c_size_8abf5 {l : Launch} (hl : l.stackTraces = false) (D : va_G) (e0 : Nat) {a n : Nat} {h : xAg}  : xC l yJx4a65c_size_8abf5 (.code yJx4a65c_size_8abf5 cJx4a65c_size_8abf5 1 (some .int)) ({ frames := 0, cells := 0, slots := 0, locals := 0 } : Room) D e0 [.ref a] [alW D e0 a h n] (fun v cs => v = some (.int (nI n)) ∧ cs = [alW D e0 a h n]) (fun _ => False) := by
  refine xC_of hl (by decide +kernel) (Nat.le_of_ble_eq_true rfl) (fun G X F => ?_)
  have B : xB l D e0 "java/util/ArrayList" cJx4a65c_size_8abf5 1 (some .int) [] _ G X := F.base
  show G 0 [(0, .ref a)] [] [alW D e0 a h n] 0 0
  obtain ⟨m, _ | ⟨q, c, f⟩⟩ := h
  · skip
    refine x_aload_n B (pc := 0) 0 dJx4a65c_size_8abf5_0 rfl rfl ?_
    refine x_get B (pc := 1) (v := .int (nI n)) xcl_A 0 0 2 rfl rfl (by decide) tm45 rfl rfl dJx4a65c_size_8abf5_1 ?_
    exact x_iret F (pc := 4) rfl dJx4a65c_size_8abf5_4 (⟨rfl, rfl⟩) (Nat.le_of_ble_eq_true rfl) (Nat.le_of_ble_eq_true rfl)
  · skip
    refine x_aload_n B (pc := 0) 0 dJx4a65c_size_8abf5_0 rfl rfl ?_
    refine x_get B (pc := 1) (v := .int (nI n)) xcl_A 0 0 2 rfl rfl (by decide) tm45 rfl rfl dJx4a65c_size_8abf5_1 ?_
    exact x_iret F (pc := 4) rfl dJx4a65c_size_8abf5_4 (⟨rfl, rfl⟩) (Nat.le_of_ble_eq_true rfl) (Nat.le_of_ble_eq_true rfl)

set_option maxRecDepth 100000 in
set_option maxHeartbeats 4000000 in
theorem c_J3_checkIndex_8e157 {l : Launch} (hl : l.stackTraces = false) (D : va_G) (e0 : Nat) {i n : Nat} (hi : i < n) (hn : n < 2 ^ 31) : xC l yJ3_checkIndex_8e157 (.code yJ3_checkIndex_8e157 cJ3_checkIndex_8e157 3 (some .int)) ({ frames := 0, cells := 0, slots := 0, locals := 0 } : Room) D e0 [.int (nI i), .int (nI n), .null] [] (fun v cs => v = some (.int (nI i)) ∧ cs = []) (fun _ => False) := by
  refine xC_of hl (by decide +kernel) (Nat.le_of_ble_eq_true rfl) (fun G X F => ?_)
  have B : xB l D e0 "jdk/internal/util/Preconditions" cJ3_checkIndex_8e157 3 (some .int) [] _ G X := F.base
  show G 0 [(0, .int (nI i)), (1, .int (nI n)), (2, .null)] [] [] 0 0
  refine x_iload_n B (pc := 0) 0 dJ3_checkIndex_8e157_0 rfl rfl ?_
  refine x_if_lt B (pc := 1) 9 dJ3_checkIndex_8e157_1 (by decide) (fun h1 => absurd h1 (nI_pos (by omega))) (fun h1 => ?_)
  refine x_iload_n B (pc := 4) 0 dJ3_checkIndex_8e157_4 rfl rfl ?_
  refine x_iload_n B (pc := 5) 1 dJ3_checkIndex_8e157_5 rfl rfl ?_
  refine x_icmp_lt B (pc := 6) 16 dJ3_checkIndex_8e157_6 (by decide) (fun h6 => ?_) (fun h6 => absurd (nI_lt hi hn) h6)
  refine x_iload_n B (pc := 16) 0 dJ3_checkIndex_8e157_16 rfl rfl ?_
  exact x_iret F (pc := 17) rfl dJ3_checkIndex_8e157_17 (⟨rfl, rfl⟩) (Nat.le_of_ble_eq_true rfl) (Nat.le_of_ble_eq_true rfl)

set_option maxRecDepth 100000 in
set_option maxHeartbeats 4000000 in
theorem c_J15_checkIndex_7cf53 {l : Launch} (hl : l.stackTraces = false) (D : va_G) (e0 : Nat) {i n : Nat} (hi : i < n) (hn : n < 2 ^ 31) : xC l yJ15_checkIndex_7cf53 (.code yJ15_checkIndex_7cf53 cJ15_checkIndex_7cf53 2 (some .int)) ({ frames := 1, cells := 0, slots := 0, locals := 22 } : Room) D e0 [.int (nI i), .int (nI n)] [] (fun v cs => v = some (.int (nI i)) ∧ cs = []) (fun _ => False) := by
  refine xC_of hl (by decide +kernel) (Nat.le_of_ble_eq_true rfl) (fun G X F => ?_)
  have B : xB l D e0 "java/util/Objects" cJ15_checkIndex_7cf53 2 (some .int) [] _ G X := F.base
  show G 0 [(0, .int (nI i)), (1, .int (nI n))] [] [] 0 0
  refine x_iload_n B (pc := 0) 0 dJ15_checkIndex_7cf53_0 rfl rfl ?_
  refine x_iload_n B (pc := 1) 1 dJ15_checkIndex_7cf53_1 rfl rfl ?_
  refine x_null B (pc := 2) dJ15_checkIndex_7cf53_2 ?_
  refine x_callS B (pc := 3) (As := [.int (nI i), .int (nI n), .null]) (c_J3_checkIndex_8e157 hl D e0 hi hn) tm156 tm157 tm19 tm158 md_J3_checkIndex_8e157 ⟨Nat.le_of_ble_eq_true rfl, Nat.le_of_ble_eq_true rfl⟩ [] rfl rfl rfl (Nat.le_of_ble_eq_true rfl) (Nat.le_of_ble_eq_true rfl) (Nat.le_of_ble_eq_true rfl) dJ15_checkIndex_7cf53_3 (fun E hE => False.elim hE) (fun v cs1 hp => ?_)
  obtain ⟨rfl, rfl⟩ := hp
  show G 6 [(0, .int (nI i)), (1, .int (nI n))] [.int (nI i)] [] 0 0
  exact x_iret F (pc := 6) rfl dJ15_checkIndex_7cf53_6 (⟨rfl, rfl⟩) (Nat.le_of_ble_eq_true rfl) (Nat.le_of_ble_eq_true rfl)

set_option maxRecDepth 100000 in
set_option maxHeartbeats 4000000 in
theorem c_Jx4a65c_elementData_915e3 {l : Launch} (hl : l.stackTraces = false) (D : va_G) (e0 : Nat) {a n q c : Nat} {m : Int32} {f : Nat → Option Nat} {i x : Nat} (hi : i < c) (hc : c ≤ 120) (hx : f i = some x) : xC l yJx4a65c_elementData_915e3 (.code yJx4a65c_elementData_915e3 cJx4a65c_elementData_915e3 2 (some (.object "java/lang/Object"))) ({ frames := 0, cells := 0, slots := 0, locals := 0 } : Room) D e0 [.ref a, .int (nI i)] [alW D e0 a (m, some (q, c, f)) n] (fun v cs => v = some (.ref x) ∧ cs = [alW D e0 a (m, some (q, c, f)) n]) (fun _ => False) := by
  refine xC_of hl (by decide +kernel) (Nat.le_of_ble_eq_true rfl) (fun G X F => ?_)
  have B : xB l D e0 "java/util/ArrayList" cJx4a65c_elementData_915e3 2 (some (.object "java/lang/Object")) [] _ G X := F.base
  show G 0 [(0, .ref a), (1, .int (nI i))] [] [alW D e0 a (m, some (q, c, f)) n] 0 0
  refine x_aload_n B (pc := 0) 0 dJx4a65c_elementData_915e3_0 rfl rfl ?_
  refine x_get B (pc := 1) xcl_A 0 0 1 rfl rfl (by decide) tm44 rfl rfl dJx4a65c_elementData_915e3_1 ?_
  refine x_iload_n B (pc := 4) 1 dJx4a65c_elementData_915e3_4 rfl rfl ?_
  refine x_oaldN B (pc := 5) i 0 1 hi (by omega) rfl rfl dJx4a65c_elementData_915e3_5 ?_
  rw [show f i = some x from hx]
  show G 6 [(0, .ref a), (1, .int (nI i))] [.ref x] [alW D e0 a (m, some (q, c, f)) n] 0 0
  exact x_aret F (pc := 6) rfl (Or.inl ⟨_, rfl⟩) dJx4a65c_elementData_915e3_6 (⟨rfl, rfl⟩) (Nat.le_of_ble_eq_true rfl) (Nat.le_of_ble_eq_true rfl)

set_option maxRecDepth 100000 in
set_option maxHeartbeats 4000000 in
theorem c_Jx4a65c_get_915e3 {l : Launch} (hl : l.stackTraces = false) (D : va_G) (e0 : Nat) {a n : Nat} {h : xAg} {w : Nat → Nat} {j : Nat} (hok : alOk h n w) (hj : j < n) : xC l yJx4a65c_get_915e3 (.code yJx4a65c_get_915e3 cJx4a65c_get_915e3 2 (some (.object "java/lang/Object"))) ({ frames := 2, cells := 0, slots := 0, locals := 43 } : Room) D e0 [.ref a, .int (nI j)] [alW D e0 a h n] (fun v cs => v = some (.ref (w j)) ∧ cs = [alW D e0 a h n]) (fun _ => False) := by
  refine xC_of hl (by decide +kernel) (Nat.le_of_ble_eq_true rfl) (fun G X F => ?_)
  have B : xB l D e0 "java/util/ArrayList" cJx4a65c_get_915e3 2 (some (.object "java/lang/Object")) [] _ G X := F.base
  show G 0 [(0, .ref a), (1, .int (nI j))] [] [alW D e0 a h n] 0 0
  obtain ⟨m, q, c, f, rfl, hnc, hc2, hcm, hf⟩ := al_some hok hj
  refine x_iload_n B (pc := 0) 1 dJx4a65c_get_915e3_0 rfl rfl ?_
  refine x_aload_n B (pc := 1) 0 dJx4a65c_get_915e3_1 rfl rfl ?_
  refine x_get B (pc := 2) (v := .int (nI n)) xcl_A 0 0 2 rfl rfl (by decide) tm45 rfl rfl dJx4a65c_get_915e3_2 ?_
  refine x_callS B (pc := 5) (As := [.int (nI j), .int (nI n)]) (c_J15_checkIndex_7cf53 hl D e0 hj (by omega)) tm153 tm154 tm18 tm155 md_J15_checkIndex_7cf53 ⟨Nat.le_of_ble_eq_true rfl, Nat.le_of_ble_eq_true rfl⟩ [] rfl rfl rfl (Nat.le_of_ble_eq_true rfl) (Nat.le_of_ble_eq_true rfl) (Nat.le_of_ble_eq_true rfl) dJx4a65c_get_915e3_5 (fun E hE => False.elim hE) (fun v cs1 hp => ?_)
  obtain ⟨rfl, rfl⟩ := hp
  show G 8 [(0, .ref a), (1, .int (nI j))] [.int (nI j)] [alW D e0 a (m, some (q, c, f)) n] 0 0
  refine x_pop B (pc := 8) dJx4a65c_get_915e3_8 rfl ?_
  refine x_aload_n B (pc := 9) 0 dJx4a65c_get_915e3_9 rfl rfl ?_
  refine x_iload_n B (pc := 10) 1 dJx4a65c_get_915e3_10 rfl rfl ?_
  refine x_callV B (pc := 11) (As := [.int (nI j)]) (c_Jx4a65c_elementData_915e3 hl D e0 (by omega) hcm (hf j hj)) xcl_A rfl 0 0 rfl rfl tm159 tm160 tm161 tm4 tm162 md_Jx4a65c_elementData_915e3 ⟨Nat.le_of_ble_eq_true rfl, Nat.le_of_ble_eq_true rfl⟩ [0] rfl rfl rfl (Nat.le_of_ble_eq_true rfl) (Nat.le_of_ble_eq_true rfl) (Nat.le_of_ble_eq_true rfl) dJx4a65c_get_915e3_11 (fun E hE => False.elim hE) (fun v cs1 hp => ?_)
  obtain ⟨rfl, rfl⟩ := hp
  show G 14 [(0, .ref a), (1, .int (nI j))] [.ref (w j)] [alW D e0 a (m, some (q, c, f)) n] 0 0
  exact x_aret F (pc := 14) rfl (Or.inl ⟨_, rfl⟩) dJx4a65c_get_915e3_14 (⟨rfl, rfl⟩) (Nat.le_of_ble_eq_true rfl) (Nat.le_of_ble_eq_true rfl)

set_option maxRecDepth 100000 in
set_option maxHeartbeats 4000000 in
theorem c_J8_newLength_cabcc {l : Launch} (hl : l.stackTraces = false) (D : va_G) (e0 : Nat) {c : Nat} (h2 : 2 ≤ c) (hc : c ≤ 120) : xC l yJ8_newLength_cabcc (.code yJ8_newLength_cabcc cJ8_newLength_cabcc 4 (some .int)) ({ frames := 1, cells := 0, slots := 0, locals := 14 } : Room) D e0 [.int (nI c), .int (nI 1), .int (nI (c / 2))] [] (fun v cs => v = some (.int (nI (c + c / 2))) ∧ cs = []) (fun _ => False) := by
  refine xC_of hl (by decide +kernel) (Nat.le_of_ble_eq_true rfl) (fun G X F => ?_)
  have B : xB l D e0 "jdk/internal/util/ArraysSupport" cJ8_newLength_cabcc 4 (some .int) [] _ G X := F.base
  show G 0 [(0, .int (nI c)), (1, .int (nI 1)), (2, .int (nI (c / 2)))] [] [] 0 0
  refine x_iload_n B (pc := 0) 0 dJ8_newLength_cabcc_0 rfl rfl ?_
  refine x_iload_n B (pc := 1) 1 dJ8_newLength_cabcc_1 rfl rfl ?_
  refine x_iload_n B (pc := 2) 2 dJ8_newLength_cabcc_2 rfl rfl ?_
  refine x_mmax B (pc := 3) tm391 tm392 tm13 tm393 (Nat.le_of_ble_eq_true rfl) (Nat.le_of_ble_eq_true rfl) (Nat.le_of_ble_eq_true rfl) (Nat.le_of_ble_eq_true rfl) dJ8_newLength_cabcc_3 ?_
  refine x_val B (y := nI (c / 2)) (nmax1 h2 (by omega)) ?_
  refine x_iadd B (pc := 6) dJ8_newLength_cabcc_6 ?_
  refine x_val B (y := nI (c + c / 2)) (nI_add _ _) ?_
  refine x_istore_n B (pc := 7) [(3, .int (nI (c + c / 2))), (0, .int (nI c)), (1, .int (nI 1)), (2, .int (nI (c / 2)))] dJ8_newLength_cabcc_7 rfl (by decide) rfl ?_
  refine x_iconst B (pc := 8) 0 dJ8_newLength_cabcc_8 (by decide) ?_
  refine x_iload_n B (pc := 9) 0 dJ8_newLength_cabcc_9 rfl rfl ?_
  refine x_icmp_ge B (pc := 10) 21 dJ8_newLength_cabcc_10 (by decide) (fun h10 => absurd h10 (show ¬ nI (c + c / 2) ≤ nI 0 from nI_nle (by omega) (by omega))) (fun h10 => ?_)
  refine x_iload_n B (pc := 13) 0 dJ8_newLength_cabcc_13 rfl rfl ?_
  refine x_ldc B (pc := 14) (v := 2147483639) tm394 dJ8_newLength_cabcc_14 ?_
  refine x_icmp_gt B (pc := 16) 21 dJ8_newLength_cabcc_16 (by decide) (fun h16 => absurd h16 (show ¬ nI 2147483639 < nI (c + c / 2) from nI_nlt (by omega) (by decide))) (fun h16 => ?_)
  refine x_iload_n B (pc := 19) 0 dJ8_newLength_cabcc_19 rfl rfl ?_
  exact x_iret F (pc := 20) rfl dJ8_newLength_cabcc_20 (⟨rfl, rfl⟩) (Nat.le_of_ble_eq_true rfl) (Nat.le_of_ble_eq_true rfl)

set_option maxRecDepth 100000 in
set_option maxHeartbeats 4000000 in
theorem c_J7_copyOf_6403c {l : Launch} (hl : l.stackTraces = false) (D : va_G) (e0 : Nat) {a n q c : Nat} {m : Int32} {f : Nat → Option Nat} {c2 : Nat} {da : Nat → Nat} {N : Nat} {S : xS} {om : Nat → Int32} (hcc : c ≤ c2) (hc2 : c2 ≤ 200) (hel : ∀ i, i < c → ∃ d9, d9 < N ∧ f i = some (da d9)) : xC l yJ7_copyOf_6403c (.code yJ7_copyOf_6403c cJ7_copyOf_6403c 4 (some (.array (.object "java/lang/Object")))) ({ frames := 1, cells := 1, slots := 200, locals := 30 } : Room) D e0 [.ref q, .int (nI c2), .ref (D.2 99 0)] [alW D e0 a (m, some (q, c, f)) n, dvW da N S om] (fun v cs => ∃ q1, v = some (.ref q1) ∧ cs = [alW D e0 a (m, some (q, c, f)) n, dvW da N S om, [(q1, .inl (D.1 14, c2, xqs (va_cpy f (fun _ => none) 0 0 c)))]]) (fun _ => False) := by
  refine xC_of hl (by decide +kernel) (Nat.le_of_ble_eq_true rfl) (fun G X F => ?_)
  have B : xB l D e0 "java/util/Arrays" cJ7_copyOf_6403c 4 (some (.array (.object "java/lang/Object"))) [] _ G X := F.base
  show G 0 [(0, .ref q), (1, .int (nI c2)), (2, .ref (D.2 99 0))] [] [alW D e0 a (m, some (q, c, f)) n, dvW da N S om] 0 0
  refine x_aload_n B (pc := 0) 2 dJ7_copyOf_6403c_0 rfl rfl ?_
  refine x_ldcM B (pc := 1) tm416 dJ7_copyOf_6403c_1 ?_
  refine x_acmp_ne B (pc := 3) 13 dJ7_copyOf_6403c_3 (by decide) (fun h3 => absurd rfl h3) (fun h3 => ?_)
  refine x_iload_n B (pc := 6) 1 dJ7_copyOf_6403c_6 rfl rfl ?_
  refine x_newO B (pc := 7) c2 tm418 (nI_pos (by omega)) (nI_clamp (by omega)) (by omega) (Nat.le_of_ble_eq_true rfl) (by show _ ≤ (200 : Nat); omega) dJ7_copyOf_6403c_7 (fun q1 => ?_)
  show G 10 [(0, .ref q), (1, .int (nI c2)), (2, .ref (D.2 99 0))] [.ref q1] [alW D e0 a (m, some (q, c, f)) n, dvW da N S om, [(q1, .inl (D.1 14, c2, xqs (fun _ => none)))]] 1 (0 + c2)
  refine x_goto B (pc := 10) 24 dJ7_copyOf_6403c_10 (by decide) ?_
  refine x_astore_n B (pc := 24) [(3, .ref q1), (0, .ref q), (1, .int (nI c2)), (2, .ref (D.2 99 0))] dJ7_copyOf_6403c_24 rfl (by decide) rfl ?_
  refine x_aload_n B (pc := 25) 1 dJ7_copyOf_6403c_25 rfl rfl ?_
  refine x_iconst B (pc := 26) 0 dJ7_copyOf_6403c_26 (by decide) ?_
  refine x_aload_n B (pc := 27) 0 dJ7_copyOf_6403c_27 rfl rfl ?_
  refine x_iconst B (pc := 28) 0 dJ7_copyOf_6403c_28 (by decide) ?_
  refine x_aload_n B (pc := 29) 1 dJ7_copyOf_6403c_29 rfl rfl ?_
  refine x_alen B (pc := 30) (v := nI c) 0 1 4 rfl rfl rfl rfl dJ7_copyOf_6403c_30 ?_
  refine x_iload_n B (pc := 31) 2 dJ7_copyOf_6403c_31 rfl rfl ?_
  refine x_mmin B (pc := 32) tm419 tm420 tm13 tm421 (Nat.le_of_ble_eq_true rfl) (Nat.le_of_ble_eq_true rfl) (Nat.le_of_ble_eq_true rfl) (by show _ ≤ (200 : Nat); omega) dJ7_copyOf_6403c_32 ?_
  refine x_val B (y := nI c) (if_neg (nI_nlt hcc (by omega))) ?_
  refine x_copy B (pc := 35) (f0 := f) (f1 := fun _ => none) 0 1 2 0 1 c [alW D e0 a (m, some (q, c, f)) n, dvW da N S om, [(q1, .inl (D.1 14, c2, xqs (va_cpy f (fun _ => none) 0 0 c)))]] rfl rfl rfl rfl rfl (Nat.le_refl _) hcc (by omega) (fun i hi y hy => ?_) rfl rfl tm422 tm424 tm423 tm17 (Nat.le_of_ble_eq_true rfl) (by decide +kernel) dJ7_copyOf_6403c_35 ?_
  · obtain ⟨d9, hd9, e9⟩ := hel i hi
    have e8 : da d9 = y := Option.some.inj (e9.symm.trans hy)
    subst e8
    exact ⟨d9, _, dv_get hd9⟩
  refine x_aload_n B (pc := 38) 0 dJ7_copyOf_6403c_38 rfl rfl ?_
  exact x_aret F (pc := 39) rfl (Or.inr ⟨_, rfl⟩) dJ7_copyOf_6403c_39 (⟨q1, rfl, rfl⟩) (Nat.le_of_ble_eq_true rfl) (by show _ ≤ (200 : Nat); omega)

set_option maxRecDepth 100000 in
set_option maxHeartbeats 4000000 in
theorem c_J7_copyOf_1904c {l : Launch} (hl : l.stackTraces = false) (D : va_G) (e0 : Nat) {a n q c : Nat} {m : Int32} {f : Nat → Option Nat} {c2 : Nat} {da : Nat → Nat} {N : Nat} {S : xS} {om : Nat → Int32} (hcc : c ≤ c2) (hc2 : c2 ≤ 200) (hel : ∀ i, i < c → ∃ d9, d9 < N ∧ f i = some (da d9)) : xC l yJ7_copyOf_1904c (.code yJ7_copyOf_1904c cJ7_copyOf_1904c 2 (some (.array (.object "java/lang/Object")))) ({ frames := 2, cells := 1, slots := 200, locals := 53 } : Room) D e0 [.ref q, .int (nI c2)] [alW D e0 a (m, some (q, c, f)) n, dvW da N S om] (fun v cs => ∃ q1, v = some (.ref q1) ∧ cs = [alW D e0 a (m, some (q, c, f)) n, dvW da N S om, [(q1, .inl (D.1 14, c2, xqs (va_cpy f (fun _ => none) 0 0 c)))]]) (fun _ => False) := by
  refine xC_of hl (by decide +kernel) (Nat.le_of_ble_eq_true rfl) (fun G X F => ?_)
  have B : xB l D e0 "java/util/Arrays" cJ7_copyOf_1904c 2 (some (.array (.object "java/lang/Object"))) [] _ G X := F.base
  show G 0 [(0, .ref q), (1, .int (nI c2))] [] [alW D e0 a (m, some (q, c, f)) n, dvW da N S om] 0 0
  refine x_aload_n B (pc := 0) 0 dJ7_copyOf_1904c_0 rfl rfl ?_
  refine x_iload_n B (pc := 1) 1 dJ7_copyOf_1904c_1 rfl rfl ?_
  refine x_aload_n B (pc := 2) 0 dJ7_copyOf_1904c_2 rfl rfl ?_
  refine x_getC B (pc := 3) 0 1 rfl rfl tm401 tm599 tm402 tm412 (Nat.le_of_ble_eq_true rfl) (Nat.le_of_ble_eq_true rfl) dJ7_copyOf_1904c_3 ?_
  refine x_callS B (pc := 6) (As := [.ref q, .int (nI c2), .ref (D.2 99 0)]) (c_J7_copyOf_6403c hl D e0 hcc hc2 hel) tm413 tm414 tm16 tm415 md_J7_copyOf_6403c ⟨Nat.le_of_ble_eq_true rfl, Nat.le_of_ble_eq_true rfl⟩ [0, 1] rfl rfl rfl (Nat.le_of_ble_eq_true rfl) (Nat.le_of_ble_eq_true rfl) (Nat.le_of_ble_eq_true rfl) dJ7_copyOf_1904c_6 (fun E hE => False.elim hE) (fun v cs1 hp => ?_)
  obtain ⟨q1, rfl, rfl⟩ := hp
  show G 9 [(0, .ref q), (1, .int (nI c2))] [.ref q1] [alW D e0 a (m, some (q, c, f)) n, dvW da N S om, [(q1, .inl (D.1 14, c2, xqs (va_cpy f (fun _ => none) 0 0 c)))]] 1 200
  exact x_aret F (pc := 9) rfl (Or.inr ⟨_, rfl⟩) dJ7_copyOf_1904c_9 (⟨q1, rfl, rfl⟩) (Nat.le_of_ble_eq_true rfl) (Nat.le_of_ble_eq_true rfl)

set_option maxRecDepth 100000 in
set_option maxHeartbeats 4000000 in
theorem c_grow2e {l : Launch} (hl : l.stackTraces = false) (D : va_G) (e0 : Nat) {a : Nat} {m : Int32} {da : Nat → Nat} {N : Nat} {S : xS} {om : Nat → Int32}  : xC l yJx4a65c_grow_92f84 (.code yJx4a65c_grow_92f84 cJx4a65c_grow_92f84 4 (some (.array (.object "java/lang/Object")))) ({ frames := 1, cells := 1, slots := 10, locals := 14 } : Room) D e0 [.ref a, .int (nI 1)] [alW D e0 a (m, none) 0, dvW da N S om] (fun v cs => ∃ q1, v = some (.ref q1) ∧ cs = [alW D e0 a (m, some (q1, 10, fun _ => none)) 0, dvW da N S om]) (fun _ => False) := by
  refine xC_of hl (by decide +kernel) (Nat.le_of_ble_eq_true rfl) (fun G X F => ?_)
  have B : xB l D e0 "java/util/ArrayList" cJx4a65c_grow_92f84 4 (some (.array (.object "java/lang/Object"))) [] _ G X := F.base
  show G 0 [(0, .ref a), (1, .int (nI 1))] [] [alW D e0 a (m, none) 0, dvW da N S om] 0 0
  refine x_aload_n B (pc := 0) 0 dJx4a65c_grow_92f84_0 rfl rfl ?_
  refine x_get B (pc := 1) xcl_A 0 0 1 rfl rfl (by decide) tm44 rfl rfl dJx4a65c_grow_92f84_1 ?_
  refine x_len0 B (pc := 4) dJx4a65c_grow_92f84_4 ?_
  refine x_istore_n B (pc := 5) [(2, .int 0), (0, .ref a), (1, .int (nI 1))] dJx4a65c_grow_92f84_5 rfl (by decide) rfl ?_
  refine x_iload_n B (pc := 6) 0 dJx4a65c_grow_92f84_6 rfl rfl ?_
  refine x_if_gt B (pc := 7) 20 dJx4a65c_grow_92f84_7 (by decide) (fun h7 => absurd h7 (by decide)) (fun h7 => ?_)
  refine x_aload_n B (pc := 10) 1 dJx4a65c_grow_92f84_10 rfl rfl ?_
  refine x_get B (pc := 11) xcl_A 0 0 1 rfl rfl (by decide) tm44 rfl rfl dJx4a65c_grow_92f84_11 ?_
  refine x_gets0 B (pc := 14) tm42 dJx4a65c_grow_92f84_14 ?_
  refine x_acmp_eq B (pc := 17) 45 dJx4a65c_grow_92f84_17 (by decide) (fun h17 => ?_) (fun h17 => absurd rfl h17)
  refine x_aload_n B (pc := 45) 1 dJx4a65c_grow_92f84_45 rfl rfl ?_
  refine x_bipush B (pc := 46) 10 dJx4a65c_grow_92f84_46 (by decide) ?_
  refine x_iload_n B (pc := 48) 2 dJx4a65c_grow_92f84_48 rfl rfl ?_
  refine x_mmax B (pc := 49) tm425 tm392 tm13 tm393 (Nat.le_of_ble_eq_true rfl) (Nat.le_of_ble_eq_true rfl) (Nat.le_of_ble_eq_true rfl) (Nat.le_of_ble_eq_true rfl) dJx4a65c_grow_92f84_49 ?_
  refine x_val B (y := 10) (by decide) ?_
  refine x_newO B (pc := 52) 10 tm426 (by decide) (by decide) (by decide) (Nat.le_of_ble_eq_true rfl) (Nat.le_of_ble_eq_true rfl) dJx4a65c_grow_92f84_52 (fun q1 => ?_)
  show G 55 [(2, .int 0), (0, .ref a), (1, .int (nI 1))] [.ref q1, .ref a] [alW D e0 a (m, none) 0, dvW da N S om, [(q1, .inl (D.1 14, 10, xqs (fun _ => none)))]] 1 10
  refine x_dup_x1 B (pc := 55) dJx4a65c_grow_92f84_55 rfl rfl ?_
  refine x_put B (pc := 56) xcl_A 0 0 1 [[(a, .inr (0, [.int m, .ref q1, .int (nI 0)]))], dvW da N S om, [(q1, .inl (D.1 14, 10, xqs (fun _ => none)))]] rfl rfl (by decide) tm44 rfl rfl rfl rfl rfl (Nat.le_of_ble_eq_true rfl) rfl rfl dJx4a65c_grow_92f84_56 ?_
  refine x_drop B [0, 2, 1] [[(a, .inr (0, [.int m, .ref q1, .int (nI 0)]))], [(q1, .inl (D.1 14, 10, xqs (fun _ => none)))], dvW da N S om] rfl rfl ?_
  refine x_flat B (cs1 := [alW D e0 a (m, some (q1, 10, fun _ => none)) 0, dvW da N S om]) rfl ?_
  exact x_aret F (pc := 59) rfl (Or.inr ⟨_, rfl⟩) dJx4a65c_grow_92f84_59 (⟨q1, rfl, rfl⟩) (Nat.le_of_ble_eq_true rfl) (Nat.le_of_ble_eq_true rfl)

set_option maxRecDepth 100000 in
set_option maxHeartbeats 4000000 in
theorem c_grow2f {l : Launch} (hl : l.stackTraces = false) (D : va_G) (e0 : Nat) {a n q c : Nat} {m : Int32} {f : Nat → Option Nat} {da : Nat → Nat} {N : Nat} {S : xS} {om : Nat → Int32} (h2 : 2 ≤ c) (hc : c ≤ 120) (hel : ∀ i, i < c → ∃ d9, d9 < N ∧ f i = some (da d9)) : xC l yJx4a65c_grow_92f84 (.code yJx4a65c_grow_92f84 cJx4a65c_grow_92f84 4 (some (.array (.object "java/lang/Object")))) ({ frames := 3, cells := 1, slots := 200, locals := 74 } : Room) D e0 [.ref a, .int (nI (c + 1))] [alW D e0 a (m, some (q, c, f)) n, dvW da N S om] (fun v cs => ∃ q1, v = some (.ref q1) ∧ cs = [alW D e0 a (m, some (q1, c + c / 2, va_cpy f (fun _ => none) 0 0 c)) n, dvW da N S om]) (fun _ => False) := by
  refine xC_of hl (by decide +kernel) (Nat.le_of_ble_eq_true rfl) (fun G X F => ?_)
  have B : xB l D e0 "java/util/ArrayList" cJx4a65c_grow_92f84 4 (some (.array (.object "java/lang/Object"))) [] _ G X := F.base
  show G 0 [(0, .ref a), (1, .int (nI (c + 1)))] [] [alW D e0 a (m, some (q, c, f)) n, dvW da N S om] 0 0
  refine x_aload_n B (pc := 0) 0 dJx4a65c_grow_92f84_0 rfl rfl ?_
  refine x_get B (pc := 1) xcl_A 0 0 1 rfl rfl (by decide) tm44 rfl rfl dJx4a65c_grow_92f84_1 ?_
  refine x_alen B (pc := 4) (v := nI c) 0 1 4 rfl rfl rfl rfl dJx4a65c_grow_92f84_4 ?_
  refine x_istore_n B (pc := 5) [(2, .int (nI c)), (0, .ref a), (1, .int (nI (c + 1)))] dJx4a65c_grow_92f84_5 rfl (by decide) rfl ?_
  refine x_iload_n B (pc := 6) 0 dJx4a65c_grow_92f84_6 rfl rfl ?_
  refine x_if_gt B (pc := 7) 20 dJx4a65c_grow_92f84_7 (by decide) (fun h7 => ?_) (fun h7 => absurd (show nI 0 < nI c from nI_lt (by omega) (by omega)) h7)
  refine x_iload_n B (pc := 20) 0 dJx4a65c_grow_92f84_20 rfl rfl ?_
  refine x_iload_n B (pc := 21) 2 dJx4a65c_grow_92f84_21 rfl rfl ?_
  refine x_iload_n B (pc := 22) 0 dJx4a65c_grow_92f84_22 rfl rfl ?_
  refine x_isub B (pc := 23) dJx4a65c_grow_92f84_23 ?_
  refine x_val B (y := nI 1) (by rw [nsub (by omega), Nat.add_sub_cancel_left]) ?_
  refine x_iload_n B (pc := 24) 0 dJx4a65c_grow_92f84_24 rfl rfl ?_
  refine x_iconst B (pc := 25) 1 dJx4a65c_grow_92f84_25 (by decide) ?_
  refine x_ishr B (pc := 26) dJx4a65c_grow_92f84_26 ?_
  refine x_val B (y := nI (c / 2)) (nshr1 (by omega)) ?_
  refine x_callS B (pc := 27) (As := [.int (nI c), .int (nI 1), .int (nI (c / 2))]) (c_J8_newLength_cabcc hl D e0 h2 hc) tm388 tm389 tm15 tm390 md_J8_newLength_cabcc ⟨Nat.le_of_ble_eq_true rfl, Nat.le_of_ble_eq_true rfl⟩ [] rfl rfl rfl (Nat.le_of_ble_eq_true rfl) (Nat.le_of_ble_eq_true rfl) (Nat.le_of_ble_eq_true rfl) dJx4a65c_grow_92f84_27 (fun E hE => False.elim hE) (fun v cs1 hp => ?_)
  obtain ⟨rfl, rfl⟩ := hp
  show G 30 [(2, .int (nI c)), (0, .ref a), (1, .int (nI (c + 1)))] [.int (nI (c + c / 2))] [alW D e0 a (m, some (q, c, f)) n, dvW da N S om] 0 0
  refine x_istore_n B (pc := 30) [(3, .int (nI (c + c / 2))), (2, .int (nI c)), (0, .ref a), (1, .int (nI (c + 1)))] dJx4a65c_grow_92f84_30 rfl (by decide) rfl ?_
  refine x_aload_n B (pc := 31) 2 dJx4a65c_grow_92f84_31 rfl rfl ?_
  refine x_aload_n B (pc := 32) 2 dJx4a65c_grow_92f84_32 rfl rfl ?_
  refine x_get B (pc := 33) xcl_A 0 0 1 rfl rfl (by decide) tm44 rfl rfl dJx4a65c_grow_92f84_33 ?_
  refine x_iload_n B (pc := 36) 0 dJx4a65c_grow_92f84_36 rfl rfl ?_
  refine x_callS B (pc := 37) (As := [.ref q, .int (nI (c + c / 2))]) (c_J7_copyOf_1904c hl D e0 (by omega) (by omega) hel) tm398 tm399 tm16 tm400 md_J7_copyOf_1904c ⟨Nat.le_of_ble_eq_true rfl, Nat.le_of_ble_eq_true rfl⟩ [0, 1] rfl rfl rfl (Nat.le_of_ble_eq_true rfl) (Nat.le_of_ble_eq_true rfl) (Nat.le_of_ble_eq_true rfl) dJx4a65c_grow_92f84_37 (fun E hE => False.elim hE) (fun v cs1 hp => ?_)
  obtain ⟨q1, rfl, rfl⟩ := hp
  show G 40 [(3, .int (nI (c + c / 2))), (2, .int (nI c)), (0, .ref a), (1, .int (nI (c + 1)))] [.ref q1, .ref a] [alW D e0 a (m, some (q, c, f)) n, dvW da N S om, [(q1, .inl (D.1 14, c + c / 2, xqs (va_cpy f (fun _ => none) 0 0 c)))]] 1 200
  refine x_dup_x1 B (pc := 40) dJx4a65c_grow_92f84_40 rfl rfl ?_
  refine x_put B (pc := 41) xcl_A 0 0 1 [[(a, .inr (0, [.int m, .ref q1, .int (nI n)])), (q, .inl (D.1 14, c, xqs f))], dvW da N S om, [(q1, .inl (D.1 14, c + c / 2, xqs (va_cpy f (fun _ => none) 0 0 c)))]] rfl rfl (by decide) tm44 rfl rfl rfl rfl rfl (Nat.le_of_ble_eq_true rfl) rfl rfl dJx4a65c_grow_92f84_41 ?_
  refine x_flat B (cs1 := [[(a, .inr (0, [.int m, .ref q1, .int (nI n)]))], [(q, .inl (D.1 14, c, xqs f))], dvW da N S om, [(q1, .inl (D.1 14, c + c / 2, xqs (va_cpy f (fun _ => none) 0 0 c)))]]) rfl ?_
  refine x_drop B [0, 3, 2] [[(a, .inr (0, [.int m, .ref q1, .int (nI n)]))], [(q1, .inl (D.1 14, c + c / 2, xqs (va_cpy f (fun _ => none) 0 0 c)))], dvW da N S om] rfl rfl ?_
  refine x_flat B (cs1 := [alW D e0 a (m, some (q1, c + c / 2, va_cpy f (fun _ => none) 0 0 c)) n, dvW da N S om]) rfl ?_
  exact x_aret F (pc := 44) rfl (Or.inr ⟨_, rfl⟩) dJx4a65c_grow_92f84_44 (⟨q1, rfl, rfl⟩) (Nat.le_of_ble_eq_true rfl) (Nat.le_of_ble_eq_true rfl)

set_option maxRecDepth 100000 in
set_option maxHeartbeats 4000000 in
theorem c_grow1e {l : Launch} (hl : l.stackTraces = false) (D : va_G) (e0 : Nat) {a : Nat} {m : Int32} {da : Nat → Nat} {N : Nat} {S : xS} {om : Nat → Int32}  : xC l yJx4a65c_grow_d5877 (.code yJx4a65c_grow_d5877 cJx4a65c_grow_d5877 1 (some (.array (.object "java/lang/Object")))) ({ frames := 2, cells := 1, slots := 10, locals := 37 } : Room) D e0 [.ref a] [alW D e0 a (m, none) 0, dvW da N S om] (fun v cs => ∃ q1, v = some (.ref q1) ∧ cs = [alW D e0 a (m, some (q1, 10, fun _ => none)) 0, dvW da N S om]) (fun _ => False) := by
  refine xC_of hl (by decide +kernel) (Nat.le_of_ble_eq_true rfl) (fun G X F => ?_)
  have B : xB l D e0 "java/util/ArrayList" cJx4a65c_grow_d5877 1 (some (.array (.object "java/lang/Object"))) [] _ G X := F.base
  show G 0 [(0, .ref a)] [] [alW D e0 a (m, none) 0, dvW da N S om] 0 0
  refine x_aload_n B (pc := 0) 0 dJx4a65c_grow_d5877_0 rfl rfl ?_
  refine x_aload_n B (pc := 1) 0 dJx4a65c_grow_d5877_1 rfl rfl ?_
  refine x_get B (pc := 2) (v := .int (nI 0)) xcl_A 0 0 2 rfl rfl (by decide) tm45 rfl rfl dJx4a65c_grow_d5877_2 ?_
  refine x_iconst B (pc := 5) 1 dJx4a65c_grow_d5877_5 (by decide) ?_
  refine x_iadd B (pc := 6) dJx4a65c_grow_d5877_6 ?_
  refine x_val B (y := nI 1) (nI_1 0) ?_
  refine x_callV B (pc := 7) (As := [.int (nI 1)]) (c_grow2e hl D e0 ) xcl_A rfl 0 0 rfl rfl tm384 tm386 ts5 tm4 tm387 md_Jx4a65c_grow_92f84 ⟨Nat.le_of_ble_eq_true rfl, Nat.le_of_ble_eq_true rfl⟩ [0, 1] rfl rfl rfl (Nat.le_of_ble_eq_true rfl) (Nat.le_of_ble_eq_true rfl) (Nat.le_of_ble_eq_true rfl) dJx4a65c_grow_d5877_7 (fun E hE => False.elim hE) (fun v cs1 hp => ?_)
  obtain ⟨q1, rfl, rfl⟩ := hp
  show G 10 [(0, .ref a)] [.ref q1] [alW D e0 a (m, some (q1, 10, fun _ => none)) 0, dvW da N S om] 1 10
  exact x_aret F (pc := 10) rfl (Or.inr ⟨_, rfl⟩) dJx4a65c_grow_d5877_10 (⟨q1, rfl, rfl⟩) (Nat.le_of_ble_eq_true rfl) (Nat.le_of_ble_eq_true rfl)

set_option maxRecDepth 100000 in
set_option maxHeartbeats 4000000 in
theorem c_grow1f {l : Launch} (hl : l.stackTraces = false) (D : va_G) (e0 : Nat) {a n q c : Nat} {m : Int32} {f : Nat → Option Nat} {da : Nat → Nat} {N : Nat} {S : xS} {om : Nat → Int32} (hnc : n = c) (h2 : 2 ≤ c) (hc : c ≤ 120) (hel : ∀ i, i < c → ∃ d9, d9 < N ∧ f i = some (da d9)) : xC l yJx4a65c_grow_d5877 (.code yJx4a65c_grow_d5877 cJx4a65c_grow_d5877 1 (some (.array (.object "java/lang/Object")))) ({ frames := 4, cells := 1, slots := 200, locals := 97 } : Room) D e0 [.ref a] [alW D e0 a (m, some (q, c, f)) n, dvW da N S om] (fun v cs => ∃ q1, v = some (.ref q1) ∧ cs = [alW D e0 a (m, some (q1, c + c / 2, va_cpy f (fun _ => none) 0 0 c)) n, dvW da N S om]) (fun _ => False) := by
  refine xC_of hl (by decide +kernel) (Nat.le_of_ble_eq_true rfl) (fun G X F => ?_)
  have B : xB l D e0 "java/util/ArrayList" cJx4a65c_grow_d5877 1 (some (.array (.object "java/lang/Object"))) [] _ G X := F.base
  show G 0 [(0, .ref a)] [] [alW D e0 a (m, some (q, c, f)) n, dvW da N S om] 0 0
  refine x_aload_n B (pc := 0) 0 dJx4a65c_grow_d5877_0 rfl rfl ?_
  refine x_aload_n B (pc := 1) 0 dJx4a65c_grow_d5877_1 rfl rfl ?_
  refine x_get B (pc := 2) (v := .int (nI n)) xcl_A 0 0 2 rfl rfl (by decide) tm45 rfl rfl dJx4a65c_grow_d5877_2 ?_
  refine x_iconst B (pc := 5) 1 dJx4a65c_grow_d5877_5 (by decide) ?_
  refine x_iadd B (pc := 6) dJx4a65c_grow_d5877_6 ?_
  refine x_val B (y := nI (c + 1)) (by rw [hnc]; exact nI_1 c) ?_
  refine x_callV B (pc := 7) (As := [.int (nI (c + 1))]) (c_grow2f hl D e0 h2 hc hel) xcl_A rfl 0 0 rfl rfl tm384 tm386 ts5 tm4 tm387 md_Jx4a65c_grow_92f84 ⟨Nat.le_of_ble_eq_true rfl, Nat.le_of_ble_eq_true rfl⟩ [0, 1] rfl rfl rfl (Nat.le_of_ble_eq_true rfl) (Nat.le_of_ble_eq_true rfl) (Nat.le_of_ble_eq_true rfl) dJx4a65c_grow_d5877_7 (fun E hE => False.elim hE) (fun v cs1 hp => ?_)
  obtain ⟨q1, rfl, rfl⟩ := hp
  show G 10 [(0, .ref a)] [.ref q1] [alW D e0 a (m, some (q1, c + c / 2, va_cpy f (fun _ => none) 0 0 c)) n, dvW da N S om] 1 200
  exact x_aret F (pc := 10) rfl (Or.inr ⟨_, rfl⟩) dJx4a65c_grow_d5877_10 (⟨q1, rfl, rfl⟩) (Nat.le_of_ble_eq_true rfl) (Nat.le_of_ble_eq_true rfl)

set_option maxRecDepth 100000 in
set_option maxHeartbeats 4000000 in
theorem c_add3r {l : Launch} (hl : l.stackTraces = false) (D : va_G) (e0 : Nat) {a n q c : Nat} {m : Int32} {f : Nat → Option Nat} {da : Nat → Nat} {N : Nat} {S : xS} {om : Nat → Int32} {d : Nat} (hd : d < N) (hnc : n < c) (hc : c ≤ 120) : xC l yJx4a65c_add_72be8 (.code yJx4a65c_add_72be8 cJx4a65c_add_72be8 4 none) ({ frames := 0, cells := 0, slots := 0, locals := 0 } : Room) D e0 [.ref a, .ref (da d), .ref q, .int (nI n)] [alW D e0 a (m, some (q, c, f)) n, dvW da N S om] (fun v cs => v = none ∧ cs = [alW D e0 a (m, some (q, c, va_up f n (some (da d)))) (n + 1), dvW da N S om]) (fun _ => False) := by
  refine xC_of hl (by decide +kernel) (Nat.le_of_ble_eq_true rfl) (fun G X F => ?_)
  have B : xB l D e0 "java/util/ArrayList" cJx4a65c_add_72be8 4 none [] _ G X := F.base
  show G 0 [(0, .ref a), (1, .ref (da d)), (2, .ref q), (3, .int (nI n))] [] [alW D e0 a (m, some (q, c, f)) n, dvW da N S om] 0 0
  refine x_iload_n B (pc := 0) 3 dJx4a65c_add_72be8_0 rfl rfl ?_
  refine x_aload_n B (pc := 1) 2 dJx4a65c_add_72be8_1 rfl rfl ?_
  refine x_alen B (pc := 2) (v := nI c) 0 1 4 rfl rfl rfl rfl dJx4a65c_add_72be8_2 ?_
  refine x_icmp_ne B (pc := 3) 11 dJx4a65c_add_72be8_3 (by decide) (fun h3 => ?_) (fun h3 => absurd h3 (fun e => Nat.ne_of_lt hnc ((nI_eq (by omega) (by omega)).mp e)))
  refine x_aload_n B (pc := 11) 2 dJx4a65c_add_72be8_11 rfl rfl ?_
  refine x_iload_n B (pc := 12) 3 dJx4a65c_add_72be8_12 rfl rfl ?_
  refine x_aload_n B (pc := 13) 1 dJx4a65c_add_72be8_13 rfl rfl ?_
  refine x_oastN B (pc := 14) n 0 1 1 d [alW D e0 a (m, some (q, c, va_up f n (some (da d)))) n, dvW da N S om] (by omega) (by omega) rfl rfl rfl (dv_get hd) rfl rfl dJx4a65c_add_72be8_14 ?_
  refine x_aload_n B (pc := 15) 0 dJx4a65c_add_72be8_15 rfl rfl ?_
  refine x_iload_n B (pc := 16) 3 dJx4a65c_add_72be8_16 rfl rfl ?_
  refine x_iconst B (pc := 17) 1 dJx4a65c_add_72be8_17 (by decide) ?_
  refine x_iadd B (pc := 18) dJx4a65c_add_72be8_18 ?_
  refine x_val B (y := nI (n + 1)) (nI_1 n) ?_
  refine x_put B (pc := 19) xcl_A 0 0 2 [alW D e0 a (m, some (q, c, va_up f n (some (da d)))) (n + 1), dvW da N S om] rfl rfl (by decide) tm45 rfl rfl rfl rfl rfl (Nat.le_of_ble_eq_true rfl) rfl rfl dJx4a65c_add_72be8_19 ?_
  exact x_vret F (pc := 22) rfl dJx4a65c_add_72be8_22 (⟨rfl, rfl⟩) (Nat.le_of_ble_eq_true rfl) (Nat.le_of_ble_eq_true rfl)

set_option maxRecDepth 100000 in
set_option maxHeartbeats 4000000 in
theorem c_add3e {l : Launch} (hl : l.stackTraces = false) (D : va_G) (e0 : Nat) {a : Nat} {m : Int32} {da : Nat → Nat} {N : Nat} {S : xS} {om : Nat → Int32} {d : Nat} (hd : d < N) : xC l yJx4a65c_add_72be8 (.code yJx4a65c_add_72be8 cJx4a65c_add_72be8 4 none) ({ frames := 3, cells := 1, slots := 10, locals := 57 } : Room) D e0 [.ref a, .ref (da d), .ref e0, .int (nI 0)] [alW D e0 a (m, none) 0, dvW da N S om] (fun v cs => v = none ∧ ∃ q1, cs = [alW D e0 a (m, some (q1, 10, va_up (fun _ => none) 0 (some (da d)))) 1, dvW da N S om]) (fun _ => False) := by
  refine xC_of hl (by decide +kernel) (Nat.le_of_ble_eq_true rfl) (fun G X F => ?_)
  have B : xB l D e0 "java/util/ArrayList" cJx4a65c_add_72be8 4 none [] _ G X := F.base
  show G 0 [(0, .ref a), (1, .ref (da d)), (2, .ref e0), (3, .int (nI 0))] [] [alW D e0 a (m, none) 0, dvW da N S om] 0 0
  refine x_iload_n B (pc := 0) 3 dJx4a65c_add_72be8_0 rfl rfl ?_
  refine x_aload_n B (pc := 1) 2 dJx4a65c_add_72be8_1 rfl rfl ?_
  refine x_len0 B (pc := 2) dJx4a65c_add_72be8_2 ?_
  refine x_icmp_ne B (pc := 3) 11 dJx4a65c_add_72be8_3 (by decide) (fun h3 => absurd rfl h3) (fun h3 => ?_)
  refine x_aload_n B (pc := 6) 0 dJx4a65c_add_72be8_6 rfl rfl ?_
  refine x_callV B (pc := 7) (As := []) (c_grow1e hl D e0 ) xcl_A rfl 0 0 rfl rfl tm380 tm382 ts4 tm4 tm383 md_Jx4a65c_grow_d5877 ⟨Nat.le_of_ble_eq_true rfl, Nat.le_of_ble_eq_true rfl⟩ [0, 1] rfl rfl rfl (Nat.le_of_ble_eq_true rfl) (Nat.le_of_ble_eq_true rfl) (Nat.le_of_ble_eq_true rfl) dJx4a65c_add_72be8_7 (fun E hE => False.elim hE) (fun v cs1 hp => ?_)
  obtain ⟨q1, rfl, rfl⟩ := hp
  show G 10 [(0, .ref a), (1, .ref (da d)), (2, .ref e0), (3, .int (nI 0))] [.ref q1] [alW D e0 a (m, some (q1, 10, fun _ => none)) 0, dvW da N S om] 1 10
  refine x_astore_n B (pc := 10) [(2, .ref q1), (0, .ref a), (1, .ref (da d)), (3, .int (nI 0))] dJx4a65c_add_72be8_10 rfl (by decide) rfl ?_
  refine x_aload_n B (pc := 11) 0 dJx4a65c_add_72be8_11 rfl rfl ?_
  refine x_iload_n B (pc := 12) 3 dJx4a65c_add_72be8_12 rfl rfl ?_
  refine x_aload_n B (pc := 13) 2 dJx4a65c_add_72be8_13 rfl rfl ?_
  refine x_oastN B (pc := 14) 0 0 1 1 d [alW D e0 a (m, some (q1, 10, va_up (fun _ => none) 0 (some (da d)))) 0, dvW da N S om] (by decide) (by decide) rfl rfl rfl (dv_get hd) rfl rfl dJx4a65c_add_72be8_14 ?_
  refine x_aload_n B (pc := 15) 1 dJx4a65c_add_72be8_15 rfl rfl ?_
  refine x_iload_n B (pc := 16) 3 dJx4a65c_add_72be8_16 rfl rfl ?_
  refine x_iconst B (pc := 17) 1 dJx4a65c_add_72be8_17 (by decide) ?_
  refine x_iadd B (pc := 18) dJx4a65c_add_72be8_18 ?_
  refine x_val B (y := nI 1) (nI_1 0) ?_
  refine x_put B (pc := 19) xcl_A 0 0 2 [alW D e0 a (m, some (q1, 10, va_up (fun _ => none) 0 (some (da d)))) 1, dvW da N S om] rfl rfl (by decide) tm45 rfl rfl rfl rfl rfl (Nat.le_of_ble_eq_true rfl) rfl rfl dJx4a65c_add_72be8_19 ?_
  exact x_vret F (pc := 22) rfl dJx4a65c_add_72be8_22 (⟨rfl, q1, rfl⟩) (Nat.le_of_ble_eq_true rfl) (Nat.le_of_ble_eq_true rfl)

set_option maxRecDepth 100000 in
set_option maxHeartbeats 4000000 in
theorem c_add3f {l : Launch} (hl : l.stackTraces = false) (D : va_G) (e0 : Nat) {a n q c : Nat} {m : Int32} {f : Nat → Option Nat} {da : Nat → Nat} {N : Nat} {S : xS} {om : Nat → Int32} {d : Nat} (hd : d < N) (hnc : n = c) (h2 : 2 ≤ c) (hc : c ≤ 80) (hel : ∀ i, i < c → ∃ d9, d9 < N ∧ f i = some (da d9)) : xC l yJx4a65c_add_72be8 (.code yJx4a65c_add_72be8 cJx4a65c_add_72be8 4 none) ({ frames := 5, cells := 1, slots := 200, locals := 117 } : Room) D e0 [.ref a, .ref (da d), .ref q, .int (nI n)] [alW D e0 a (m, some (q, c, f)) n, dvW da N S om] (fun v cs => v = none ∧ ∃ q1, cs = [alW D e0 a (m, some (q1, c + c / 2, va_up (va_cpy f (fun _ => none) 0 0 c) n (some (da d)))) (n + 1), dvW da N S om]) (fun _ => False) := by
  refine xC_of hl (by decide +kernel) (Nat.le_of_ble_eq_true rfl) (fun G X F => ?_)
  have B : xB l D e0 "java/util/ArrayList" cJx4a65c_add_72be8 4 none [] _ G X := F.base
  show G 0 [(0, .ref a), (1, .ref (da d)), (2, .ref q), (3, .int (nI n))] [] [alW D e0 a (m, some (q, c, f)) n, dvW da N S om] 0 0
  refine x_iload_n B (pc := 0) 3 dJx4a65c_add_72be8_0 rfl rfl ?_
  refine x_aload_n B (pc := 1) 2 dJx4a65c_add_72be8_1 rfl rfl ?_
  refine x_alen B (pc := 2) (v := nI c) 0 1 4 rfl rfl rfl rfl dJx4a65c_add_72be8_2 ?_
  refine x_icmp_ne B (pc := 3) 11 dJx4a65c_add_72be8_3 (by decide) (fun h3 => absurd (congrArg nI hnc) h3) (fun h3 => ?_)
  refine x_aload_n B (pc := 6) 0 dJx4a65c_add_72be8_6 rfl rfl ?_
  refine x_callV B (pc := 7) (As := []) (c_grow1f hl D e0 hnc h2 (by omega) hel) xcl_A rfl 0 0 rfl rfl tm380 tm382 ts4 tm4 tm383 md_Jx4a65c_grow_d5877 ⟨Nat.le_of_ble_eq_true rfl, Nat.le_of_ble_eq_true rfl⟩ [0, 1] rfl rfl rfl (Nat.le_of_ble_eq_true rfl) (Nat.le_of_ble_eq_true rfl) (Nat.le_of_ble_eq_true rfl) dJx4a65c_add_72be8_7 (fun E hE => False.elim hE) (fun v cs1 hp => ?_)
  obtain ⟨q1, rfl, rfl⟩ := hp
  show G 10 [(0, .ref a), (1, .ref (da d)), (2, .ref q), (3, .int (nI n))] [.ref q1] [alW D e0 a (m, some (q1, c + c / 2, va_cpy f (fun _ => none) 0 0 c)) n, dvW da N S om] 1 200
  refine x_astore_n B (pc := 10) [(2, .ref q1), (0, .ref a), (1, .ref (da d)), (3, .int (nI n))] dJx4a65c_add_72be8_10 rfl (by decide) rfl ?_
  refine x_aload_n B (pc := 11) 0 dJx4a65c_add_72be8_11 rfl rfl ?_
  refine x_iload_n B (pc := 12) 3 dJx4a65c_add_72be8_12 rfl rfl ?_
  refine x_aload_n B (pc := 13) 2 dJx4a65c_add_72be8_13 rfl rfl ?_
  refine x_oastN B (pc := 14) n 0 1 1 d [alW D e0 a (m, some (q1, c + c / 2, va_up (va_cpy f (fun _ => none) 0 0 c) n (some (da d)))) n, dvW da N S om] (by omega) (by omega) rfl rfl rfl (dv_get hd) rfl rfl dJx4a65c_add_72be8_14 ?_
  refine x_aload_n B (pc := 15) 1 dJx4a65c_add_72be8_15 rfl rfl ?_
  refine x_iload_n B (pc := 16) 3 dJx4a65c_add_72be8_16 rfl rfl ?_
  refine x_iconst B (pc := 17) 1 dJx4a65c_add_72be8_17 (by decide) ?_
  refine x_iadd B (pc := 18) dJx4a65c_add_72be8_18 ?_
  refine x_val B (y := nI (n + 1)) (nI_1 n) ?_
  refine x_put B (pc := 19) xcl_A 0 0 2 [alW D e0 a (m, some (q1, c + c / 2, va_up (va_cpy f (fun _ => none) 0 0 c) n (some (da d)))) (n + 1), dvW da N S om] rfl rfl (by decide) tm45 rfl rfl rfl rfl rfl (Nat.le_of_ble_eq_true rfl) rfl rfl dJx4a65c_add_72be8_19 ?_
  exact x_vret F (pc := 22) rfl dJx4a65c_add_72be8_22 (⟨rfl, q1, rfl⟩) (Nat.le_of_ble_eq_true rfl) (Nat.le_of_ble_eq_true rfl)

set_option maxRecDepth 100000 in
set_option maxHeartbeats 4000000 in
theorem c_Jx4a65c_add_9ea2d {l : Launch} (hl : l.stackTraces = false) (D : va_G) (e0 : Nat) {a n : Nat} {h : xAg} {w : Nat → Nat} {da : Nat → Nat} {N : Nat} {S : xS} {om : Nat → Int32} {d : Nat} (hok : alOk h n w) (hn60 : n ≤ 60) (hd : d < N) (hin : ∀ i, i < n → ∃ d9, d9 < N ∧ w i = da d9) : xC l yJx4a65c_add_9ea2d (.code yJx4a65c_add_9ea2d cJx4a65c_add_9ea2d 2 (some .boolean)) ({ frames := 6, cells := 1, slots := 200, locals := 140 } : Room) D e0 [.ref a, .ref (da d)] [alW D e0 a h n, dvW da N S om] (fun v cs => v = some (.int 1) ∧ ∃ h1, alOk h1 (n + 1) (va_up w n (da d)) ∧ cs = [alW D e0 a h1 (n + 1), dvW da N S om]) (fun _ => False) := by
  refine xC_of hl (by decide +kernel) (Nat.le_of_ble_eq_true rfl) (fun G X F => ?_)
  have B : xB l D e0 "java/util/ArrayList" cJx4a65c_add_9ea2d 2 (some .boolean) [] _ G X := F.base
  show G 0 [(0, .ref a), (1, .ref (da d))] [] [alW D e0 a h n, dvW da N S om] 0 0
  rcases al_cases hok with ⟨m, rfl, rfl⟩ | ⟨m, q, c, f, rfl, hnc, hc2, hcm, hf⟩ | ⟨m, q, c, f, rfl, hnc, hc2, hcm, hf⟩
  · have hx9 : True := trivial
    refine x_aload_n B (pc := 0) 0 dJx4a65c_add_9ea2d_0 rfl rfl ?_
    refine x_dup B (pc := 1) dJx4a65c_add_9ea2d_1 rfl ?_
    refine x_getS B (pc := 2) (v := .int m) xcl_A 0 0 0 rfl rfl (by decide) tm47 tm48 rfl dJx4a65c_add_9ea2d_2 ?_
    refine x_iconst B (pc := 5) 1 dJx4a65c_add_9ea2d_5 (by decide) ?_
    refine x_iadd B (pc := 6) dJx4a65c_add_9ea2d_6 ?_
    refine x_putS B (pc := 7) xcl_A 0 0 0 [alW D e0 a (m + 1, none) 0, dvW da N S om] rfl rfl (by decide) tm47 tm48 rfl rfl rfl rfl (Nat.le_of_ble_eq_true rfl) rfl rfl dJx4a65c_add_9ea2d_7 ?_
    refine x_aload_n B (pc := 10) 0 dJx4a65c_add_9ea2d_10 rfl rfl ?_
    refine x_aload_n B (pc := 11) 1 dJx4a65c_add_9ea2d_11 rfl rfl ?_
    refine x_aload_n B (pc := 12) 0 dJx4a65c_add_9ea2d_12 rfl rfl ?_
    refine x_get B (pc := 13) xcl_A 0 0 1 rfl rfl (by decide) tm44 rfl rfl dJx4a65c_add_9ea2d_13 ?_
    refine x_aload_n B (pc := 16) 0 dJx4a65c_add_9ea2d_16 rfl rfl ?_
    refine x_get B (pc := 17) (v := .int (nI 0)) xcl_A 0 0 2 rfl rfl (by decide) tm45 rfl rfl dJx4a65c_add_9ea2d_17 ?_
    refine x_callV B (pc := 20) (As := [.ref (da d), .ref e0, .int (nI 0)]) (c_add3e hl D e0 hd) xcl_A rfl 0 0 rfl rfl tm376 tm378 ts3 tm4 tm379 md_Jx4a65c_add_72be8 ⟨Nat.le_of_ble_eq_true rfl, Nat.le_of_ble_eq_true rfl⟩ [0, 1] rfl rfl rfl (Nat.le_of_ble_eq_true rfl) (Nat.le_of_ble_eq_true rfl) (Nat.le_of_ble_eq_true rfl) dJx4a65c_add_9ea2d_20 (fun E hE => False.elim hE) (fun v cs1 hp => ?_)
    obtain ⟨rfl, q1, rfl⟩ := hp
    show G 23 [(0, .ref a), (1, .ref (da d))] [] [alW D e0 a (m + 1, some (q1, 10, va_up (fun _ => none) 0 (some (da d)))) 1, dvW da N S om] 1 10
    refine x_iconst B (pc := 23) 1 dJx4a65c_add_9ea2d_23 (by decide) ?_
    exact x_zret F (pc := 24) rfl rfl dJx4a65c_add_9ea2d_24 (⟨rfl, _, al_add (n := 0) (by decide) (by decide) (by decide) (fun i hi => absurd hi (Nat.not_lt_zero i)), rfl⟩) (Nat.le_of_ble_eq_true rfl) (Nat.le_of_ble_eq_true rfl)
  · have hx9 : True := trivial
    refine x_aload_n B (pc := 0) 0 dJx4a65c_add_9ea2d_0 rfl rfl ?_
    refine x_dup B (pc := 1) dJx4a65c_add_9ea2d_1 rfl ?_
    refine x_getS B (pc := 2) (v := .int m) xcl_A 0 0 0 rfl rfl (by decide) tm47 tm48 rfl dJx4a65c_add_9ea2d_2 ?_
    refine x_iconst B (pc := 5) 1 dJx4a65c_add_9ea2d_5 (by decide) ?_
    refine x_iadd B (pc := 6) dJx4a65c_add_9ea2d_6 ?_
    refine x_putS B (pc := 7) xcl_A 0 0 0 [alW D e0 a (m + 1, some (q, c, f)) n, dvW da N S om] rfl rfl (by decide) tm47 tm48 rfl rfl rfl rfl (Nat.le_of_ble_eq_true rfl) rfl rfl dJx4a65c_add_9ea2d_7 ?_
    refine x_aload_n B (pc := 10) 0 dJx4a65c_add_9ea2d_10 rfl rfl ?_
    refine x_aload_n B (pc := 11) 1 dJx4a65c_add_9ea2d_11 rfl rfl ?_
    refine x_aload_n B (pc := 12) 0 dJx4a65c_add_9ea2d_12 rfl rfl ?_
    refine x_get B (pc := 13) xcl_A 0 0 1 rfl rfl (by decide) tm44 rfl rfl dJx4a65c_add_9ea2d_13 ?_
    refine x_aload_n B (pc := 16) 0 dJx4a65c_add_9ea2d_16 rfl rfl ?_
    refine x_get B (pc := 17) (v := .int (nI n)) xcl_A 0 0 2 rfl rfl (by decide) tm45 rfl rfl dJx4a65c_add_9ea2d_17 ?_
    refine x_callV B (pc := 20) (As := [.ref (da d), .ref q, .int (nI n)]) (c_add3r hl D e0 hd hnc hcm) xcl_A rfl 0 0 rfl rfl tm376 tm378 ts3 tm4 tm379 md_Jx4a65c_add_72be8 ⟨Nat.le_of_ble_eq_true rfl, Nat.le_of_ble_eq_true rfl⟩ [0, 1] rfl rfl rfl (Nat.le_of_ble_eq_true rfl) (Nat.le_of_ble_eq_true rfl) (Nat.le_of_ble_eq_true rfl) dJx4a65c_add_9ea2d_20 (fun E hE => False.elim hE) (fun v cs1 hp => ?_)
    obtain ⟨rfl, rfl⟩ := hp
    show G 23 [(0, .ref a), (1, .ref (da d))] [] [alW D e0 a (m + 1, some (q, c, va_up f n (some (da d)))) (n + 1), dvW da N S om] 0 0
    refine x_iconst B (pc := 23) 1 dJx4a65c_add_9ea2d_23 (by decide) ?_
    exact x_zret F (pc := 24) rfl rfl dJx4a65c_add_9ea2d_24 (⟨rfl, _, al_add hnc hc2 hcm hf, rfl⟩) (Nat.le_of_ble_eq_true rfl) (Nat.le_of_ble_eq_true rfl)
  · have hx8 : True := trivial
    refine x_aload_n B (pc := 0) 0 dJx4a65c_add_9ea2d_0 rfl rfl ?_
    refine x_dup B (pc := 1) dJx4a65c_add_9ea2d_1 rfl ?_
    refine x_getS B (pc := 2) (v := .int m) xcl_A 0 0 0 rfl rfl (by decide) tm47 tm48 rfl dJx4a65c_add_9ea2d_2 ?_
    refine x_iconst B (pc := 5) 1 dJx4a65c_add_9ea2d_5 (by decide) ?_
    refine x_iadd B (pc := 6) dJx4a65c_add_9ea2d_6 ?_
    refine x_putS B (pc := 7) xcl_A 0 0 0 [alW D e0 a (m + 1, some (q, c, f)) n, dvW da N S om] rfl rfl (by decide) tm47 tm48 rfl rfl rfl rfl (Nat.le_of_ble_eq_true rfl) rfl rfl dJx4a65c_add_9ea2d_7 ?_
    refine x_aload_n B (pc := 10) 0 dJx4a65c_add_9ea2d_10 rfl rfl ?_
    refine x_aload_n B (pc := 11) 1 dJx4a65c_add_9ea2d_11 rfl rfl ?_
    refine x_aload_n B (pc := 12) 0 dJx4a65c_add_9ea2d_12 rfl rfl ?_
    refine x_get B (pc := 13) xcl_A 0 0 1 rfl rfl (by decide) tm44 rfl rfl dJx4a65c_add_9ea2d_13 ?_
    refine x_aload_n B (pc := 16) 0 dJx4a65c_add_9ea2d_16 rfl rfl ?_
    refine x_get B (pc := 17) (v := .int (nI n)) xcl_A 0 0 2 rfl rfl (by decide) tm45 rfl rfl dJx4a65c_add_9ea2d_17 ?_
    refine x_callV B (pc := 20) (As := [.ref (da d), .ref q, .int (nI n)]) (c_add3f hl D e0 hd hnc hc2 (by omega) (fun i hi => by obtain ⟨d9, h1, h2⟩ := hin i (by omega); exact ⟨d9, h1, by rw [hf i (by omega), h2]⟩)) xcl_A rfl 0 0 rfl rfl tm376 tm378 ts3 tm4 tm379 md_Jx4a65c_add_72be8 ⟨Nat.le_of_ble_eq_true rfl, Nat.le_of_ble_eq_true rfl⟩ [0, 1] rfl rfl rfl (Nat.le_of_ble_eq_true rfl) (Nat.le_of_ble_eq_true rfl) (Nat.le_of_ble_eq_true rfl) dJx4a65c_add_9ea2d_20 (fun E hE => False.elim hE) (fun v cs1 hp => ?_)
    obtain ⟨rfl, q1, rfl⟩ := hp
    show G 23 [(0, .ref a), (1, .ref (da d))] [] [alW D e0 a (m + 1, some (q1, c + c / 2, va_up (va_cpy f (fun _ => none) 0 0 c) n (some (da d)))) (n + 1), dvW da N S om] 1 200
    refine x_iconst B (pc := 23) 1 dJx4a65c_add_9ea2d_23 (by decide) ?_
    exact x_zret F (pc := 24) rfl rfl dJx4a65c_add_9ea2d_24 (⟨rfl, _, al_add (by omega) (by omega) (by omega) (fun i hi => by rw [pk_cpy_in (Nat.zero_le i) (by omega)]; rw [Nat.sub_zero, Nat.zero_add]; exact hf i hi), rfl⟩) (Nat.le_of_ble_eq_true rfl) (Nat.le_of_ble_eq_true rfl)

set_option maxRecDepth 100000 in
set_option maxHeartbeats 4000000 in
theorem c_Jx4a65c_clear_da8c8 {l : Launch} (hl : l.stackTraces = false) (D : va_G) (e0 : Nat) {a n : Nat} {h : xAg} {w : Nat → Nat} (hok : alOk h n w) (hn60 : n ≤ 60) : xC l yJx4a65c_clear_da8c8 (.code yJx4a65c_clear_da8c8 cJx4a65c_clear_da8c8 4 none) ({ frames := 0, cells := 0, slots := 0, locals := 0 } : Room) D e0 [.ref a] [alW D e0 a h n] (fun v cs => v = none ∧ ∃ h1, (∀ w1, alOk h1 0 w1) ∧ cs = [alW D e0 a h1 0]) (fun _ => False) := by
  refine xC_of hl (by decide +kernel) (Nat.le_of_ble_eq_true rfl) (fun G X F => ?_)
  have B : xB l D e0 "java/util/ArrayList" cJx4a65c_clear_da8c8 4 none [] _ G X := F.base
  show G 0 [(0, .ref a)] [] [alW D e0 a h n] 0 0
  have hok2 := hok
  obtain ⟨m, _ | ⟨q, c, f⟩⟩ := h
  · have hn0 : n = 0 := hok2
    subst hn0
    refine x_aload_n B (pc := 0) 0 dJx4a65c_clear_da8c8_0 rfl rfl ?_
    refine x_dup B (pc := 1) dJx4a65c_clear_da8c8_1 rfl ?_
    refine x_getS B (pc := 2) (v := .int m) xcl_A 0 0 0 rfl rfl (by decide) tm47 tm48 rfl dJx4a65c_clear_da8c8_2 ?_
    refine x_iconst B (pc := 5) 1 dJx4a65c_clear_da8c8_5 (by decide) ?_
    refine x_iadd B (pc := 6) dJx4a65c_clear_da8c8_6 ?_
    refine x_putS B (pc := 7) xcl_A 0 0 0 [alW D e0 a (m + 1, none) 0] rfl rfl (by decide) tm47 tm48 rfl rfl rfl rfl (Nat.le_of_ble_eq_true rfl) rfl rfl dJx4a65c_clear_da8c8_7 ?_
    refine x_aload_n B (pc := 10) 0 dJx4a65c_clear_da8c8_10 rfl rfl ?_
    refine x_get B (pc := 11) xcl_A 0 0 1 rfl rfl (by decide) tm44 rfl rfl dJx4a65c_clear_da8c8_11 ?_
    refine x_astore_n B (pc := 14) [(1, .ref e0), (0, .ref a)] dJx4a65c_clear_da8c8_14 rfl (by decide) rfl ?_
    refine x_aload_n B (pc := 15) 1 dJx4a65c_clear_da8c8_15 rfl rfl ?_
    refine x_get B (pc := 16) (v := .int (nI 0)) xcl_A 0 0 2 rfl rfl (by decide) tm45 rfl rfl dJx4a65c_clear_da8c8_16 ?_
    refine x_istore_n B (pc := 19) [(2, .int (nI 0)), (1, .ref e0), (0, .ref a)] dJx4a65c_clear_da8c8_19 rfl (by decide) rfl ?_
    refine x_aload_n B (pc := 20) 2 dJx4a65c_clear_da8c8_20 rfl rfl ?_
    refine x_iconst B (pc := 21) 0 dJx4a65c_clear_da8c8_21 (by decide) ?_
    refine x_val B (y := nI 0) rfl ?_
    refine x_dup_x1 B (pc := 22) dJx4a65c_clear_da8c8_22 rfl rfl ?_
    refine x_put B (pc := 23) xcl_A 0 0 2 [alW D e0 a (m + 1, none) 0] rfl rfl (by decide) tm45 rfl rfl rfl rfl rfl (Nat.le_of_ble_eq_true rfl) rfl rfl dJx4a65c_clear_da8c8_23 ?_
    refine x_istore_n B (pc := 26) [(3, .int (nI 0)), (2, .int (nI 0)), (1, .ref e0), (0, .ref a)] dJx4a65c_clear_da8c8_26 rfl (by decide) rfl ?_
    refine x_lv B [3, 2, 1, 0] [(0, .ref a), (1, .ref e0), (2, .int (nI 0)), (3, .int (nI 0))] rfl ?_
    refine x_iload_n B (pc := 27) 3 dJx4a65c_clear_da8c8_27 rfl rfl ?_
    refine x_iload_n B (pc := 28) 2 dJx4a65c_clear_da8c8_28 rfl rfl ?_
    refine x_icmp_ge B (pc := 29) 42 dJx4a65c_clear_da8c8_29 (by decide) (fun h29 => ?_) (fun h29 => absurd (by decide) h29)
    exact x_vret F (pc := 42) rfl dJx4a65c_clear_da8c8_42 (⟨rfl, (m + 1, none), fun w1 => (rfl : (0 : Nat) = 0), rfl⟩) (Nat.le_of_ble_eq_true rfl) (Nat.le_of_ble_eq_true rfl)
  · obtain ⟨hnc, hc2, hcm, hf⟩ := hok2
    refine x_aload_n B (pc := 0) 0 dJx4a65c_clear_da8c8_0 rfl rfl ?_
    refine x_dup B (pc := 1) dJx4a65c_clear_da8c8_1 rfl ?_
    refine x_getS B (pc := 2) (v := .int m) xcl_A 0 0 0 rfl rfl (by decide) tm47 tm48 rfl dJx4a65c_clear_da8c8_2 ?_
    refine x_iconst B (pc := 5) 1 dJx4a65c_clear_da8c8_5 (by decide) ?_
    refine x_iadd B (pc := 6) dJx4a65c_clear_da8c8_6 ?_
    refine x_putS B (pc := 7) xcl_A 0 0 0 [alW D e0 a (m + 1, some (q, c, f)) n] rfl rfl (by decide) tm47 tm48 rfl rfl rfl rfl (Nat.le_of_ble_eq_true rfl) rfl rfl dJx4a65c_clear_da8c8_7 ?_
    refine x_aload_n B (pc := 10) 0 dJx4a65c_clear_da8c8_10 rfl rfl ?_
    refine x_get B (pc := 11) xcl_A 0 0 1 rfl rfl (by decide) tm44 rfl rfl dJx4a65c_clear_da8c8_11 ?_
    refine x_astore_n B (pc := 14) [(1, .ref q), (0, .ref a)] dJx4a65c_clear_da8c8_14 rfl (by decide) rfl ?_
    refine x_aload_n B (pc := 15) 1 dJx4a65c_clear_da8c8_15 rfl rfl ?_
    refine x_get B (pc := 16) (v := .int (nI n)) xcl_A 0 0 2 rfl rfl (by decide) tm45 rfl rfl dJx4a65c_clear_da8c8_16 ?_
    refine x_istore_n B (pc := 19) [(2, .int (nI n)), (1, .ref q), (0, .ref a)] dJx4a65c_clear_da8c8_19 rfl (by decide) rfl ?_
    refine x_aload_n B (pc := 20) 2 dJx4a65c_clear_da8c8_20 rfl rfl ?_
    refine x_iconst B (pc := 21) 0 dJx4a65c_clear_da8c8_21 (by decide) ?_
    refine x_val B (y := nI 0) rfl ?_
    refine x_dup_x1 B (pc := 22) dJx4a65c_clear_da8c8_22 rfl rfl ?_
    refine x_put B (pc := 23) xcl_A 0 0 2 [alW D e0 a (m + 1, some (q, c, f)) 0] rfl rfl (by decide) tm45 rfl rfl rfl rfl rfl (Nat.le_of_ble_eq_true rfl) rfl rfl dJx4a65c_clear_da8c8_23 ?_
    refine x_istore_n B (pc := 26) [(3, .int (nI 0)), (2, .int (nI n)), (1, .ref q), (0, .ref a)] dJx4a65c_clear_da8c8_26 rfl (by decide) rfl ?_
    have hloop27 : ∀ (fu : Nat) (i : Nat) (f9 : Nat → Option Nat), i ≤ n → n + 1 ≤ i + fu → G 27 [(3, .int (nI i)), (2, .int (nI n)), (1, .ref q), (0, .ref a)] [] [alW D e0 a (m + 1, some (q, c, f9)) 0] 0 0 := by
      intro fu
      induction fu with
      | zero =>
        intro i f9 hi hfu
        omega
      | succ fu ih =>
        intro i f9 hi hfu
        refine x_iload_n B (pc := 27) 0 dJx4a65c_clear_da8c8_27 rfl rfl ?_
        refine x_iload_n B (pc := 28) 1 dJx4a65c_clear_da8c8_28 rfl rfl ?_
        refine x_icmp_ge B (pc := 29) 42 dJx4a65c_clear_da8c8_29 (by decide) (fun h29 => ?_) (fun h29 => ?_)
        · skip
          exact x_vret F (pc := 42) rfl dJx4a65c_clear_da8c8_42 (⟨rfl, (m + 1, some (q, c, f9)), fun w1 => ⟨Nat.zero_le c, hc2, hcm, fun i hi => absurd hi (Nat.not_lt_zero i)⟩, rfl⟩) (Nat.le_of_ble_eq_true rfl) (Nat.le_of_ble_eq_true rfl)
        · skip
          have hlt : i < n := Nat.lt_of_not_le (fun e => h29 (nI_le e (by omega)))
          refine x_aload_n B (pc := 32) 2 dJx4a65c_clear_da8c8_32 rfl rfl ?_
          refine x_iload_n B (pc := 33) 0 dJx4a65c_clear_da8c8_33 rfl rfl ?_
          refine x_null B (pc := 34) dJx4a65c_clear_da8c8_34 ?_
          refine x_oastnullN B (pc := 35) i 0 1 [alW D e0 a (m + 1, some (q, c, va_up f9 i none)) 0] (by omega) (by omega) rfl rfl rfl rfl dJx4a65c_clear_da8c8_35 ?_
          refine x_iinc B (pc := 36) 0 (nI (i + 1)) [(3, .int (nI (i + 1))), (2, .int (nI n)), (1, .ref q), (0, .ref a)] dJx4a65c_clear_da8c8_36 rfl (nI_1 i) (by decide) rfl ?_
          refine x_goto B (pc := 39) 27 dJx4a65c_clear_da8c8_39 (by decide) ?_
          refine x_lv B [0, 1, 2, 3] [(3, .int (nI (i + 1))), (2, .int (nI n)), (1, .ref q), (0, .ref a)] rfl ?_
          exact ih (i + 1) _ (by omega) (by omega)
    refine x_lv B [0, 1, 2, 3] [(3, .int (nI 0)), (2, .int (nI n)), (1, .ref q), (0, .ref a)] rfl ?_
    exact hloop27 (n + 1) 0 f (Nat.zero_le _) (by omega)
