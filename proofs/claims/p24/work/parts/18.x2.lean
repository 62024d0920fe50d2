/-! codes of exceptions -/
theorem xp1 {c : Nat} {e1 e2 e3 : String} (h : c = 1) : xpo c e1 e2 e3 e1 := Or.inl ⟨h, rfl⟩
theorem xp2 {c : Nat} {e1 e2 e3 : String} (h : c = 2) : xpo c e1 e2 e3 e2 := Or.inr (Or.inl ⟨h, rfl⟩)
theorem xp3 {c : Nat} {e1 e2 e3 : String} (h : c = 3) : xpo c e1 e2 e3 e3 := Or.inr (Or.inr ⟨h, rfl⟩)
theorem cod1 (q r : Bool) : cod false q r = 1 := rfl
theorem cod2 (r : Bool) : cod true false r = 2 := rfl
theorem sendS_ne {L S : xS} {N : Nat} {a b : Int32} {k j : Nat} (h : j ≠ N) : sendS L S N a b k j = S k j := by
  unfold sendS
  rw [xup_ne (Or.inr h), xup_ne (Or.inr h), xup_ne (Or.inr h), xup_ne (Or.inr h), xup_ne (Or.inr h), xup_ne (Or.inr h)]
theorem sendS_k {L S : xS} {N : Nat} {a b : Int32} {k : Nat} (h : k ≠ 4 ∧ k ≠ 5 ∧ k ≠ 6 ∧ k ≠ 7 ∧ k ≠ 8 ∧ k ≠ 14) : sendS L S N a b k = S k := by
  unfold sendS
  rw [xup_k h.2.2.2.2.2, xup_k h.2.2.2.2.1, xup_k h.2.2.2.1, xup_k h.2.2.1, xup_k h.2.1, xup_k h.1]
theorem sendS_4 {L S : xS} {N : Nat} {a b : Int32} : sendS L S N a b 4 N = a := by
  unfold sendS
  rw [xup_ne (Or.inl (by decide)), xup_ne (Or.inl (by decide)), xup_ne (Or.inl (by decide)), xup_ne (Or.inl (by decide)), xup_ne (Or.inl (by decide)), xup_same]
theorem sendS_5 {L S : xS} {N : Nat} {a b : Int32} : sendS L S N a b 5 N = L 0 (ix a) := by
  unfold sendS
  rw [xup_ne (Or.inl (by decide)), xup_ne (Or.inl (by decide)), xup_ne (Or.inl (by decide)), xup_ne (Or.inl (by decide)), xup_same]
theorem sendS_6 {L S : xS} {N : Nat} {a b : Int32} : sendS L S N a b 6 N = b := by
  unfold sendS
  rw [xup_ne (Or.inl (by decide)), xup_ne (Or.inl (by decide)), xup_ne (Or.inl (by decide)), xup_same]
theorem sendS_7 {L S : xS} {N : Nat} {a b : Int32} : sendS L S N a b 7 N = (if L 0 (ix a) = 0 then 1 else 0) := by
  unfold sendS
  rw [xup_ne (Or.inl (by decide)), xup_ne (Or.inl (by decide)), xup_same]
theorem sendS_8 {L S : xS} {N : Nat} {a b : Int32} : sendS L S N a b 8 N = -1 := by
  unfold sendS
  rw [xup_ne (Or.inl (by decide)), xup_same]
theorem sendS_14 {L S : xS} {N : Nat} {a b : Int32} : sendS L S N a b 14 N = -1 := by
  unfold sendS
  rw [xup_same]
theorem send_dv {da : Nat → Nat} {L S : xS} {om : Nat → Int32} {N j q : Nat} {b : Int32} (hj : ix (nI j) = j) (hz : S 9 N = 0 ∧ S 10 N = 0 ∧ S 11 N = 0 ∧ S 13 N = 0) : dvW da N S om ++ [(q, .inr (1, [.int (nI N), .int (nI j), .int (L 0 j), .int b, .int (if L 0 j = 0 then 1 else 0), .int (-1), .int 0, .int 0, .int 0, .int (-1), .int (-1), .int 0]))] = dvW (va_up da N q) (N + 1) (sendS L S N (nI j) b) (upd om N (-1)) := by
  refine dv_push (fun i hi => ?_) ?_
  · have hne : i ≠ N := Nat.ne_of_lt hi
    have e1 : va_up da N q i = da i := by simp [va_up, hne]
    have e2 : upd om N (-1) i = om i := by simp [upd, hne]
    unfold dvC
    rw [e1, e2]
    repeat rw [sendS_ne hne]
  · have e1 : va_up da N q N = q := by simp [va_up]
    have e2 : upd om N (-1) N = -1 := by simp [upd]
    unfold dvC
    rw [e1, e2, sendS_4, sendS_5, sendS_6, sendS_7, sendS_8, sendS_14, sendS_k (by decide), sendS_k (by decide), sendS_k (by decide), sendS_k (by decide), hj, hz.1, hz.2.1, hz.2.2.1, hz.2.2.2]
    rfl
theorem al_w {h : xAg} {n : Nat} {w w1 : Nat → Nat} (hok : alOk h n w) (hw : ∀ i, i < n → w i = w1 i) : alOk h n w1 := by
  obtain ⟨m, _ | ⟨q, c, f⟩⟩ := h
  · exact hok
  · exact ⟨hok.1, hok.2.1, hok.2.2.1, fun i hi => by rw [hok.2.2.2 i hi, hw i hi]⟩
theorem tell_w {da : Nat → Nat} {tq : List Nat} {d : Nat} : ∀ i, i < tq.length + 1 → va_up (fun i => da (tq.getD i 0)) tq.length (da d) i = da ((tq ++ [d]).getD i 0) := by
  intro i hi
  by_cases he : i = tq.length
  · subst he
    simp [va_up, List.getD_eq_getElem?_getD]
  · have hl : i < tq.length := by omega
    simp [va_up, he, List.getD_eq_getElem?_getD, List.getElem?_append_left hl]
theorem und_no {S : xS} {d : Nat} (h : ¬ (S 9 d = 2 ∧ S 14 d = -1)) : (decide (S 9 d = 2) && decide (S 14 d = -1)) = false := by
  by_cases h9 : S 9 d = 2
  · rw [decide_eq_false (fun e => h ⟨h9, e⟩), Bool.and_false]
  · rw [decide_eq_false h9, Bool.false_and]
set_option maxRecDepth 100000 in
set_option maxHeartbeats 4000000 in
theorem c_X3_setMode {l : Launch} (hl : l.stackTraces = false) (D : va_G) (e0 : Nat) {ad : Nat → Nat} {up op tr : Int32} {L : xS} {a b : Int32}  : xC l yX3_setMode (.code yX3_setMode cX3_setMode 5 (some .int)) ({ frames := 7, cells := 1, slots := 6, locals := 103 } : Room) D e0 [.ref (ad 0), .int a, .int b] [xoW ad up op tr, lkW D ad L] (fun v cs => cod (xinB 0 3 a) (xinB 0 2 b) true = 0 ∧ v = some (.int (L 0 (ix a))) ∧ cs = [xoW ad up op tr, lkW D ad (xup L 0 (ix a) b)]) (fun E => xpo (cod (xinB 0 3 a) (xinB 0 2 b) true) xIOB xIAE xISE E) := by
  refine xC_of hl (by decide +kernel) (Nat.le_of_ble_eq_true rfl) (fun G X F => ?_)
  have B : xB l D e0 "CreditLinks" cX3_setMode 5 (some .int) [] _ G X := F.base
  show G 0 [(0, .ref (ad 0)), (1, .int a), (2, .int b)] [] [xoW ad up op tr, lkW D ad L] 0 0
  refine x_aload_n B (pc := 0) 0 dX3_setMode_0 rfl rfl ?_
  refine x_iload_n B (pc := 1) 1 dX3_setMode_1 rfl rfl ?_
  cases ha : xinB 0 3 a
  · skip
    refine x_callV B (pc := 2) (As := [.int a]) (c_linkAt_no hl D e0 ha) xcl_X rfl 0 0 rfl rfl tm186 tm188 ts0 tm1 tm189 md_X3_linkAt ⟨Nat.le_of_ble_eq_true rfl, Nat.le_of_ble_eq_true rfl⟩ [0, 1] rfl rfl rfl (Nat.le_of_ble_eq_true rfl) (Nat.le_of_ble_eq_true rfl) (Nat.le_of_ble_eq_true rfl) dX3_setMode_2 (fun E hE => x_out F (by subst hE; exact xp1 (by rw [ha]; rfl)) (Nat.le_of_ble_eq_true rfl) (Nat.le_of_ble_eq_true rfl)) (fun v cs1 hp => ?_)
    exact False.elim hp
  · obtain ⟨j, hj0, hj3, rfl⟩ := xinB_t ha (by decide) (by decide)
    have hj : j < 4 := by omega
    have ej : ix (nI j) = j := ix_nI (by omega)
    refine x_callV B (pc := 2) (As := [.int (nI j)]) (c_X3_linkAt hl D e0 hj) xcl_X rfl 0 0 rfl rfl tm186 tm188 ts0 tm1 tm189 md_X3_linkAt ⟨Nat.le_of_ble_eq_true rfl, Nat.le_of_ble_eq_true rfl⟩ [0, 1] rfl rfl rfl (Nat.le_of_ble_eq_true rfl) (Nat.le_of_ble_eq_true rfl) (Nat.le_of_ble_eq_true rfl) dX3_setMode_2 (fun E hE => False.elim hE) (fun v cs1 hp => ?_)
    obtain ⟨rfl, rfl⟩ := hp
    show G 5 [(0, .ref (ad 0)), (1, .int (nI j)), (2, .int b)] [.ref (ad (6 + j))] [xoW ad up op tr, lkW D ad L] 0 0
    refine x_astore_n B (pc := 5) [(3, .ref (ad (6 + j))), (0, .ref (ad 0)), (1, .int (nI j)), (2, .int b)] dX3_setMode_5 rfl (by decide) rfl ?_
    refine x_iload_n B (pc := 6) 3 dX3_setMode_6 rfl rfl ?_
    refine x_if_lt B (pc := 7) 15 dX3_setMode_7 (by decide) (fun h7 => ?_) (fun h7 => ?_)
    · skip
      exact x_throw F (pc := 15) (cls := "java/lang/IllegalArgumentException") (text := "there is no such mode") (by decide +kernel) xat_IAE.1 xat_IAE.2 tm258 tm11 (by decide +kernel) dX3_setMode_15 dX3_setMode_18 dX3_setMode_19 dX3_setMode_21 dX3_setMode_24 (Nat.le_of_ble_eq_true rfl) (Nat.le_of_ble_eq_true rfl) (Nat.le_of_ble_eq_true rfl) (Nat.le_of_ble_eq_true rfl) (xp2 (by rw [ha, (show xinB 0 2 b = false from by first | exact xinB_f1 h7 | exact xinB_f2 h12)]; rfl))
    · skip
      refine x_iload_n B (pc := 10) 3 dX3_setMode_10 rfl rfl ?_
      refine x_iconst B (pc := 11) 2 dX3_setMode_11 (by decide) ?_
      refine x_icmp_le B (pc := 12) 25 dX3_setMode_12 (by decide) (fun h12 => ?_) (fun h12 => ?_)
      · skip
        refine x_aload_n B (pc := 25) 0 dX3_setMode_25 rfl rfl ?_
        refine x_get B (pc := 26) (v := .int (L 0 j)) xcl_L 1 (j + 1) 0 rfl (lk_get hj) (by decide) tm85 rfl rfl dX3_setMode_26 ?_
        refine x_istore B (pc := 29) [(4, .int (L 0 j)), (3, .ref (ad (6 + j))), (0, .ref (ad 0)), (1, .int (nI j)), (2, .int b)] dX3_setMode_29 (by decide) rfl ?_
        refine x_aload_n B (pc := 31) 1 dX3_setMode_31 rfl rfl ?_
        refine x_iload_n B (pc := 32) 4 dX3_setMode_32 rfl rfl ?_
        refine x_put B (pc := 33) xcl_L 1 (j + 1) 0 [xoW ad up op tr, lkW D ad (xup L 0 j b)] rfl (lk_get hj) (by decide) tm85 rfl rfl rfl rfl rfl (Nat.le_of_ble_eq_true rfl) (lk_set0 hj) rfl dX3_setMode_33 ?_
        refine x_iload B (pc := 36) 0 dX3_setMode_36 rfl ?_
        exact x_iret F (pc := 38) rfl dX3_setMode_38 (⟨by rw [ha, (show xinB 0 2 b = true from xinB_ok h7 h12)]; rfl, by rw [ej], by rw [ej]⟩) (Nat.le_of_ble_eq_true rfl) (Nat.le_of_ble_eq_true rfl)
      · skip
        exact x_throw F (pc := 15) (cls := "java/lang/IllegalArgumentException") (text := "there is no such mode") (by decide +kernel) xat_IAE.1 xat_IAE.2 tm258 tm11 (by decide +kernel) dX3_setMode_15 dX3_setMode_18 dX3_setMode_19 dX3_setMode_21 dX3_setMode_24 (Nat.le_of_ble_eq_true rfl) (Nat.le_of_ble_eq_true rfl) (Nat.le_of_ble_eq_true rfl) (Nat.le_of_ble_eq_true rfl) (xp2 (by rw [ha, (show xinB 0 2 b = false from by first | exact xinB_f1 h7 | exact xinB_f2 h12)]; rfl))

set_option maxRecDepth 100000 in
set_option maxHeartbeats 4000000 in
theorem c_X3_grant {l : Launch} (hl : l.stackTraces = false) (D : va_G) (e0 : Nat) {ad : Nat → Nat} {up op tr : Int32} {L : xS} {gb : xRg} {qb : List xFr} {a b : Int32} (hup : up = 0 ∨ up = 1) (hq : rwOk qb gb) (hql : qb.length < 512) : xC l yX3_grant (.code yX3_grant cX3_grant 5 (some .int)) ({ frames := 7, cells := 1, slots := 6, locals := 103 } : Room) D e0 [.ref (ad 0), .int a, .int b] [xoW ad up op tr, lkW D ad L, rwW D (ad 4) (ad 13) (ad 14) (ad 15) gb qb.length] (fun v cs => cod (xinB 0 3 a) (xinB 0 15 b) (decide (up = 1)) = 0 ∧ v = some (.int (grV L a b)) ∧ ∃ g1, rwOk (qb ++ [(3, ix a, ix (grV L a b))]) g1 ∧ cs = [xoW ad up op tr, lkW D ad L, rwW D (ad 4) (ad 13) (ad 14) (ad 15) g1 ((qb ++ [(3, ix a, ix (grV L a b))]).length)]) (fun E => xpo (cod (xinB 0 3 a) (xinB 0 15 b) (decide (up = 1))) xIOB xIAE xISE E) := by
  refine xC_of hl (by decide +kernel) (Nat.le_of_ble_eq_true rfl) (fun G X F => ?_)
  have B : xB l D e0 "CreditLinks" cX3_grant 5 (some .int) [] _ G X := F.base
  show G 0 [(0, .ref (ad 0)), (1, .int a), (2, .int b)] [] [xoW ad up op tr, lkW D ad L, rwW D (ad 4) (ad 13) (ad 14) (ad 15) gb qb.length] 0 0
  refine x_aload_n B (pc := 0) 0 dX3_grant_0 rfl rfl ?_
  refine x_iload_n B (pc := 1) 1 dX3_grant_1 rfl rfl ?_
  cases ha : xinB 0 3 a
  · skip
    refine x_callV B (pc := 2) (As := [.int a]) (c_linkAt_no hl D e0 ha) xcl_X rfl 0 0 rfl rfl tm186 tm188 ts0 tm1 tm189 md_X3_linkAt ⟨Nat.le_of_ble_eq_true rfl, Nat.le_of_ble_eq_true rfl⟩ [0, 1] rfl rfl rfl (Nat.le_of_ble_eq_true rfl) (Nat.le_of_ble_eq_true rfl) (Nat.le_of_ble_eq_true rfl) dX3_grant_2 (fun E hE => x_out F (by subst hE; exact xp1 (by rw [ha]; rfl)) (Nat.le_of_ble_eq_true rfl) (Nat.le_of_ble_eq_true rfl)) (fun v cs1 hp => ?_)
    exact False.elim hp
  · obtain ⟨j, hj0, hj3, rfl⟩ := xinB_t ha (by decide) (by decide)
    have hj : j < 4 := by omega
    have ej : ix (nI j) = j := ix_nI (by omega)
    refine x_callV B (pc := 2) (As := [.int (nI j)]) (c_X3_linkAt hl D e0 hj) xcl_X rfl 0 0 rfl rfl tm186 tm188 ts0 tm1 tm189 md_X3_linkAt ⟨Nat.le_of_ble_eq_true rfl, Nat.le_of_ble_eq_true rfl⟩ [0, 1] rfl rfl rfl (Nat.le_of_ble_eq_true rfl) (Nat.le_of_ble_eq_true rfl) (Nat.le_of_ble_eq_true rfl) dX3_grant_2 (fun E hE => False.elim hE) (fun v cs1 hp => ?_)
    obtain ⟨rfl, rfl⟩ := hp
    show G 5 [(0, .ref (ad 0)), (1, .int (nI j)), (2, .int b)] [.ref (ad (6 + j))] [xoW ad up op tr, lkW D ad L, rwW D (ad 4) (ad 13) (ad 14) (ad 15) gb qb.length] 0 0
    refine x_astore_n B (pc := 5) [(3, .ref (ad (6 + j))), (0, .ref (ad 0)), (1, .int (nI j)), (2, .int b)] dX3_grant_5 rfl (by decide) rfl ?_
    refine x_iload_n B (pc := 6) 3 dX3_grant_6 rfl rfl ?_
    refine x_if_lt B (pc := 7) 16 dX3_grant_7 (by decide) (fun h7 => ?_) (fun h7 => ?_)
    · skip
      exact x_throw F (pc := 16) (cls := "java/lang/IllegalArgumentException") (text := "credit is out of range") (by decide +kernel) xat_IAE.1 xat_IAE.2 tm258 tm11 (by decide +kernel) dX3_grant_16 dX3_grant_19 dX3_grant_20 dX3_grant_22 dX3_grant_25 (Nat.le_of_ble_eq_true rfl) (Nat.le_of_ble_eq_true rfl) (Nat.le_of_ble_eq_true rfl) (Nat.le_of_ble_eq_true rfl) (xp2 (by rw [ha, (show xinB 0 15 b = false from by first | exact xinB_f1 h7 | exact xinB_f2 h12)]; rfl))
    · skip
      refine x_iload_n B (pc := 10) 3 dX3_grant_10 rfl rfl ?_
      refine x_bipush B (pc := 11) 15 dX3_grant_11 (by decide) ?_
      refine x_icmp_le B (pc := 13) 26 dX3_grant_13 (by decide) (fun h12 => ?_) (fun h12 => ?_)
      · skip
        have hb : xinB 0 15 b = true := xinB_ok h7 h12
        obtain ⟨v9, hv9, ev9⟩ := w15_ex (L 3 j + b)
        have eg : grV L (nI j) b = nI v9 := by unfold grV; rw [ej, ev9]
        have ev : ix (nI v9) = v9 := ix_nI (by omega)
        refine x_aload_n B (pc := 26) 1 dX3_grant_26 rfl rfl ?_
        rcases hup with rfl | rfl
        · skip
          refine x_callV B (pc := 27) (As := []) (c_X3_requireConnection_no hl D e0 ) xcl_X rfl 0 0 rfl rfl tm279 tm281 ts2 tm1 tm282 md_X3_requireConnection ⟨Nat.le_of_ble_eq_true rfl, Nat.le_of_ble_eq_true rfl⟩ [0] rfl rfl rfl (Nat.le_of_ble_eq_true rfl) (Nat.le_of_ble_eq_true rfl) (Nat.le_of_ble_eq_true rfl) dX3_grant_27 (fun E hE => x_out F (by subst hE; exact xp3 (by rw [ha, hb]; rfl)) (Nat.le_of_ble_eq_true rfl) (Nat.le_of_ble_eq_true rfl)) (fun v cs1 hp => ?_)
          exact False.elim hp
        · skip
          refine x_callV B (pc := 27) (As := []) (c_X3_requireConnection hl D e0 ) xcl_X rfl 0 0 rfl rfl tm279 tm281 ts2 tm1 tm282 md_X3_requireConnection ⟨Nat.le_of_ble_eq_true rfl, Nat.le_of_ble_eq_true rfl⟩ [0] rfl rfl rfl (Nat.le_of_ble_eq_true rfl) (Nat.le_of_ble_eq_true rfl) (Nat.le_of_ble_eq_true rfl) dX3_grant_27 (fun E hE => False.elim hE) (fun v cs1 hp => ?_)
          obtain ⟨rfl, rfl⟩ := hp
          show G 30 [(3, .ref (ad (6 + j))), (0, .ref (ad 0)), (1, .int (nI j)), (2, .int b)] [] [xoW ad 1 op tr, lkW D ad L, rwW D (ad 4) (ad 13) (ad 14) (ad 15) gb qb.length] 0 0
          refine x_aload_n B (pc := 30) 0 dX3_grant_30 rfl rfl ?_
          refine x_get B (pc := 31) (v := .int (L 3 j)) xcl_L 1 (j + 1) 3 rfl (lk_get hj) (by decide) tm90 rfl rfl dX3_grant_31 ?_
          refine x_iload_n B (pc := 34) 3 dX3_grant_34 rfl rfl ?_
          refine x_iadd B (pc := 35) dX3_grant_35 ?_
          refine x_callS B (pc := 36) (As := [.int ((L 3 j) + b)]) (c_X3_wrapped hl D e0 ) tm299 tm300 tm1 tm301 md_X3_wrapped ⟨Nat.le_of_ble_eq_true rfl, Nat.le_of_ble_eq_true rfl⟩ [] rfl rfl rfl (Nat.le_of_ble_eq_true rfl) (Nat.le_of_ble_eq_true rfl) (Nat.le_of_ble_eq_true rfl) dX3_grant_36 (fun E hE => False.elim hE) (fun v cs1 hp => ?_)
          obtain ⟨rfl, rfl⟩ := hp
          show G 39 [(3, .ref (ad (6 + j))), (0, .ref (ad 0)), (1, .int (nI j)), (2, .int b)] [.int ((L 3 j + b) &&& 15)] [xoW ad 1 op tr, lkW D ad L, rwW D (ad 4) (ad 13) (ad 14) (ad 15) gb qb.length] 0 0
          refine x_val B (y := nI v9) ev9 ?_
          refine x_istore B (pc := 39) [(4, .int (nI v9)), (3, .ref (ad (6 + j))), (0, .ref (ad 0)), (1, .int (nI j)), (2, .int b)] dX3_grant_39 (by decide) rfl ?_
          refine x_aload_n B (pc := 41) 2 dX3_grant_41 rfl rfl ?_
          refine x_get B (pc := 42) xcl_X 0 0 3 rfl rfl (by decide) tm103 rfl rfl dX3_grant_42 ?_
          refine x_iconst B (pc := 45) 3 dX3_grant_45 (by decide) ?_
          refine x_iload_n B (pc := 46) 3 dX3_grant_46 rfl rfl ?_
          refine x_iload B (pc := 47) 0 dX3_grant_47 rfl ?_
          refine x_callV B (pc := 49) (As := [.int 3, .int (nI j), .int (nI v9)]) (c_X2_add hl D e0 hq hql) xcl_R rfl 0 0 rfl rfl tm305 tm306 tm307 tm5 tm308 md_X2_add ⟨Nat.le_of_ble_eq_true rfl, Nat.le_of_ble_eq_true rfl⟩ [2] rfl rfl rfl (Nat.le_of_ble_eq_true rfl) (Nat.le_of_ble_eq_true rfl) (Nat.le_of_ble_eq_true rfl) dX3_grant_49 (fun E hE => False.elim hE) (fun v cs1 hp => ?_)
          obtain ⟨rfl, g1, hg1, rfl⟩ := hp
          show G 52 [(4, .int (nI v9)), (3, .ref (ad (6 + j))), (0, .ref (ad 0)), (1, .int (nI j)), (2, .int b)] [] [xoW ad 1 op tr, lkW D ad L, rwW D (ad 4) (ad 13) (ad 14) (ad 15) g1 ((qb ++ [(3, j, v9)]).length)] 0 0
          refine x_iload B (pc := 52) 0 dX3_grant_52 rfl ?_
          exact x_iret F (pc := 54) rfl dX3_grant_54 (⟨by rw [ha, hb]; rfl, by rw [eg], g1, by rw [eg, ej, ev]; exact hg1, by rw [eg, ej, ev]⟩) (Nat.le_of_ble_eq_true rfl) (Nat.le_of_ble_eq_true rfl)
      · skip
        exact x_throw F (pc := 16) (cls := "java/lang/IllegalArgumentException") (text := "credit is out of range") (by decide +kernel) xat_IAE.1 xat_IAE.2 tm258 tm11 (by decide +kernel) dX3_grant_16 dX3_grant_19 dX3_grant_20 dX3_grant_22 dX3_grant_25 (Nat.le_of_ble_eq_true rfl) (Nat.le_of_ble_eq_true rfl) (Nat.le_of_ble_eq_true rfl) (Nat.le_of_ble_eq_true rfl) (xp2 (by rw [ha, (show xinB 0 15 b = false from by first | exact xinB_f1 h7 | exact xinB_f2 h12)]; rfl))

set_option maxRecDepth 100000 in
set_option maxHeartbeats 4000000 in
theorem c_X3_credit {l : Launch} (hl : l.stackTraces = false) (D : va_G) (e0 : Nat) {ad : Nat → Nat} {up op tr : Int32} {L : xS} {a : Int32}  : xC l yX3_credit (.code yX3_credit cX3_credit 2 (some .int)) ({ frames := 7, cells := 1, slots := 6, locals := 103 } : Room) D e0 [.ref (ad 0), .int a] [xoW ad up op tr, lkW D ad L] (fun v cs => cod (xinB 0 3 a) true true = 0 ∧ v = some (.int (crd L (ix a))) ∧ cs = [xoW ad up op tr, lkW D ad L]) (fun E => xpo (cod (xinB 0 3 a) true true) xIOB xIAE xISE E) := by
  refine xC_of hl (by decide +kernel) (Nat.le_of_ble_eq_true rfl) (fun G X F => ?_)
  have B : xB l D e0 "CreditLinks" cX3_credit 2 (some .int) [] _ G X := F.base
  show G 0 [(0, .ref (ad 0)), (1, .int a)] [] [xoW ad up op tr, lkW D ad L] 0 0
  refine x_aload_n B (pc := 0) 0 dX3_credit_0 rfl rfl ?_
  refine x_iload_n B (pc := 1) 1 dX3_credit_1 rfl rfl ?_
  cases ha : xinB 0 3 a
  · skip
    refine x_callV B (pc := 2) (As := [.int a]) (c_linkAt_no hl D e0 ha) xcl_X rfl 0 0 rfl rfl tm186 tm188 ts0 tm1 tm189 md_X3_linkAt ⟨Nat.le_of_ble_eq_true rfl, Nat.le_of_ble_eq_true rfl⟩ [0, 1] rfl rfl rfl (Nat.le_of_ble_eq_true rfl) (Nat.le_of_ble_eq_true rfl) (Nat.le_of_ble_eq_true rfl) dX3_credit_2 (fun E hE => x_out F (by subst hE; exact xp1 (by rw [ha]; rfl)) (Nat.le_of_ble_eq_true rfl) (Nat.le_of_ble_eq_true rfl)) (fun v cs1 hp => ?_)
    exact False.elim hp
  · obtain ⟨j, hj0, hj3, rfl⟩ := xinB_t ha (by decide) (by decide)
    have hj : j < 4 := by omega
    have ej : ix (nI j) = j := ix_nI (by omega)
    refine x_callV B (pc := 2) (As := [.int (nI j)]) (c_X3_linkAt hl D e0 hj) xcl_X rfl 0 0 rfl rfl tm186 tm188 ts0 tm1 tm189 md_X3_linkAt ⟨Nat.le_of_ble_eq_true rfl, Nat.le_of_ble_eq_true rfl⟩ [0, 1] rfl rfl rfl (Nat.le_of_ble_eq_true rfl) (Nat.le_of_ble_eq_true rfl) (Nat.le_of_ble_eq_true rfl) dX3_credit_2 (fun E hE => False.elim hE) (fun v cs1 hp => ?_)
    obtain ⟨rfl, rfl⟩ := hp
    show G 5 [(0, .ref (ad 0)), (1, .int (nI j))] [.ref (ad (6 + j))] [xoW ad up op tr, lkW D ad L] 0 0
    refine x_callV B (pc := 5) (As := []) (c_X1_creditLeft hl D e0 hj) xcl_L rfl 0 (j + 1) rfl (lk_get hj) tm315 tm316 tm317 tm6 tm318 md_X1_creditLeft ⟨Nat.le_of_ble_eq_true rfl, Nat.le_of_ble_eq_true rfl⟩ [1] rfl rfl rfl (Nat.le_of_ble_eq_true rfl) (Nat.le_of_ble_eq_true rfl) (Nat.le_of_ble_eq_true rfl) dX3_credit_5 (fun E hE => False.elim hE) (fun v cs1 hp => ?_)
    obtain ⟨rfl, rfl⟩ := hp
    show G 8 [(0, .ref (ad 0)), (1, .int (nI j))] [.int ((L 2 j - L 1 j) &&& 15)] [xoW ad up op tr, lkW D ad L] 0 0
    exact x_iret F (pc := 8) rfl dX3_credit_8 (⟨by rw [ha]; rfl, by rw [ej]; rfl, rfl⟩) (Nat.le_of_ble_eq_true rfl) (Nat.le_of_ble_eq_true rfl)

set_option maxRecDepth 100000 in
set_option maxHeartbeats 4000000 in
theorem c_X3_send {l : Launch} (hl : l.stackTraces = false) (D : va_G) (e0 : Nat) {ad : Nat → Nat} {up op tr : Int32} {L : xS} {hs : xAg} {N : Nat} {gf : xRg} {qf : List xFr} {da : Nat → Nat} {S : xS} {om : Nat → Int32} {a b : Int32} (hup : up = 0 ∨ up = 1) (hok : alOk hs N da) (hN : N ≤ 60) (hq : rwOk qf gf) (hql : qf.length + 4 ≤ 512) (hz : S 9 N = 0 ∧ S 10 N = 0 ∧ S 11 N = 0 ∧ S 13 N = 0) : xC l yX3_send (.code yX3_send cX3_send 5 (some .int)) ({ frames := 7, cells := 2, slots := 212, locals := 161 } : Room) D e0 [.ref (ad 0), .int a, .int b] [xoW ad up op tr, lkW D ad L, alW D e0 (ad 2) hs N, rwW D (ad 3) (ad 10) (ad 11) (ad 12) gf qf.length, dvW da N S om] (fun v cs => cod (xinB 0 3 a) (xinB 1 4 b) (decide (up = 1) && (decide (N < 60) && !decide (crd L (ix a) = 0))) = 0 ∧ v = some (.int (nI N)) ∧ ∃ h1 g1 da1, alOk h1 (N + 1) da1 ∧ (∀ i, i < N → da1 i = da i) ∧ rwOk (qf ++ pts 0 N (ix b)) g1 ∧ cs = [xoW ad up op tr, lkW D ad (xup L 1 (ix a) ((L 1 (ix a) + 1) &&& 15)), alW D e0 (ad 2) h1 (N + 1), rwW D (ad 3) (ad 10) (ad 11) (ad 12) g1 ((qf ++ pts 0 N (ix b)).length), dvW da1 (N + 1) (sendS L S N a b) (upd om N (-1))]) (fun E => xpo (cod (xinB 0 3 a) (xinB 1 4 b) (decide (up = 1) && (decide (N < 60) && !decide (crd L (ix a) = 0)))) xIOB xIAE xISE E) := by
  refine xC_of hl (by decide +kernel) (Nat.le_of_ble_eq_true rfl) (fun G X F => ?_)
  have B : xB l D e0 "CreditLinks" cX3_send 5 (some .int) [] _ G X := F.base
  show G 0 [(0, .ref (ad 0)), (1, .int a), (2, .int b)] [] [xoW ad up op tr, lkW D ad L, alW D e0 (ad 2) hs N, rwW D (ad 3) (ad 10) (ad 11) (ad 12) gf qf.length, dvW da N S om] 0 0
  refine x_aload_n B (pc := 0) 0 dX3_send_0 rfl rfl ?_
  refine x_iload_n B (pc := 1) 1 dX3_send_1 rfl rfl ?_
  cases ha : xinB 0 3 a
  · skip
    refine x_callV B (pc := 2) (As := [.int a]) (c_linkAt_no hl D e0 ha) xcl_X rfl 0 0 rfl rfl tm186 tm188 ts0 tm1 tm189 md_X3_linkAt ⟨Nat.le_of_ble_eq_true rfl, Nat.le_of_ble_eq_true rfl⟩ [0, 1] rfl rfl rfl (Nat.le_of_ble_eq_true rfl) (Nat.le_of_ble_eq_true rfl) (Nat.le_of_ble_eq_true rfl) dX3_send_2 (fun E hE => x_out F (by subst hE; exact xp1 (by rw [ha]; rfl)) (Nat.le_of_ble_eq_true rfl) (Nat.le_of_ble_eq_true rfl)) (fun v cs1 hp => ?_)
    exact False.elim hp
  · obtain ⟨j, hj0, hj3, rfl⟩ := xinB_t ha (by decide) (by decide)
    have hj : j < 4 := by omega
    have ej : ix (nI j) = j := ix_nI (by omega)
    refine x_callV B (pc := 2) (As := [.int (nI j)]) (c_X3_linkAt hl D e0 hj) xcl_X rfl 0 0 rfl rfl tm186 tm188 ts0 tm1 tm189 md_X3_linkAt ⟨Nat.le_of_ble_eq_true rfl, Nat.le_of_ble_eq_true rfl⟩ [0, 1] rfl rfl rfl (Nat.le_of_ble_eq_true rfl) (Nat.le_of_ble_eq_true rfl) (Nat.le_of_ble_eq_true rfl) dX3_send_2 (fun E hE => False.elim hE) (fun v cs1 hp => ?_)
    obtain ⟨rfl, rfl⟩ := hp
    show G 5 [(0, .ref (ad 0)), (1, .int (nI j)), (2, .int b)] [.ref (ad (6 + j))] [xoW ad up op tr, lkW D ad L, alW D e0 (ad 2) hs N, rwW D (ad 3) (ad 10) (ad 11) (ad 12) gf qf.length, dvW da N S om] 0 0
    refine x_astore_n B (pc := 5) [(3, .ref (ad (6 + j))), (0, .ref (ad 0)), (1, .int (nI j)), (2, .int b)] dX3_send_5 rfl (by decide) rfl ?_
    refine x_iload_n B (pc := 6) 3 dX3_send_6 rfl rfl ?_
    refine x_iconst B (pc := 7) 1 dX3_send_7 (by decide) ?_
    refine x_icmp_lt B (pc := 8) 16 dX3_send_8 (by decide) (fun h7 => ?_) (fun h7 => ?_)
    · skip
      exact x_throw F (pc := 16) (cls := "java/lang/IllegalArgumentException") (text := "frames is out of range") (by decide +kernel) xat_IAE.1 xat_IAE.2 tm258 tm11 (by decide +kernel) dX3_send_16 dX3_send_19 dX3_send_20 dX3_send_22 dX3_send_25 (Nat.le_of_ble_eq_true rfl) (Nat.le_of_ble_eq_true rfl) (Nat.le_of_ble_eq_true rfl) (Nat.le_of_ble_eq_true rfl) (xp2 (by rw [ha, (show xinB 1 4 b = false from by first | exact xinB_f1 h7 | exact xinB_f2 h12)]; rfl))
    · skip
      refine x_iload_n B (pc := 11) 3 dX3_send_11 rfl rfl ?_
      refine x_iconst B (pc := 12) 4 dX3_send_12 (by decide) ?_
      refine x_icmp_le B (pc := 13) 26 dX3_send_13 (by decide) (fun h12 => ?_) (fun h12 => ?_)
      · skip
        have hb : xinB 1 4 b = true := xinB_ok h7 h12
        obtain ⟨m, hm1, hm4, rfl⟩ := xinB_t hb (by decide) (by decide)
        have em : ix (nI m) = m := ix_nI (by omega)
        refine x_aload_n B (pc := 26) 1 dX3_send_26 rfl rfl ?_
        rcases hup with rfl | rfl
        · skip
          refine x_callV B (pc := 27) (As := []) (c_X3_requireConnection_no hl D e0 ) xcl_X rfl 0 0 rfl rfl tm279 tm281 ts2 tm1 tm282 md_X3_requireConnection ⟨Nat.le_of_ble_eq_true rfl, Nat.le_of_ble_eq_true rfl⟩ [0] rfl rfl rfl (Nat.le_of_ble_eq_true rfl) (Nat.le_of_ble_eq_true rfl) (Nat.le_of_ble_eq_true rfl) dX3_send_27 (fun E hE => x_out F (by subst hE; exact xp3 (by rw [ha, hb]; rfl)) (Nat.le_of_ble_eq_true rfl) (Nat.le_of_ble_eq_true rfl)) (fun v cs1 hp => ?_)
          exact False.elim hp
        · skip
          refine x_callV B (pc := 27) (As := []) (c_X3_requireConnection hl D e0 ) xcl_X rfl 0 0 rfl rfl tm279 tm281 ts2 tm1 tm282 md_X3_requireConnection ⟨Nat.le_of_ble_eq_true rfl, Nat.le_of_ble_eq_true rfl⟩ [0] rfl rfl rfl (Nat.le_of_ble_eq_true rfl) (Nat.le_of_ble_eq_true rfl) (Nat.le_of_ble_eq_true rfl) dX3_send_27 (fun E hE => False.elim hE) (fun v cs1 hp => ?_)
          obtain ⟨rfl, rfl⟩ := hp
          show G 30 [(3, .ref (ad (6 + j))), (0, .ref (ad 0)), (1, .int (nI j)), (2, .int (nI m))] [] [xoW ad 1 op tr, lkW D ad L, alW D e0 (ad 2) hs N, rwW D (ad 3) (ad 10) (ad 11) (ad 12) gf qf.length, dvW da N S om] 0 0
          refine x_aload_n B (pc := 30) 1 dX3_send_30 rfl rfl ?_
          refine x_get B (pc := 31) xcl_X 0 0 1 rfl rfl (by decide) tm101 rfl rfl dX3_send_31 ?_
          refine x_callV B (pc := 34) (As := []) (c_Jx4a65c_size_8abf5 hl D e0 ) xcl_A rfl 0 0 rfl al_get0 tm129 tm130 tm131 tm4 tm132 md_Jx4a65c_size_8abf5 ⟨Nat.le_of_ble_eq_true rfl, Nat.le_of_ble_eq_true rfl⟩ [2] rfl rfl rfl (Nat.le_of_ble_eq_true rfl) (Nat.le_of_ble_eq_true rfl) (Nat.le_of_ble_eq_true rfl) dX3_send_34 (fun E hE => False.elim hE) (fun v cs1 hp => ?_)
          obtain ⟨rfl, rfl⟩ := hp
          show G 37 [(3, .ref (ad (6 + j))), (0, .ref (ad 0)), (1, .int (nI j)), (2, .int (nI m))] [.int (nI N)] [xoW ad 1 op tr, lkW D ad L, alW D e0 (ad 2) hs N, rwW D (ad 3) (ad 10) (ad 11) (ad 12) gf qf.length, dvW da N S om] 0 0
          refine x_bipush B (pc := 37) 60 dX3_send_37 (by decide) ?_
          refine x_icmp_lt B (pc := 39) 52 dX3_send_39 (by decide) (fun h39 => ?_) (fun h39 => ?_)
          · skip
            have hN6 : N < 60 := (nI_ltI (b := 60) (by omega) (by decide)).mp h39
            refine x_aload_n B (pc := 52) 0 dX3_send_52 rfl rfl ?_
            refine x_callV B (pc := 53) (As := []) (c_X1_creditLeft hl D e0 hj) xcl_L rfl 0 (j + 1) rfl (lk_get hj) tm315 tm316 tm317 tm6 tm318 md_X1_creditLeft ⟨Nat.le_of_ble_eq_true rfl, Nat.le_of_ble_eq_true rfl⟩ [1] rfl rfl rfl (Nat.le_of_ble_eq_true rfl) (Nat.le_of_ble_eq_true rfl) (Nat.le_of_ble_eq_true rfl) dX3_send_53 (fun E hE => False.elim hE) (fun v cs1 hp => ?_)
            obtain ⟨rfl, rfl⟩ := hp
            show G 56 [(3, .ref (ad (6 + j))), (0, .ref (ad 0)), (1, .int (nI j)), (2, .int (nI m))] [.int ((L 2 j - L 1 j) &&& 15)] [xoW ad 1 op tr, lkW D ad L, alW D e0 (ad 2) hs N, rwW D (ad 3) (ad 10) (ad 11) (ad 12) gf qf.length, dvW da N S om] 0 0
            refine x_if_ne B (pc := 56) 69 dX3_send_56 (by decide) (fun h56 => ?_) (fun h56 => ?_)
            · skip
              refine x_new B (pc := 69) (fs := [.int 0, .int 0, .int 0, .int 0, .int 0, .int 0, .int 0, .int 0, .int 0, .int 0, .int 0, .int 0]) xcl_D tm163 tm321 tm14 (fun j hj => by rcases (show j = 0 ∨ j = 1 ∨ j = 2 ∨ j = 3 ∨ j = 4 ∨ j = 5 ∨ j = 6 ∨ j = 7 ∨ j = 8 ∨ j = 9 ∨ j = 10 ∨ j = 11 by omega) with rfl | rfl | rfl | rfl | rfl | rfl | rfl | rfl | rfl | rfl | rfl | rfl <;> rfl) (Nat.le_of_ble_eq_true rfl) (Nat.le_of_ble_eq_true rfl) dX3_send_69 (fun q1 => ?_)
              show G 72 [(3, .ref (ad (6 + j))), (0, .ref (ad 0)), (1, .int (nI j)), (2, .int (nI m))] [.ref q1] [xoW ad 1 op tr, lkW D ad L, alW D e0 (ad 2) hs N, rwW D (ad 3) (ad 10) (ad 11) (ad 12) gf qf.length, dvW da N S om, [(q1, .inr (1, [.int 0, .int 0, .int 0, .int 0, .int 0, .int 0, .int 0, .int 0, .int 0, .int 0, .int 0, .int 0]))]] 1 12
              refine x_dup B (pc := 72) dX3_send_72 rfl ?_
              refine x_aload_n B (pc := 73) 1 dX3_send_73 rfl rfl ?_
              refine x_get B (pc := 74) xcl_X 0 0 1 rfl rfl (by decide) tm101 rfl rfl dX3_send_74 ?_
              refine x_callV B (pc := 77) (As := []) (c_Jx4a65c_size_8abf5 hl D e0 ) xcl_A rfl 0 0 rfl al_get0 tm129 tm130 tm131 tm4 tm132 md_Jx4a65c_size_8abf5 ⟨Nat.le_of_ble_eq_true rfl, Nat.le_of_ble_eq_true rfl⟩ [2] rfl rfl rfl (Nat.le_of_ble_eq_true rfl) (Nat.le_of_ble_eq_true rfl) (Nat.le_of_ble_eq_true rfl) dX3_send_77 (fun E hE => False.elim hE) (fun v cs1 hp => ?_)
              obtain ⟨rfl, rfl⟩ := hp
              show G 80 [(3, .ref (ad (6 + j))), (0, .ref (ad 0)), (1, .int (nI j)), (2, .int (nI m))] [.int (nI N), .ref q1, .ref q1] [xoW ad 1 op tr, lkW D ad L, alW D e0 (ad 2) hs N, rwW D (ad 3) (ad 10) (ad 11) (ad 12) gf qf.length, dvW da N S om, [(q1, .inr (1, [.int 0, .int 0, .int 0, .int 0, .int 0, .int 0, .int 0, .int 0, .int 0, .int 0, .int 0, .int 0]))]] 1 12
              refine x_iload_n B (pc := 80) 2 dX3_send_80 rfl rfl ?_
              refine x_aload_n B (pc := 81) 0 dX3_send_81 rfl rfl ?_
              refine x_get B (pc := 82) (v := .int (L 0 j)) xcl_L 1 (j + 1) 0 rfl (lk_get hj) (by decide) tm85 rfl rfl dX3_send_82 ?_
              refine x_iload_n B (pc := 85) 3 dX3_send_85 rfl rfl ?_
              refine x_callI B (pc := 86) (As := [.int (nI N), .int (nI j), .int (L 0 j), .int (nI m)]) (c_X0_init hl D e0 ) rfl tm322 tm323 tm14 tm324 md_X0_init ⟨Nat.le_of_ble_eq_true rfl, Nat.le_of_ble_eq_true rfl⟩ [5] rfl rfl rfl (Nat.le_of_ble_eq_true rfl) (Nat.le_of_ble_eq_true rfl) (Nat.le_of_ble_eq_true rfl) dX3_send_86 (fun E hE => False.elim hE) (fun v cs1 hp => ?_)
              obtain ⟨rfl, rfl⟩ := hp
              show G 89 [(3, .ref (ad (6 + j))), (0, .ref (ad 0)), (1, .int (nI j)), (2, .int (nI m))] [.ref q1] [xoW ad 1 op tr, lkW D ad L, alW D e0 (ad 2) hs N, rwW D (ad 3) (ad 10) (ad 11) (ad 12) gf qf.length, dvW da N S om, [(q1, .inr (1, [.int (nI N), .int (nI j), .int (L 0 j), .int (nI m), .int (if L 0 j = 0 then 1 else 0), .int (-1), .int 0, .int 0, .int 0, .int (-1), .int (-1), .int 0]))]] 1 12
              refine x_flat B (cs1 := [xoW ad 1 op tr, lkW D ad L, alW D e0 (ad 2) hs N, rwW D (ad 3) (ad 10) (ad 11) (ad 12) gf qf.length, dvW (va_up da N q1) (N + 1) (sendS L S N (nI j) (nI m)) (upd om N (-1))]) (by rw [← send_dv ej hz]; simp only [List.flatten_cons, List.flatten_nil, List.append_assoc, List.append_nil]) ?_
              obtain ⟨da1, eda⟩ : ∃ da1, da1 = va_up da N q1 := ⟨_, rfl⟩
              rw [← eda]
              have eq1 : q1 = da1 N := by rw [eda]; simp [va_up]
              have hda : ∀ i, i < N → da1 i = da i := fun i hi => by rw [eda]; simp [va_up, Nat.ne_of_lt hi]
              subst eq1
              refine x_astore B (pc := 89) [(4, .ref (da1 N)), (3, .ref (ad (6 + j))), (0, .ref (ad 0)), (1, .int (nI j)), (2, .int (nI m))] dX3_send_89 (by decide) rfl ?_
              refine x_aload_n B (pc := 91) 2 dX3_send_91 rfl rfl ?_
              refine x_get B (pc := 92) xcl_X 0 0 1 rfl rfl (by decide) tm101 rfl rfl dX3_send_92 ?_
              refine x_aload B (pc := 95) 0 dX3_send_95 rfl ?_
              refine x_callV B (pc := 97) (As := [.ref (da1 N)]) (c_Jx4a65c_add_9ea2d hl D e0 hok hN (Nat.lt_succ_self N) (fun i hi => ⟨i, Nat.lt_succ_of_lt hi, (hda i hi).symm⟩)) xcl_A rfl 0 0 rfl al_get0 tm372 tm373 tm374 tm4 tm375 md_Jx4a65c_add_9ea2d ⟨Nat.le_of_ble_eq_true rfl, Nat.le_of_ble_eq_true rfl⟩ [2, 4] rfl rfl rfl (Nat.le_of_ble_eq_true rfl) (Nat.le_of_ble_eq_true rfl) (Nat.le_of_ble_eq_true rfl) dX3_send_97 (fun E hE => False.elim hE) (fun v cs1 hp => ?_)
              obtain ⟨rfl, h1, hh1, rfl⟩ := hp
              rw [← eda] at hh1
              show G 100 [(4, .ref (da1 N)), (3, .ref (ad (6 + j))), (0, .ref (ad 0)), (1, .int (nI j)), (2, .int (nI m))] [.int 1] [xoW ad 1 op tr, lkW D ad L, alW D e0 (ad 2) h1 (N + 1), rwW D (ad 3) (ad 10) (ad 11) (ad 12) gf qf.length, dvW da1 (N + 1) (sendS L S N (nI j) (nI m)) (upd om N (-1))] 2 212
              refine x_pop B (pc := 100) dX3_send_100 rfl ?_
              refine x_aload_n B (pc := 101) 1 dX3_send_101 rfl rfl ?_
              refine x_callV B (pc := 102) (As := []) (c_X1_countSent hl D e0 hj) xcl_L rfl 0 (j + 1) rfl (lk_get hj) tm427 tm428 tm429 tm6 tm430 md_X1_countSent ⟨Nat.le_of_ble_eq_true rfl, Nat.le_of_ble_eq_true rfl⟩ [1] rfl rfl rfl (Nat.le_of_ble_eq_true rfl) (Nat.le_of_ble_eq_true rfl) (Nat.le_of_ble_eq_true rfl) dX3_send_102 (fun E hE => False.elim hE) (fun v cs1 hp => ?_)
              obtain ⟨rfl, rfl⟩ := hp
              show G 105 [(4, .ref (da1 N)), (3, .ref (ad (6 + j))), (0, .ref (ad 0)), (1, .int (nI j)), (2, .int (nI m))] [] [xoW ad 1 op tr, lkW D ad (xup L 1 j ((L 1 j + 1) &&& 15)), alW D e0 (ad 2) h1 (N + 1), rwW D (ad 3) (ad 10) (ad 11) (ad 12) gf qf.length, dvW da1 (N + 1) (sendS L S N (nI j) (nI m)) (upd om N (-1))] 2 212
              refine x_aload_n B (pc := 105) 2 dX3_send_105 rfl rfl ?_
              refine x_aload B (pc := 106) 0 dX3_send_106 rfl ?_
              refine x_iconst B (pc := 108) 0 dX3_send_108 (by decide) ?_
              refine x_callV B (pc := 109) (As := [.ref (da1 N), .int 0]) (c_X3_addParts hl D e0 (Nat.lt_succ_self N) sendS_6 hm4 hq (by omega)) xcl_X rfl 0 0 rfl rfl tm431 tm433 ts6 tm1 tm434 md_X3_addParts ⟨Nat.le_of_ble_eq_true rfl, Nat.le_of_ble_eq_true rfl⟩ [0, 3, 4] rfl rfl rfl (Nat.le_of_ble_eq_true rfl) (Nat.le_of_ble_eq_true rfl) (Nat.le_of_ble_eq_true rfl) dX3_send_109 (fun E hE => False.elim hE) (fun v cs1 hp => ?_)
              obtain ⟨rfl, g1, hg1, rfl⟩ := hp
              show G 112 [(4, .ref (da1 N)), (3, .ref (ad (6 + j))), (0, .ref (ad 0)), (1, .int (nI j)), (2, .int (nI m))] [] [xoW ad 1 op tr, lkW D ad (xup L 1 j ((L 1 j + 1) &&& 15)), alW D e0 (ad 2) h1 (N + 1), rwW D (ad 3) (ad 10) (ad 11) (ad 12) g1 ((qf ++ pts 0 N m).length), dvW da1 (N + 1) (sendS L S N (nI j) (nI m)) (upd om N (-1))] 2 212
              refine x_aload B (pc := 112) 0 dX3_send_112 rfl ?_
              refine x_get B (pc := 114) (v := .int (nI N)) xcl_D 4 N 0 rfl (dv_get (Nat.lt_succ_self N)) (by decide) tm327 rfl rfl dX3_send_114 ?_
              exact x_iret F (pc := 117) rfl dX3_send_117 (⟨by rw [ha, hb, decide_eq_true hN6, ej, decide_eq_false (show ¬ crd L j = 0 from h56)]; rfl, rfl, h1, g1, da1, hh1, hda, by rw [em]; exact hg1, by rw [em, ej]⟩) (Nat.le_of_ble_eq_true rfl) (Nat.le_of_ble_eq_true rfl)
            · skip
              exact x_throw F (pc := 59) (cls := "java/lang/IllegalStateException") (text := "the sender has no credit on the link") (by decide +kernel) xat_ISE.1 xat_ISE.2 tm283 tm12 (by decide +kernel) dX3_send_59 dX3_send_62 dX3_send_63 dX3_send_65 dX3_send_68 (Nat.le_of_ble_eq_true rfl) (Nat.le_of_ble_eq_true rfl) (Nat.le_of_ble_eq_true rfl) (Nat.le_of_ble_eq_true rfl) (xp3 (by rw [ha, hb, decide_eq_true hN6, ej, decide_eq_true (show crd L j = 0 from h56)]; rfl))
          · skip
            have hN6 : ¬ N < 60 := fun e => h39 (nI_lt (b := 60) e (by decide))
            exact x_throw F (pc := 42) (cls := "java/lang/IllegalStateException") (text := "there are as many deliveries as there can be") (by decide +kernel) xat_ISE.1 xat_ISE.2 tm283 tm12 (by decide +kernel) dX3_send_42 dX3_send_45 dX3_send_46 dX3_send_48 dX3_send_51 (Nat.le_of_ble_eq_true rfl) (Nat.le_of_ble_eq_true rfl) (Nat.le_of_ble_eq_true rfl) (Nat.le_of_ble_eq_true rfl) (xp3 (by rw [ha, hb, decide_eq_false hN6]; rfl))
      · skip
        exact x_throw F (pc := 16) (cls := "java/lang/IllegalArgumentException") (text := "frames is out of range") (by decide +kernel) xat_IAE.1 xat_IAE.2 tm258 tm11 (by decide +kernel) dX3_send_16 dX3_send_19 dX3_send_20 dX3_send_22 dX3_send_25 (Nat.le_of_ble_eq_true rfl) (Nat.le_of_ble_eq_true rfl) (Nat.le_of_ble_eq_true rfl) (Nat.le_of_ble_eq_true rfl) (xp2 (by rw [ha, (show xinB 1 4 b = false from by first | exact xinB_f1 h7 | exact xinB_f2 h12)]; rfl))

set_option maxRecDepth 100000 in
set_option maxHeartbeats 4000000 in
theorem c_X3_decide {l : Launch} (hl : l.stackTraces = false) (D : va_G) (e0 : Nat) {ad : Nat → Nat} {up op tr : Int32} {hs : xAg} {N : Nat} {gb : xRg} {qb : List xFr} {da : Nat → Nat} {S : xS} {om : Nat → Int32} {a b : Int32} (hup : up = 0 ∨ up = 1) (hok : alOk hs N da) (hN : N ≤ 60) (hq : rwOk qb gb) (hql : qb.length < 512) : xC l yX3_decide (.code yX3_decide cX3_decide 4 (some .int)) ({ frames := 7, cells := 1, slots := 6, locals := 103 } : Room) D e0 [.ref (ad 0), .int a, .int b] [xoW ad up op tr, alW D e0 (ad 2) hs N, rwW D (ad 4) (ad 13) (ad 14) (ad 15) gb qb.length, dvW da N S om] (fun v cs => cod (xinD N a) (xinB 0 2 b) (decide (up = 1) && (decide (S 9 (ix a) = 2) && decide (S 14 (ix a) = -1))) = 0 ∧ v = some (.int (aDec S (ix a) b 13 (ix a))) ∧ ∃ g1, rwOk (aOut S (ix a) (ix b) qb) g1 ∧ cs = [xoW ad up op tr, alW D e0 (ad 2) hs N, rwW D (ad 4) (ad 13) (ad 14) (ad 15) g1 ((aOut S (ix a) (ix b) qb).length), dvW da N (aDec S (ix a) b) (upd om (ix a) b)]) (fun E => xpo (cod (xinD N a) (xinB 0 2 b) (decide (up = 1) && (decide (S 9 (ix a) = 2) && decide (S 14 (ix a) = -1)))) xIOB xIAE xISE E) := by
  refine xC_of hl (by decide +kernel) (Nat.le_of_ble_eq_true rfl) (fun G X F => ?_)
  have B : xB l D e0 "CreditLinks" cX3_decide 4 (some .int) [] _ G X := F.base
  show G 0 [(0, .ref (ad 0)), (1, .int a), (2, .int b)] [] [xoW ad up op tr, alW D e0 (ad 2) hs N, rwW D (ad 4) (ad 13) (ad 14) (ad 15) gb qb.length, dvW da N S om] 0 0
  refine x_aload_n B (pc := 0) 0 dX3_decide_0 rfl rfl ?_
  refine x_iload_n B (pc := 1) 1 dX3_decide_1 rfl rfl ?_
  cases ha : xinD N a
  · skip
    refine x_callV B (pc := 2) (As := [.int a]) (c_deliveryAt_no hl D e0 ha) xcl_X rfl 0 0 rfl rfl tm439 tm441 ts7 tm1 tm442 md_X3_deliveryAt ⟨Nat.le_of_ble_eq_true rfl, Nat.le_of_ble_eq_true rfl⟩ [0, 1, 3] rfl rfl rfl (Nat.le_of_ble_eq_true rfl) (Nat.le_of_ble_eq_true rfl) (Nat.le_of_ble_eq_true rfl) dX3_decide_2 (fun E hE => x_out F (by subst hE; exact xp1 (by rw [ha]; rfl)) (Nat.le_of_ble_eq_true rfl) (Nat.le_of_ble_eq_true rfl)) (fun v cs1 hp => ?_)
    exact False.elim hp
  · obtain ⟨d, hd, rfl⟩ := xinD_t ha (by omega)
    have ed : ix (nI d) = d := ix_nI (by omega)
    refine x_callV B (pc := 2) (As := [.int (nI d)]) (c_X3_deliveryAt hl D e0 hok hN hd) xcl_X rfl 0 0 rfl rfl tm439 tm441 ts7 tm1 tm442 md_X3_deliveryAt ⟨Nat.le_of_ble_eq_true rfl, Nat.le_of_ble_eq_true rfl⟩ [0, 1, 3] rfl rfl rfl (Nat.le_of_ble_eq_true rfl) (Nat.le_of_ble_eq_true rfl) (Nat.le_of_ble_eq_true rfl) dX3_decide_2 (fun E hE => False.elim hE) (fun v cs1 hp => ?_)
    obtain ⟨rfl, rfl⟩ := hp
    show G 5 [(0, .ref (ad 0)), (1, .int (nI d)), (2, .int b)] [.ref (da d)] [xoW ad up op tr, alW D e0 (ad 2) hs N, rwW D (ad 4) (ad 13) (ad 14) (ad 15) gb qb.length, dvW da N S om] 0 0
    refine x_astore_n B (pc := 5) [(3, .ref (da d)), (0, .ref (ad 0)), (1, .int (nI d)), (2, .int b)] dX3_decide_5 rfl (by decide) rfl ?_
    refine x_iload_n B (pc := 6) 3 dX3_decide_6 rfl rfl ?_
    cases hb : xinB 0 2 b
    · skip
      refine x_callS B (pc := 7) (As := [.int b]) (c_requireOutcome_no hl D e0 hb) tm444 tm445 tm1 tm446 md_X3_requireOutcome ⟨Nat.le_of_ble_eq_true rfl, Nat.le_of_ble_eq_true rfl⟩ [] rfl rfl rfl (Nat.le_of_ble_eq_true rfl) (Nat.le_of_ble_eq_true rfl) (Nat.le_of_ble_eq_true rfl) dX3_decide_7 (fun E hE => x_out F (by subst hE; exact xp2 (by rw [ha, hb]; rfl)) (Nat.le_of_ble_eq_true rfl) (Nat.le_of_ble_eq_true rfl)) (fun v cs1 hp => ?_)
      exact False.elim hp
    · obtain ⟨oo, ho0, ho2, rfl⟩ := xinB_t hb (by decide) (by decide)
      have eo : ix (nI oo) = oo := ix_nI (by omega)
      refine x_callS B (pc := 7) (As := [.int (nI oo)]) (c_X3_requireOutcome hl D e0 ho2) tm444 tm445 tm1 tm446 md_X3_requireOutcome ⟨Nat.le_of_ble_eq_true rfl, Nat.le_of_ble_eq_true rfl⟩ [] rfl rfl rfl (Nat.le_of_ble_eq_true rfl) (Nat.le_of_ble_eq_true rfl) (Nat.le_of_ble_eq_true rfl) dX3_decide_7 (fun E hE => False.elim hE) (fun v cs1 hp => ?_)
      obtain ⟨rfl, rfl⟩ := hp
      show G 10 [(3, .ref (da d)), (0, .ref (ad 0)), (1, .int (nI d)), (2, .int (nI oo))] [] [xoW ad up op tr, alW D e0 (ad 2) hs N, rwW D (ad 4) (ad 13) (ad 14) (ad 15) gb qb.length, dvW da N S om] 0 0
      refine x_aload_n B (pc := 10) 1 dX3_decide_10 rfl rfl ?_
      rcases hup with rfl | rfl
      · skip
        refine x_callV B (pc := 11) (As := []) (c_X3_requireConnection_no hl D e0 ) xcl_X rfl 0 0 rfl rfl tm279 tm281 ts2 tm1 tm282 md_X3_requireConnection ⟨Nat.le_of_ble_eq_true rfl, Nat.le_of_ble_eq_true rfl⟩ [0] rfl rfl rfl (Nat.le_of_ble_eq_true rfl) (Nat.le_of_ble_eq_true rfl) (Nat.le_of_ble_eq_true rfl) dX3_decide_11 (fun E hE => x_out F (by subst hE; exact xp3 (by rw [ha, hb]; rfl)) (Nat.le_of_ble_eq_true rfl) (Nat.le_of_ble_eq_true rfl)) (fun v cs1 hp => ?_)
        exact False.elim hp
      · skip
        refine x_callV B (pc := 11) (As := []) (c_X3_requireConnection hl D e0 ) xcl_X rfl 0 0 rfl rfl tm279 tm281 ts2 tm1 tm282 md_X3_requireConnection ⟨Nat.le_of_ble_eq_true rfl, Nat.le_of_ble_eq_true rfl⟩ [0] rfl rfl rfl (Nat.le_of_ble_eq_true rfl) (Nat.le_of_ble_eq_true rfl) (Nat.le_of_ble_eq_true rfl) dX3_decide_11 (fun E hE => False.elim hE) (fun v cs1 hp => ?_)
        obtain ⟨rfl, rfl⟩ := hp
        show G 14 [(3, .ref (da d)), (0, .ref (ad 0)), (1, .int (nI d)), (2, .int (nI oo))] [] [xoW ad 1 op tr, alW D e0 (ad 2) hs N, rwW D (ad 4) (ad 13) (ad 14) (ad 15) gb qb.length, dvW da N S om] 0 0
        refine x_aload_n B (pc := 14) 0 dX3_decide_14 rfl rfl ?_
        by_cases hund : ¬ (S 9 d = 2 ∧ S 14 d = -1)
        · skip
          refine x_callS B (pc := 15) (As := [.ref (da d)]) (c_requireUndecided_no hl D e0 hd hund) tm448 tm449 tm1 tm450 md_X3_requireUndecided ⟨Nat.le_of_ble_eq_true rfl, Nat.le_of_ble_eq_true rfl⟩ [3] rfl rfl rfl (Nat.le_of_ble_eq_true rfl) (Nat.le_of_ble_eq_true rfl) (Nat.le_of_ble_eq_true rfl) dX3_decide_15 (fun E hE => x_out F (by subst hE; exact xp3 (by rw [ha, hb, ed, und_no hund]; rfl)) (Nat.le_of_ble_eq_true rfl) (Nat.le_of_ble_eq_true rfl)) (fun v cs1 hp => ?_)
          exact False.elim hp
        · have hund2 := Classical.not_not.mp hund
          refine x_callS B (pc := 15) (As := [.ref (da d)]) (c_X3_requireUndecided hl D e0 hd hund2.1 hund2.2) tm448 tm449 tm1 tm450 md_X3_requireUndecided ⟨Nat.le_of_ble_eq_true rfl, Nat.le_of_ble_eq_true rfl⟩ [3] rfl rfl rfl (Nat.le_of_ble_eq_true rfl) (Nat.le_of_ble_eq_true rfl) (Nat.le_of_ble_eq_true rfl) dX3_decide_15 (fun E hE => False.elim hE) (fun v cs1 hp => ?_)
          obtain ⟨rfl, rfl⟩ := hp
          show G 18 [(3, .ref (da d)), (0, .ref (ad 0)), (1, .int (nI d)), (2, .int (nI oo))] [] [xoW ad 1 op tr, alW D e0 (ad 2) hs N, rwW D (ad 4) (ad 13) (ad 14) (ad 15) gb qb.length, dvW da N S om] 0 0
          refine x_aload_n B (pc := 18) 1 dX3_decide_18 rfl rfl ?_
          refine x_aload_n B (pc := 19) 0 dX3_decide_19 rfl rfl ?_
          refine x_iload_n B (pc := 20) 3 dX3_decide_20 rfl rfl ?_
          refine x_callV B (pc := 21) (As := [.ref (da d), .int (nI oo)]) (c_X3_carryOut hl D e0 hd hq hql) xcl_X rfl 0 0 rfl rfl tm453 tm455 ts8 tm1 tm456 md_X3_carryOut ⟨Nat.le_of_ble_eq_true rfl, Nat.le_of_ble_eq_true rfl⟩ [0, 2, 3] rfl rfl rfl (Nat.le_of_ble_eq_true rfl) (Nat.le_of_ble_eq_true rfl) (Nat.le_of_ble_eq_true rfl) dX3_decide_21 (fun E hE => False.elim hE) (fun v cs1 hp => ?_)
          obtain ⟨rfl, g1, hg1, rfl⟩ := hp
          show G 24 [(3, .ref (da d)), (0, .ref (ad 0)), (1, .int (nI d)), (2, .int (nI oo))] [] [xoW ad 1 op tr, alW D e0 (ad 2) hs N, rwW D (ad 4) (ad 13) (ad 14) (ad 15) g1 ((aOut S d oo qb).length), dvW da N (aDec S d (nI oo)) (upd om d (nI oo))] 0 0
          refine x_aload_n B (pc := 24) 0 dX3_decide_24 rfl rfl ?_
          refine x_get B (pc := 25) (v := .int ((aDec S d (nI oo)) 13 d)) xcl_D 3 d 11 rfl (dv_get hd) (by decide) tm346 rfl rfl dX3_decide_25 ?_
          exact x_iret F (pc := 28) rfl dX3_decide_28 (⟨by rw [ha, hb, ed, decide_eq_true hund2.1, decide_eq_true hund2.2]; rfl, by rw [ed], g1, by rw [ed, eo]; exact hg1, by rw [ed, eo]⟩) (Nat.le_of_ble_eq_true rfl) (Nat.le_of_ble_eq_true rfl)

set_option maxRecDepth 100000 in
set_option maxHeartbeats 4000000 in
theorem c_X3_deliveries {l : Launch} (hl : l.stackTraces = false) (D : va_G) (e0 : Nat) {ad : Nat → Nat} {up op tr : Int32} {hs : xAg} {N : Nat}  : xC l yX3_deliveries (.code yX3_deliveries cX3_deliveries 1 (some .int)) ({ frames := 1, cells := 0, slots := 0, locals := 20 } : Room) D e0 [.ref (ad 0)] [xoW ad up op tr, alW D e0 (ad 2) hs N] (fun v cs => v = some (.int (nI N)) ∧ cs = [xoW ad up op tr, alW D e0 (ad 2) hs N]) (fun _ => False) := by
  refine xC_of hl (by decide +kernel) (Nat.le_of_ble_eq_true rfl) (fun G X F => ?_)
  have B : xB l D e0 "CreditLinks" cX3_deliveries 1 (some .int) [] _ G X := F.base
  show G 0 [(0, .ref (ad 0))] [] [xoW ad up op tr, alW D e0 (ad 2) hs N] 0 0
  refine x_aload_n B (pc := 0) 0 dX3_deliveries_0 rfl rfl ?_
  refine x_get B (pc := 1) xcl_X 0 0 1 rfl rfl (by decide) tm101 rfl rfl dX3_deliveries_1 ?_
  refine x_callV B (pc := 4) (As := []) (c_Jx4a65c_size_8abf5 hl D e0 ) xcl_A rfl 0 0 rfl al_get0 tm129 tm130 tm131 tm4 tm132 md_Jx4a65c_size_8abf5 ⟨Nat.le_of_ble_eq_true rfl, Nat.le_of_ble_eq_true rfl⟩ [1] rfl rfl rfl (Nat.le_of_ble_eq_true rfl) (Nat.le_of_ble_eq_true rfl) (Nat.le_of_ble_eq_true rfl) dX3_deliveries_4 (fun E hE => False.elim hE) (fun v cs1 hp => ?_)
  obtain ⟨rfl, rfl⟩ := hp
  show G 7 [(0, .ref (ad 0))] [.int (nI N)] [xoW ad up op tr, alW D e0 (ad 2) hs N] 0 0
  exact x_iret F (pc := 7) rfl dX3_deliveries_7 (⟨rfl, rfl⟩) (Nat.le_of_ble_eq_true rfl) (Nat.le_of_ble_eq_true rfl)

set_option maxRecDepth 100000 in
set_option maxHeartbeats 4000000 in
theorem c_X3_underWay {l : Launch} (hl : l.stackTraces = false) (D : va_G) (e0 : Nat) {ad : Nat → Nat} {up op tr : Int32} {gf : xRg} {qf : List xFr}  : xC l yX3_underWay (.code yX3_underWay cX3_underWay 1 (some .int)) ({ frames := 1, cells := 0, slots := 0, locals := 20 } : Room) D e0 [.ref (ad 0)] [xoW ad up op tr, rwW D (ad 3) (ad 10) (ad 11) (ad 12) gf qf.length] (fun v cs => v = some (.int (nI qf.length)) ∧ cs = [xoW ad up op tr, rwW D (ad 3) (ad 10) (ad 11) (ad 12) gf qf.length]) (fun _ => False) := by
  refine xC_of hl (by decide +kernel) (Nat.le_of_ble_eq_true rfl) (fun G X F => ?_)
  have B : xB l D e0 "CreditLinks" cX3_underWay 1 (some .int) [] _ G X := F.base
  show G 0 [(0, .ref (ad 0))] [] [xoW ad up op tr, rwW D (ad 3) (ad 10) (ad 11) (ad 12) gf qf.length] 0 0
  refine x_aload_n B (pc := 0) 0 dX3_underWay_0 rfl rfl ?_
  refine x_get B (pc := 1) xcl_X 0 0 2 rfl rfl (by decide) tm102 rfl rfl dX3_underWay_1 ?_
  refine x_callV B (pc := 4) (As := []) (c_X2_length hl D e0 ) xcl_R rfl 0 0 rfl rfl tm137 tm138 tm139 tm5 tm140 md_X2_length ⟨Nat.le_of_ble_eq_true rfl, Nat.le_of_ble_eq_true rfl⟩ [1] rfl rfl rfl (Nat.le_of_ble_eq_true rfl) (Nat.le_of_ble_eq_true rfl) (Nat.le_of_ble_eq_true rfl) dX3_underWay_4 (fun E hE => False.elim hE) (fun v cs1 hp => ?_)
  obtain ⟨rfl, rfl⟩ := hp
  show G 7 [(0, .ref (ad 0))] [.int (nI qf.length)] [xoW ad up op tr, rwW D (ad 3) (ad 10) (ad 11) (ad 12) gf qf.length] 0 0
  exact x_iret F (pc := 7) rfl dX3_underWay_7 (⟨rfl, rfl⟩) (Nat.le_of_ble_eq_true rfl) (Nat.le_of_ble_eq_true rfl)

set_option maxRecDepth 100000 in
set_option maxHeartbeats 4000000 in
theorem c_X3_backUnderWay {l : Launch} (hl : l.stackTraces = false) (D : va_G) (e0 : Nat) {ad : Nat → Nat} {up op tr : Int32} {gb : xRg} {qb : List xFr}  : xC l yX3_backUnderWay (.code yX3_backUnderWay cX3_backUnderWay 1 (some .int)) ({ frames := 1, cells := 0, slots := 0, locals := 20 } : Room) D e0 [.ref (ad 0)] [xoW ad up op tr, rwW D (ad 4) (ad 13) (ad 14) (ad 15) gb qb.length] (fun v cs => v = some (.int (nI qb.length)) ∧ cs = [xoW ad up op tr, rwW D (ad 4) (ad 13) (ad 14) (ad 15) gb qb.length]) (fun _ => False) := by
  refine xC_of hl (by decide +kernel) (Nat.le_of_ble_eq_true rfl) (fun G X F => ?_)
  have B : xB l D e0 "CreditLinks" cX3_backUnderWay 1 (some .int) [] _ G X := F.base
  show G 0 [(0, .ref (ad 0))] [] [xoW ad up op tr, rwW D (ad 4) (ad 13) (ad 14) (ad 15) gb qb.length] 0 0
  refine x_aload_n B (pc := 0) 0 dX3_backUnderWay_0 rfl rfl ?_
  refine x_get B (pc := 1) xcl_X 0 0 3 rfl rfl (by decide) tm103 rfl rfl dX3_backUnderWay_1 ?_
  refine x_callV B (pc := 4) (As := []) (c_X2_length hl D e0 ) xcl_R rfl 0 0 rfl rfl tm137 tm138 tm139 tm5 tm140 md_X2_length ⟨Nat.le_of_ble_eq_true rfl, Nat.le_of_ble_eq_true rfl⟩ [1] rfl rfl rfl (Nat.le_of_ble_eq_true rfl) (Nat.le_of_ble_eq_true rfl) (Nat.le_of_ble_eq_true rfl) dX3_backUnderWay_4 (fun E hE => False.elim hE) (fun v cs1 hp => ?_)
  obtain ⟨rfl, rfl⟩ := hp
  show G 7 [(0, .ref (ad 0))] [.int (nI qb.length)] [xoW ad up op tr, rwW D (ad 4) (ad 13) (ad 14) (ad 15) gb qb.length] 0 0
  exact x_iret F (pc := 7) rfl dX3_backUnderWay_7 (⟨rfl, rfl⟩) (Nat.le_of_ble_eq_true rfl) (Nat.le_of_ble_eq_true rfl)

set_option maxRecDepth 100000 in
set_option maxHeartbeats 4000000 in
theorem c_X3_forSender {l : Launch} (hl : l.stackTraces = false) (D : va_G) (e0 : Nat) {ad : Nat → Nat} {up op tr : Int32} {hs : xAg} {N : Nat} {da : Nat → Nat} {S : xS} {om : Nat → Int32} {a : Int32} (hok : alOk hs N da) (hN : N ≤ 60) : xC l yX3_forSender (.code yX3_forSender cX3_forSender 2 (some .int)) ({ frames := 7, cells := 1, slots := 6, locals := 103 } : Room) D e0 [.ref (ad 0), .int a] [xoW ad up op tr, alW D e0 (ad 2) hs N, dvW da N S om] (fun v cs => cod (xinD N a) true true = 0 ∧ v = some (.int (S 7 (ix a))) ∧ cs = [xoW ad up op tr, alW D e0 (ad 2) hs N, dvW da N S om]) (fun E => xpo (cod (xinD N a) true true) xIOB xIAE xISE E) := by
  refine xC_of hl (by decide +kernel) (Nat.le_of_ble_eq_true rfl) (fun G X F => ?_)
  have B : xB l D e0 "CreditLinks" cX3_forSender 2 (some .int) [] _ G X := F.base
  show G 0 [(0, .ref (ad 0)), (1, .int a)] [] [xoW ad up op tr, alW D e0 (ad 2) hs N, dvW da N S om] 0 0
  refine x_aload_n B (pc := 0) 0 dX3_forSender_0 rfl rfl ?_
  refine x_iload_n B (pc := 1) 1 dX3_forSender_1 rfl rfl ?_
  cases ha : xinD N a
  · skip
    refine x_callV B (pc := 2) (As := [.int a]) (c_deliveryAt_no hl D e0 ha) xcl_X rfl 0 0 rfl rfl tm439 tm441 ts7 tm1 tm442 md_X3_deliveryAt ⟨Nat.le_of_ble_eq_true rfl, Nat.le_of_ble_eq_true rfl⟩ [0, 1, 2] rfl rfl rfl (Nat.le_of_ble_eq_true rfl) (Nat.le_of_ble_eq_true rfl) (Nat.le_of_ble_eq_true rfl) dX3_forSender_2 (fun E hE => x_out F (by subst hE; exact xp1 (by rw [ha]; rfl)) (Nat.le_of_ble_eq_true rfl) (Nat.le_of_ble_eq_true rfl)) (fun v cs1 hp => ?_)
    exact False.elim hp
  · obtain ⟨d, hd, rfl⟩ := xinD_t ha (by omega)
    have ed : ix (nI d) = d := ix_nI (by omega)
    refine x_callV B (pc := 2) (As := [.int (nI d)]) (c_X3_deliveryAt hl D e0 hok hN hd) xcl_X rfl 0 0 rfl rfl tm439 tm441 ts7 tm1 tm442 md_X3_deliveryAt ⟨Nat.le_of_ble_eq_true rfl, Nat.le_of_ble_eq_true rfl⟩ [0, 1, 2] rfl rfl rfl (Nat.le_of_ble_eq_true rfl) (Nat.le_of_ble_eq_true rfl) (Nat.le_of_ble_eq_true rfl) dX3_forSender_2 (fun E hE => False.elim hE) (fun v cs1 hp => ?_)
    obtain ⟨rfl, rfl⟩ := hp
    show G 5 [(0, .ref (ad 0)), (1, .int (nI d))] [.ref (da d)] [xoW ad up op tr, alW D e0 (ad 2) hs N, dvW da N S om] 0 0
    refine x_get B (pc := 5) (v := .int (S 7 d)) xcl_D 2 d 4 rfl (dv_get hd) (by decide) tm335 rfl rfl dX3_forSender_5 ?_
    exact x_iret F (pc := 8) rfl dX3_forSender_8 (⟨by rw [ha]; rfl, by rw [ed], rfl⟩) (Nat.le_of_ble_eq_true rfl) (Nat.le_of_ble_eq_true rfl)

set_option maxRecDepth 100000 in
set_option maxHeartbeats 4000000 in
theorem c_X3_heard {l : Launch} (hl : l.stackTraces = false) (D : va_G) (e0 : Nat) {ad : Nat → Nat} {up op tr : Int32} {hs : xAg} {N : Nat} {da : Nat → Nat} {S : xS} {om : Nat → Int32} {a : Int32} (hok : alOk hs N da) (hN : N ≤ 60) : xC l yX3_heard (.code yX3_heard cX3_heard 2 (some .int)) ({ frames := 7, cells := 1, slots := 6, locals := 103 } : Room) D e0 [.ref (ad 0), .int a] [xoW ad up op tr, alW D e0 (ad 2) hs N, dvW da N S om] (fun v cs => cod (xinD N a) true true = 0 ∧ v = some (.int (S 8 (ix a))) ∧ cs = [xoW ad up op tr, alW D e0 (ad 2) hs N, dvW da N S om]) (fun E => xpo (cod (xinD N a) true true) xIOB xIAE xISE E) := by
  refine xC_of hl (by decide +kernel) (Nat.le_of_ble_eq_true rfl) (fun G X F => ?_)
  have B : xB l D e0 "CreditLinks" cX3_heard 2 (some .int) [] _ G X := F.base
  show G 0 [(0, .ref (ad 0)), (1, .int a)] [] [xoW ad up op tr, alW D e0 (ad 2) hs N, dvW da N S om] 0 0
  refine x_aload_n B (pc := 0) 0 dX3_heard_0 rfl rfl ?_
  refine x_iload_n B (pc := 1) 1 dX3_heard_1 rfl rfl ?_
  cases ha : xinD N a
  · skip
    refine x_callV B (pc := 2) (As := [.int a]) (c_deliveryAt_no hl D e0 ha) xcl_X rfl 0 0 rfl rfl tm439 tm441 ts7 tm1 tm442 md_X3_deliveryAt ⟨Nat.le_of_ble_eq_true rfl, Nat.le_of_ble_eq_true rfl⟩ [0, 1, 2] rfl rfl rfl (Nat.le_of_ble_eq_true rfl) (Nat.le_of_ble_eq_true rfl) (Nat.le_of_ble_eq_true rfl) dX3_heard_2 (fun E hE => x_out F (by subst hE; exact xp1 (by rw [ha]; rfl)) (Nat.le_of_ble_eq_true rfl) (Nat.le_of_ble_eq_true rfl)) (fun v cs1 hp => ?_)
    exact False.elim hp
  · obtain ⟨d, hd, rfl⟩ := xinD_t ha (by omega)
    have ed : ix (nI d) = d := ix_nI (by omega)
    refine x_callV B (pc := 2) (As := [.int (nI d)]) (c_X3_deliveryAt hl D e0 hok hN hd) xcl_X rfl 0 0 rfl rfl tm439 tm441 ts7 tm1 tm442 md_X3_deliveryAt ⟨Nat.le_of_ble_eq_true rfl, Nat.le_of_ble_eq_true rfl⟩ [0, 1, 2] rfl rfl rfl (Nat.le_of_ble_eq_true rfl) (Nat.le_of_ble_eq_true rfl) (Nat.le_of_ble_eq_true rfl) dX3_heard_2 (fun E hE => False.elim hE) (fun v cs1 hp => ?_)
    obtain ⟨rfl, rfl⟩ := hp
    show G 5 [(0, .ref (ad 0)), (1, .int (nI d))] [.ref (da d)] [xoW ad up op tr, alW D e0 (ad 2) hs N, dvW da N S om] 0 0
    refine x_get B (pc := 5) (v := .int (S 8 d)) xcl_D 2 d 5 rfl (dv_get hd) (by decide) tm337 rfl rfl dX3_heard_5 ?_
    exact x_iret F (pc := 8) rfl dX3_heard_8 (⟨by rw [ha]; rfl, by rw [ed], rfl⟩) (Nat.le_of_ble_eq_true rfl) (Nat.le_of_ble_eq_true rfl)

set_option maxRecDepth 100000 in
set_option maxHeartbeats 4000000 in
theorem c_X3_forReceiver {l : Launch} (hl : l.stackTraces = false) (D : va_G) (e0 : Nat) {ad : Nat → Nat} {up op tr : Int32} {hs : xAg} {N : Nat} {da : Nat → Nat} {S : xS} {om : Nat → Int32} {a : Int32} (hok : alOk hs N da) (hN : N ≤ 60) : xC l yX3_forReceiver (.code yX3_forReceiver cX3_forReceiver 2 (some .int)) ({ frames := 7, cells := 1, slots := 6, locals := 103 } : Room) D e0 [.ref (ad 0), .int a] [xoW ad up op tr, alW D e0 (ad 2) hs N, dvW da N S om] (fun v cs => cod (xinD N a) true true = 0 ∧ v = some (.int (S 9 (ix a))) ∧ cs = [xoW ad up op tr, alW D e0 (ad 2) hs N, dvW da N S om]) (fun E => xpo (cod (xinD N a) true true) xIOB xIAE xISE E) := by
  refine xC_of hl (by decide +kernel) (Nat.le_of_ble_eq_true rfl) (fun G X F => ?_)
  have B : xB l D e0 "CreditLinks" cX3_forReceiver 2 (some .int) [] _ G X := F.base
  show G 0 [(0, .ref (ad 0)), (1, .int a)] [] [xoW ad up op tr, alW D e0 (ad 2) hs N, dvW da N S om] 0 0
  refine x_aload_n B (pc := 0) 0 dX3_forReceiver_0 rfl rfl ?_
  refine x_iload_n B (pc := 1) 1 dX3_forReceiver_1 rfl rfl ?_
  cases ha : xinD N a
  · skip
    refine x_callV B (pc := 2) (As := [.int a]) (c_deliveryAt_no hl D e0 ha) xcl_X rfl 0 0 rfl rfl tm439 tm441 ts7 tm1 tm442 md_X3_deliveryAt ⟨Nat.le_of_ble_eq_true rfl, Nat.le_of_ble_eq_true rfl⟩ [0, 1, 2] rfl rfl rfl (Nat.le_of_ble_eq_true rfl) (Nat.le_of_ble_eq_true rfl) (Nat.le_of_ble_eq_true rfl) dX3_forReceiver_2 (fun E hE => x_out F (by subst hE; exact xp1 (by rw [ha]; rfl)) (Nat.le_of_ble_eq_true rfl) (Nat.le_of_ble_eq_true rfl)) (fun v cs1 hp => ?_)
    exact False.elim hp
  · obtain ⟨d, hd, rfl⟩ := xinD_t ha (by omega)
    have ed : ix (nI d) = d := ix_nI (by omega)
    refine x_callV B (pc := 2) (As := [.int (nI d)]) (c_X3_deliveryAt hl D e0 hok hN hd) xcl_X rfl 0 0 rfl rfl tm439 tm441 ts7 tm1 tm442 md_X3_deliveryAt ⟨Nat.le_of_ble_eq_true rfl, Nat.le_of_ble_eq_true rfl⟩ [0, 1, 2] rfl rfl rfl (Nat.le_of_ble_eq_true rfl) (Nat.le_of_ble_eq_true rfl) (Nat.le_of_ble_eq_true rfl) dX3_forReceiver_2 (fun E hE => False.elim hE) (fun v cs1 hp => ?_)
    obtain ⟨rfl, rfl⟩ := hp
    show G 5 [(0, .ref (ad 0)), (1, .int (nI d))] [.ref (da d)] [xoW ad up op tr, alW D e0 (ad 2) hs N, dvW da N S om] 0 0
    refine x_get B (pc := 5) (v := .int (S 9 d)) xcl_D 2 d 6 rfl (dv_get hd) (by decide) tm339 rfl rfl dX3_forReceiver_5 ?_
    exact x_iret F (pc := 8) rfl dX3_forReceiver_8 (⟨by rw [ha]; rfl, by rw [ed], rfl⟩) (Nat.le_of_ble_eq_true rfl) (Nat.le_of_ble_eq_true rfl)

set_option maxRecDepth 100000 in
set_option maxHeartbeats 4000000 in
theorem c_X3_effects {l : Launch} (hl : l.stackTraces = false) (D : va_G) (e0 : Nat) {ad : Nat → Nat} {up op tr : Int32} {hs : xAg} {N : Nat} {da : Nat → Nat} {S : xS} {om : Nat → Int32} {a : Int32} (hok : alOk hs N da) (hN : N ≤ 60) : xC l yX3_effects (.code yX3_effects cX3_effects 2 (some .int)) ({ frames := 7, cells := 1, slots := 6, locals := 103 } : Room) D e0 [.ref (ad 0), .int a] [xoW ad up op tr, alW D e0 (ad 2) hs N, dvW da N S om] (fun v cs => cod (xinD N a) true true = 0 ∧ v = some (.int (S 13 (ix a))) ∧ cs = [xoW ad up op tr, alW D e0 (ad 2) hs N, dvW da N S om]) (fun E => xpo (cod (xinD N a) true true) xIOB xIAE xISE E) := by
  refine xC_of hl (by decide +kernel) (Nat.le_of_ble_eq_true rfl) (fun G X F => ?_)
  have B : xB l D e0 "CreditLinks" cX3_effects 2 (some .int) [] _ G X := F.base
  show G 0 [(0, .ref (ad 0)), (1, .int a)] [] [xoW ad up op tr, alW D e0 (ad 2) hs N, dvW da N S om] 0 0
  refine x_aload_n B (pc := 0) 0 dX3_effects_0 rfl rfl ?_
  refine x_iload_n B (pc := 1) 1 dX3_effects_1 rfl rfl ?_
  cases ha : xinD N a
  · skip
    refine x_callV B (pc := 2) (As := [.int a]) (c_deliveryAt_no hl D e0 ha) xcl_X rfl 0 0 rfl rfl tm439 tm441 ts7 tm1 tm442 md_X3_deliveryAt ⟨Nat.le_of_ble_eq_true rfl, Nat.le_of_ble_eq_true rfl⟩ [0, 1, 2] rfl rfl rfl (Nat.le_of_ble_eq_true rfl) (Nat.le_of_ble_eq_true rfl) (Nat.le_of_ble_eq_true rfl) dX3_effects_2 (fun E hE => x_out F (by subst hE; exact xp1 (by rw [ha]; rfl)) (Nat.le_of_ble_eq_true rfl) (Nat.le_of_ble_eq_true rfl)) (fun v cs1 hp => ?_)
    exact False.elim hp
  · obtain ⟨d, hd, rfl⟩ := xinD_t ha (by omega)
    have ed : ix (nI d) = d := ix_nI (by omega)
    refine x_callV B (pc := 2) (As := [.int (nI d)]) (c_X3_deliveryAt hl D e0 hok hN hd) xcl_X rfl 0 0 rfl rfl tm439 tm441 ts7 tm1 tm442 md_X3_deliveryAt ⟨Nat.le_of_ble_eq_true rfl, Nat.le_of_ble_eq_true rfl⟩ [0, 1, 2] rfl rfl rfl (Nat.le_of_ble_eq_true rfl) (Nat.le_of_ble_eq_true rfl) (Nat.le_of_ble_eq_true rfl) dX3_effects_2 (fun E hE => False.elim hE) (fun v cs1 hp => ?_)
    obtain ⟨rfl, rfl⟩ := hp
    show G 5 [(0, .ref (ad 0)), (1, .int (nI d))] [.ref (da d)] [xoW ad up op tr, alW D e0 (ad 2) hs N, dvW da N S om] 0 0
    refine x_get B (pc := 5) (v := .int (S 13 d)) xcl_D 2 d 11 rfl (dv_get hd) (by decide) tm346 rfl rfl dX3_effects_5 ?_
    exact x_iret F (pc := 8) rfl dX3_effects_8 (⟨by rw [ha]; rfl, by rw [ed], rfl⟩) (Nat.le_of_ble_eq_true rfl) (Nat.le_of_ble_eq_true rfl)

set_option maxRecDepth 100000 in
set_option maxHeartbeats 4000000 in
theorem c_X3_isUp {l : Launch} (hl : l.stackTraces = false) (D : va_G) (e0 : Nat) {ad : Nat → Nat} {up op tr : Int32} (hup : up = 0 ∨ up = 1) : xC l yX3_isUp (.code yX3_isUp cX3_isUp 1 (some .boolean)) ({ frames := 0, cells := 0, slots := 0, locals := 0 } : Room) D e0 [.ref (ad 0)] [xoW ad up op tr] (fun v cs => v = some (.int up) ∧ cs = [xoW ad up op tr]) (fun _ => False) := by
  refine xC_of hl (by decide +kernel) (Nat.le_of_ble_eq_true rfl) (fun G X F => ?_)
  have B : xB l D e0 "CreditLinks" cX3_isUp 1 (some .boolean) [] _ G X := F.base
  show G 0 [(0, .ref (ad 0))] [] [xoW ad up op tr] 0 0
  refine x_aload_n B (pc := 0) 0 dX3_isUp_0 rfl rfl ?_
  refine x_get B (pc := 1) (v := .int up) xcl_X 0 0 5 rfl rfl (by decide) tm105 rfl rfl dX3_isUp_1 ?_
  exact x_zret F (pc := 4) rfl (by rcases hup with rfl | rfl <;> rfl) dX3_isUp_4 (⟨rfl, rfl⟩) (Nat.le_of_ble_eq_true rfl) (Nat.le_of_ble_eq_true rfl)

set_option maxRecDepth 100000 in
set_option maxHeartbeats 4000000 in
theorem c_X3_breakOff {l : Launch} (hl : l.stackTraces = false) (D : va_G) (e0 : Nat) {ad : Nat → Nat} {up op tr : Int32} {gf : xRg} {qf : List xFr} {gb : xRg} {qb : List xFr} {ht : xAg} {tq : List Nat} {N : Nat} {da : Nat → Nat} {S : xS} {om : Nat → Int32} (hup : up = 0 ∨ up = 1) (hok : alOk ht tq.length (fun i => da (tq.getD i 0))) (hT : tq.length ≤ 60) (hin : ∀ i, i < tq.length → tq.getD i 0 < N) : xC l yX3_breakOff (.code yX3_breakOff cX3_breakOff 2 (some .int)) ({ frames := 7, cells := 1, slots := 6, locals := 102 } : Room) D e0 [.ref (ad 0)] [xoW ad up op tr, rwW D (ad 3) (ad 10) (ad 11) (ad 12) gf qf.length, rwW D (ad 4) (ad 13) (ad 14) (ad 15) gb qb.length, alW D e0 (ad 5) ht tq.length, dvW da N S om] (fun v cs => cod (decide (up = 1)) true true = 0 ∧ v = some (.int (nI (qf.length + qb.length))) ∧ ∃ h1 g1 g2, (∀ w1, alOk h1 0 w1) ∧ rwOk [] g1 ∧ rwOk [] g2 ∧ cs = [xoW ad 0 0 tr, rwW D (ad 3) (ad 10) (ad 11) (ad 12) g1 ((@List.nil xFr).length), rwW D (ad 4) (ad 13) (ad 14) (ad 15) g2 ((@List.nil xFr).length), alW D e0 (ad 5) h1 0, dvW da N (clrS S tq) om]) (fun E => xpo (cod (decide (up = 1)) true true) xISE xISE xISE E) := by
  refine xC_of hl (by decide +kernel) (Nat.le_of_ble_eq_true rfl) (fun G X F => ?_)
  have B : xB l D e0 "CreditLinks" cX3_breakOff 2 (some .int) [] _ G X := F.base
  show G 0 [(0, .ref (ad 0))] [] [xoW ad up op tr, rwW D (ad 3) (ad 10) (ad 11) (ad 12) gf qf.length, rwW D (ad 4) (ad 13) (ad 14) (ad 15) gb qb.length, alW D e0 (ad 5) ht tq.length, dvW da N S om] 0 0
  refine x_aload_n B (pc := 0) 0 dX3_breakOff_0 rfl rfl ?_
  rcases hup with rfl | rfl
  · skip
    refine x_callV B (pc := 1) (As := []) (c_X3_requireConnection_no hl D e0 ) xcl_X rfl 0 0 rfl rfl tm279 tm281 ts2 tm1 tm282 md_X3_requireConnection ⟨Nat.le_of_ble_eq_true rfl, Nat.le_of_ble_eq_true rfl⟩ [0] rfl rfl rfl (Nat.le_of_ble_eq_true rfl) (Nat.le_of_ble_eq_true rfl) (Nat.le_of_ble_eq_true rfl) dX3_breakOff_1 (fun E hE => x_out F (by subst hE; exact xp1 rfl) (Nat.le_of_ble_eq_true rfl) (Nat.le_of_ble_eq_true rfl)) (fun v cs1 hp => ?_)
    exact False.elim hp
  · skip
    refine x_callV B (pc := 1) (As := []) (c_X3_requireConnection hl D e0 ) xcl_X rfl 0 0 rfl rfl tm279 tm281 ts2 tm1 tm282 md_X3_requireConnection ⟨Nat.le_of_ble_eq_true rfl, Nat.le_of_ble_eq_true rfl⟩ [0] rfl rfl rfl (Nat.le_of_ble_eq_true rfl) (Nat.le_of_ble_eq_true rfl) (Nat.le_of_ble_eq_true rfl) dX3_breakOff_1 (fun E hE => False.elim hE) (fun v cs1 hp => ?_)
    obtain ⟨rfl, rfl⟩ := hp
    show G 4 [(0, .ref (ad 0))] [] [xoW ad 1 op tr, rwW D (ad 3) (ad 10) (ad 11) (ad 12) gf qf.length, rwW D (ad 4) (ad 13) (ad 14) (ad 15) gb qb.length, alW D e0 (ad 5) ht tq.length, dvW da N S om] 0 0
    refine x_aload_n B (pc := 4) 0 dX3_breakOff_4 rfl rfl ?_
    refine x_get B (pc := 5) xcl_X 0 0 2 rfl rfl (by decide) tm102 rfl rfl dX3_breakOff_5 ?_
    refine x_callV B (pc := 8) (As := []) (c_X2_length hl D e0 ) xcl_R rfl 0 0 rfl rfl tm137 tm138 tm139 tm5 tm140 md_X2_length ⟨Nat.le_of_ble_eq_true rfl, Nat.le_of_ble_eq_true rfl⟩ [1] rfl rfl rfl (Nat.le_of_ble_eq_true rfl) (Nat.le_of_ble_eq_true rfl) (Nat.le_of_ble_eq_true rfl) dX3_breakOff_8 (fun E hE => False.elim hE) (fun v cs1 hp => ?_)
    obtain ⟨rfl, rfl⟩ := hp
    show G 11 [(0, .ref (ad 0))] [.int (nI qf.length)] [xoW ad 1 op tr, rwW D (ad 3) (ad 10) (ad 11) (ad 12) gf qf.length, rwW D (ad 4) (ad 13) (ad 14) (ad 15) gb qb.length, alW D e0 (ad 5) ht tq.length, dvW da N S om] 0 0
    refine x_aload_n B (pc := 11) 0 dX3_breakOff_11 rfl rfl ?_
    refine x_get B (pc := 12) xcl_X 0 0 3 rfl rfl (by decide) tm103 rfl rfl dX3_breakOff_12 ?_
    refine x_callV B (pc := 15) (As := []) (c_X2_length hl D e0 ) xcl_R rfl 0 0 rfl rfl tm137 tm138 tm139 tm5 tm140 md_X2_length ⟨Nat.le_of_ble_eq_true rfl, Nat.le_of_ble_eq_true rfl⟩ [2] rfl rfl rfl (Nat.le_of_ble_eq_true rfl) (Nat.le_of_ble_eq_true rfl) (Nat.le_of_ble_eq_true rfl) dX3_breakOff_15 (fun E hE => False.elim hE) (fun v cs1 hp => ?_)
    obtain ⟨rfl, rfl⟩ := hp
    show G 18 [(0, .ref (ad 0))] [.int (nI qb.length), .int (nI qf.length)] [xoW ad 1 op tr, rwW D (ad 3) (ad 10) (ad 11) (ad 12) gf qf.length, rwW D (ad 4) (ad 13) (ad 14) (ad 15) gb qb.length, alW D e0 (ad 5) ht tq.length, dvW da N S om] 0 0
    refine x_iadd B (pc := 18) dX3_breakOff_18 ?_
    refine x_val B (y := nI (qf.length + qb.length)) (nI_add _ _) ?_
    refine x_istore_n B (pc := 19) [(1, .int (nI (qf.length + qb.length))), (0, .ref (ad 0))] dX3_breakOff_19 rfl (by decide) rfl ?_
    refine x_aload_n B (pc := 20) 1 dX3_breakOff_20 rfl rfl ?_
    refine x_get B (pc := 21) xcl_X 0 0 2 rfl rfl (by decide) tm102 rfl rfl dX3_breakOff_21 ?_
    refine x_callV B (pc := 24) (As := []) (c_X2_drop hl D e0 ) xcl_R rfl 0 0 rfl rfl tm529 tm530 tm531 tm5 tm532 md_X2_drop ⟨Nat.le_of_ble_eq_true rfl, Nat.le_of_ble_eq_true rfl⟩ [1] rfl rfl rfl (Nat.le_of_ble_eq_true rfl) (Nat.le_of_ble_eq_true rfl) (Nat.le_of_ble_eq_true rfl) dX3_breakOff_24 (fun E hE => False.elim hE) (fun v cs1 hp => ?_)
    obtain ⟨rfl, g1, hg1, rfl⟩ := hp
    show G 27 [(1, .int (nI (qf.length + qb.length))), (0, .ref (ad 0))] [] [xoW ad 1 op tr, rwW D (ad 3) (ad 10) (ad 11) (ad 12) g1 ((@List.nil xFr).length), rwW D (ad 4) (ad 13) (ad 14) (ad 15) gb qb.length, alW D e0 (ad 5) ht tq.length, dvW da N S om] 0 0
    refine x_aload_n B (pc := 27) 1 dX3_breakOff_27 rfl rfl ?_
    refine x_get B (pc := 28) xcl_X 0 0 3 rfl rfl (by decide) tm103 rfl rfl dX3_breakOff_28 ?_
    refine x_callV B (pc := 31) (As := []) (c_X2_drop hl D e0 ) xcl_R rfl 0 0 rfl rfl tm529 tm530 tm531 tm5 tm532 md_X2_drop ⟨Nat.le_of_ble_eq_true rfl, Nat.le_of_ble_eq_true rfl⟩ [2] rfl rfl rfl (Nat.le_of_ble_eq_true rfl) (Nat.le_of_ble_eq_true rfl) (Nat.le_of_ble_eq_true rfl) dX3_breakOff_31 (fun E hE => False.elim hE) (fun v cs1 hp => ?_)
    obtain ⟨rfl, g2, hg2, rfl⟩ := hp
    show G 34 [(1, .int (nI (qf.length + qb.length))), (0, .ref (ad 0))] [] [xoW ad 1 op tr, rwW D (ad 3) (ad 10) (ad 11) (ad 12) g1 ((@List.nil xFr).length), rwW D (ad 4) (ad 13) (ad 14) (ad 15) g2 ((@List.nil xFr).length), alW D e0 (ad 5) ht tq.length, dvW da N S om] 0 0
    refine x_aload_n B (pc := 34) 1 dX3_breakOff_34 rfl rfl ?_
    refine x_callV B (pc := 35) (As := []) (c_X3_closeTransaction hl D e0 hok hT hin) xcl_X rfl 0 0 rfl rfl tm533 tm535 ts12 tm1 tm536 md_X3_closeTransaction ⟨Nat.le_of_ble_eq_true rfl, Nat.le_of_ble_eq_true rfl⟩ [0, 3, 4] rfl rfl rfl (Nat.le_of_ble_eq_true rfl) (Nat.le_of_ble_eq_true rfl) (Nat.le_of_ble_eq_true rfl) dX3_breakOff_35 (fun E hE => False.elim hE) (fun v cs1 hp => ?_)
    obtain ⟨rfl, h1, hh1, rfl⟩ := hp
    show G 38 [(1, .int (nI (qf.length + qb.length))), (0, .ref (ad 0))] [] [xoW ad 1 0 tr, rwW D (ad 3) (ad 10) (ad 11) (ad 12) g1 ((@List.nil xFr).length), rwW D (ad 4) (ad 13) (ad 14) (ad 15) g2 ((@List.nil xFr).length), alW D e0 (ad 5) h1 0, dvW da N (clrS S tq) om] 0 0
    refine x_aload_n B (pc := 38) 1 dX3_breakOff_38 rfl rfl ?_
    refine x_iconst B (pc := 39) 0 dX3_breakOff_39 (by decide) ?_
    refine x_put B (pc := 40) xcl_X 0 0 5 [xoW ad 0 0 tr, rwW D (ad 3) (ad 10) (ad 11) (ad 12) g1 ((@List.nil xFr).length), rwW D (ad 4) (ad 13) (ad 14) (ad 15) g2 ((@List.nil xFr).length), alW D e0 (ad 5) h1 0, dvW da N (clrS S tq) om] rfl rfl (by decide) tm105 rfl rfl rfl rfl rfl (Nat.le_of_ble_eq_true rfl) rfl rfl dX3_breakOff_40 ?_
    refine x_iload_n B (pc := 43) 0 dX3_breakOff_43 rfl rfl ?_
    exact x_iret F (pc := 44) rfl dX3_breakOff_44 (⟨rfl, rfl, h1, g1, g2, hh1, hg1, hg2, rfl⟩) (Nat.le_of_ble_eq_true rfl) (Nat.le_of_ble_eq_true rfl)

set_option maxRecDepth 100000 in
set_option maxHeartbeats 4000000 in
theorem c_X3_begin {l : Launch} (hl : l.stackTraces = false) (D : va_G) (e0 : Nat) {ad : Nat → Nat} {up op tr : Int32} (hup : up = 0 ∨ up = 1) (hop : op = 0 ∨ op = 1) : xC l yX3_begin (.code yX3_begin cX3_begin 1 (some .int)) ({ frames := 7, cells := 1, slots := 6, locals := 102 } : Room) D e0 [.ref (ad 0)] [xoW ad up op tr] (fun v cs => cod (decide (up = 1) && decide (op = 0)) true true = 0 ∧ v = some (.int (tr + 1)) ∧ cs = [xoW ad up 1 (tr + 1)]) (fun E => xpo (cod (decide (up = 1) && decide (op = 0)) true true) xISE xISE xISE E) := by
  refine xC_of hl (by decide +kernel) (Nat.le_of_ble_eq_true rfl) (fun G X F => ?_)
  have B : xB l D e0 "CreditLinks" cX3_begin 1 (some .int) [] _ G X := F.base
  show G 0 [(0, .ref (ad 0))] [] [xoW ad up op tr] 0 0
  refine x_aload_n B (pc := 0) 0 dX3_begin_0 rfl rfl ?_
  rcases hup with rfl | rfl
  · skip
    refine x_callV B (pc := 1) (As := []) (c_X3_requireConnection_no hl D e0 ) xcl_X rfl 0 0 rfl rfl tm279 tm281 ts2 tm1 tm282 md_X3_requireConnection ⟨Nat.le_of_ble_eq_true rfl, Nat.le_of_ble_eq_true rfl⟩ [0] rfl rfl rfl (Nat.le_of_ble_eq_true rfl) (Nat.le_of_ble_eq_true rfl) (Nat.le_of_ble_eq_true rfl) dX3_begin_1 (fun E hE => x_out F (by subst hE; exact xp1 rfl) (Nat.le_of_ble_eq_true rfl) (Nat.le_of_ble_eq_true rfl)) (fun v cs1 hp => ?_)
    exact False.elim hp
  · skip
    refine x_callV B (pc := 1) (As := []) (c_X3_requireConnection hl D e0 ) xcl_X rfl 0 0 rfl rfl tm279 tm281 ts2 tm1 tm282 md_X3_requireConnection ⟨Nat.le_of_ble_eq_true rfl, Nat.le_of_ble_eq_true rfl⟩ [0] rfl rfl rfl (Nat.le_of_ble_eq_true rfl) (Nat.le_of_ble_eq_true rfl) (Nat.le_of_ble_eq_true rfl) dX3_begin_1 (fun E hE => False.elim hE) (fun v cs1 hp => ?_)
    obtain ⟨rfl, rfl⟩ := hp
    show G 4 [(0, .ref (ad 0))] [] [xoW ad 1 op tr] 0 0
    refine x_aload_n B (pc := 4) 0 dX3_begin_4 rfl rfl ?_
    rcases hop with rfl | rfl
    · skip
      refine x_get B (pc := 5) (v := .int 0) xcl_X 0 0 6 rfl rfl (by decide) tm106 rfl rfl dX3_begin_5 ?_
      refine x_if_eq B (pc := 8) 21 dX3_begin_8 (by decide) (fun h8 => ?_) (fun h8 => absurd (by decide) h8)
      refine x_aload_n B (pc := 21) 0 dX3_begin_21 rfl rfl ?_
      refine x_iconst B (pc := 22) 1 dX3_begin_22 (by decide) ?_
      refine x_put B (pc := 23) xcl_X 0 0 6 [xoW ad 1 1 tr] rfl rfl (by decide) tm106 rfl rfl rfl rfl rfl (Nat.le_of_ble_eq_true rfl) rfl rfl dX3_begin_23 ?_
      refine x_aload_n B (pc := 26) 0 dX3_begin_26 rfl rfl ?_
      refine x_dup B (pc := 27) dX3_begin_27 rfl ?_
      refine x_get B (pc := 28) (v := .int tr) xcl_X 0 0 7 rfl rfl (by decide) tm107 rfl rfl dX3_begin_28 ?_
      refine x_iconst B (pc := 31) 1 dX3_begin_31 (by decide) ?_
      refine x_iadd B (pc := 32) dX3_begin_32 ?_
      refine x_put B (pc := 33) xcl_X 0 0 7 [xoW ad 1 1 (tr + 1)] rfl rfl (by decide) tm107 rfl rfl rfl rfl rfl (Nat.le_of_ble_eq_true rfl) rfl rfl dX3_begin_33 ?_
      refine x_aload_n B (pc := 36) 0 dX3_begin_36 rfl rfl ?_
      refine x_get B (pc := 37) (v := .int (tr + 1)) xcl_X 0 0 7 rfl rfl (by decide) tm107 rfl rfl dX3_begin_37 ?_
      exact x_iret F (pc := 40) rfl dX3_begin_40 (⟨rfl, rfl, rfl⟩) (Nat.le_of_ble_eq_true rfl) (Nat.le_of_ble_eq_true rfl)
    · skip
      refine x_get B (pc := 5) (v := .int 1) xcl_X 0 0 6 rfl rfl (by decide) tm106 rfl rfl dX3_begin_5 ?_
      refine x_if_eq B (pc := 8) 21 dX3_begin_8 (by decide) (fun h8 => absurd h8 (by decide)) (fun h8 => ?_)
      exact x_throw F (pc := 11) (cls := "java/lang/IllegalStateException") (text := "a transaction is open") (by decide +kernel) xat_ISE.1 xat_ISE.2 tm283 tm12 (by decide +kernel) dX3_begin_11 dX3_begin_14 dX3_begin_15 dX3_begin_17 dX3_begin_20 (Nat.le_of_ble_eq_true rfl) (Nat.le_of_ble_eq_true rfl) (Nat.le_of_ble_eq_true rfl) (Nat.le_of_ble_eq_true rfl) (xp1 rfl)

set_option maxRecDepth 100000 in
set_option maxHeartbeats 4000000 in
theorem c_X3_tell {l : Launch} (hl : l.stackTraces = false) (D : va_G) (e0 : Nat) {ad : Nat → Nat} {up op tr : Int32} {hs : xAg} {N : Nat} {ht : xAg} {tq : List Nat} {da : Nat → Nat} {S : xS} {om : Nat → Int32} {a b : Int32} (hop : op = 0 ∨ op = 1) (hok : alOk hs N da) (hN : N ≤ 60) (hot : alOk ht tq.length (fun i => da (tq.getD i 0))) (hT : tq.length ≤ 60) (hin : ∀ i, i < tq.length → tq.getD i 0 < N) : xC l yX3_tell (.code yX3_tell cX3_tell 4 (some .int)) ({ frames := 7, cells := 1, slots := 200, locals := 161 } : Room) D e0 [.ref (ad 0), .int a, .int b] [xoW ad up op tr, alW D e0 (ad 2) hs N, alW D e0 (ad 5) ht tq.length, dvW da N S om] (fun v cs => cod (xinD N a) (xinB 0 2 b) (decide (op = 1) && (decide (S 9 (ix a) = 2) && decide (S 14 (ix a) = -1))) = 0 ∧ v = some (.int (nI (tq.length + 1))) ∧ ∃ h1, alOk h1 (tq.length + 1) (fun i => da ((tq ++ [ix a]).getD i 0)) ∧ cs = [xoW ad up op tr, alW D e0 (ad 2) hs N, alW D e0 (ad 5) h1 (tq.length + 1), dvW da N (xup S 14 (ix a) b) om]) (fun E => xpo (cod (xinD N a) (xinB 0 2 b) (decide (op = 1) && (decide (S 9 (ix a) = 2) && decide (S 14 (ix a) = -1)))) xIOB xIAE xISE E) := by
  refine xC_of hl (by decide +kernel) (Nat.le_of_ble_eq_true rfl) (fun G X F => ?_)
  have B : xB l D e0 "CreditLinks" cX3_tell 4 (some .int) [] _ G X := F.base
  show G 0 [(0, .ref (ad 0)), (1, .int a), (2, .int b)] [] [xoW ad up op tr, alW D e0 (ad 2) hs N, alW D e0 (ad 5) ht tq.length, dvW da N S om] 0 0
  refine x_aload_n B (pc := 0) 0 dX3_tell_0 rfl rfl ?_
  refine x_iload_n B (pc := 1) 1 dX3_tell_1 rfl rfl ?_
  cases ha : xinD N a
  · skip
    refine x_callV B (pc := 2) (As := [.int a]) (c_deliveryAt_no hl D e0 ha) xcl_X rfl 0 0 rfl rfl tm439 tm441 ts7 tm1 tm442 md_X3_deliveryAt ⟨Nat.le_of_ble_eq_true rfl, Nat.le_of_ble_eq_true rfl⟩ [0, 1, 3] rfl rfl rfl (Nat.le_of_ble_eq_true rfl) (Nat.le_of_ble_eq_true rfl) (Nat.le_of_ble_eq_true rfl) dX3_tell_2 (fun E hE => x_out F (by subst hE; exact xp1 (by rw [ha]; rfl)) (Nat.le_of_ble_eq_true rfl) (Nat.le_of_ble_eq_true rfl)) (fun v cs1 hp => ?_)
    exact False.elim hp
  · obtain ⟨d, hd, rfl⟩ := xinD_t ha (by omega)
    have ed : ix (nI d) = d := ix_nI (by omega)
    refine x_callV B (pc := 2) (As := [.int (nI d)]) (c_X3_deliveryAt hl D e0 hok hN hd) xcl_X rfl 0 0 rfl rfl tm439 tm441 ts7 tm1 tm442 md_X3_deliveryAt ⟨Nat.le_of_ble_eq_true rfl, Nat.le_of_ble_eq_true rfl⟩ [0, 1, 3] rfl rfl rfl (Nat.le_of_ble_eq_true rfl) (Nat.le_of_ble_eq_true rfl) (Nat.le_of_ble_eq_true rfl) dX3_tell_2 (fun E hE => False.elim hE) (fun v cs1 hp => ?_)
    obtain ⟨rfl, rfl⟩ := hp
    show G 5 [(0, .ref (ad 0)), (1, .int (nI d)), (2, .int b)] [.ref (da d)] [xoW ad up op tr, alW D e0 (ad 2) hs N, alW D e0 (ad 5) ht tq.length, dvW da N S om] 0 0
    refine x_astore_n B (pc := 5) [(3, .ref (da d)), (0, .ref (ad 0)), (1, .int (nI d)), (2, .int b)] dX3_tell_5 rfl (by decide) rfl ?_
    refine x_iload_n B (pc := 6) 3 dX3_tell_6 rfl rfl ?_
    cases hb : xinB 0 2 b
    · skip
      refine x_callS B (pc := 7) (As := [.int b]) (c_requireOutcome_no hl D e0 hb) tm444 tm445 tm1 tm446 md_X3_requireOutcome ⟨Nat.le_of_ble_eq_true rfl, Nat.le_of_ble_eq_true rfl⟩ [] rfl rfl rfl (Nat.le_of_ble_eq_true rfl) (Nat.le_of_ble_eq_true rfl) (Nat.le_of_ble_eq_true rfl) dX3_tell_7 (fun E hE => x_out F (by subst hE; exact xp2 (by rw [ha, hb]; rfl)) (Nat.le_of_ble_eq_true rfl) (Nat.le_of_ble_eq_true rfl)) (fun v cs1 hp => ?_)
      exact False.elim hp
    · obtain ⟨oo, ho0, ho2, rfl⟩ := xinB_t hb (by decide) (by decide)
      have eo : ix (nI oo) = oo := ix_nI (by omega)
      refine x_callS B (pc := 7) (As := [.int (nI oo)]) (c_X3_requireOutcome hl D e0 ho2) tm444 tm445 tm1 tm446 md_X3_requireOutcome ⟨Nat.le_of_ble_eq_true rfl, Nat.le_of_ble_eq_true rfl⟩ [] rfl rfl rfl (Nat.le_of_ble_eq_true rfl) (Nat.le_of_ble_eq_true rfl) (Nat.le_of_ble_eq_true rfl) dX3_tell_7 (fun E hE => False.elim hE) (fun v cs1 hp => ?_)
      obtain ⟨rfl, rfl⟩ := hp
      show G 10 [(3, .ref (da d)), (0, .ref (ad 0)), (1, .int (nI d)), (2, .int (nI oo))] [] [xoW ad up op tr, alW D e0 (ad 2) hs N, alW D e0 (ad 5) ht tq.length, dvW da N S om] 0 0
      refine x_aload_n B (pc := 10) 1 dX3_tell_10 rfl rfl ?_
      rcases hop with rfl | rfl
      · skip
        refine x_callV B (pc := 11) (As := []) (c_X3_requireTransaction_no hl D e0 ) xcl_X rfl 0 0 rfl rfl tm465 tm467 ts9 tm1 tm468 md_X3_requireTransaction ⟨Nat.le_of_ble_eq_true rfl, Nat.le_of_ble_eq_true rfl⟩ [0] rfl rfl rfl (Nat.le_of_ble_eq_true rfl) (Nat.le_of_ble_eq_true rfl) (Nat.le_of_ble_eq_true rfl) dX3_tell_11 (fun E hE => x_out F (by subst hE; exact xp3 (by rw [ha, hb]; rfl)) (Nat.le_of_ble_eq_true rfl) (Nat.le_of_ble_eq_true rfl)) (fun v cs1 hp => ?_)
        exact False.elim hp
      · skip
        refine x_callV B (pc := 11) (As := []) (c_X3_requireTransaction hl D e0 ) xcl_X rfl 0 0 rfl rfl tm465 tm467 ts9 tm1 tm468 md_X3_requireTransaction ⟨Nat.le_of_ble_eq_true rfl, Nat.le_of_ble_eq_true rfl⟩ [0] rfl rfl rfl (Nat.le_of_ble_eq_true rfl) (Nat.le_of_ble_eq_true rfl) (Nat.le_of_ble_eq_true rfl) dX3_tell_11 (fun E hE => False.elim hE) (fun v cs1 hp => ?_)
        obtain ⟨rfl, rfl⟩ := hp
        show G 14 [(3, .ref (da d)), (0, .ref (ad 0)), (1, .int (nI d)), (2, .int (nI oo))] [] [xoW ad up 1 tr, alW D e0 (ad 2) hs N, alW D e0 (ad 5) ht tq.length, dvW da N S om] 0 0
        refine x_aload_n B (pc := 14) 0 dX3_tell_14 rfl rfl ?_
        by_cases hund : ¬ (S 9 d = 2 ∧ S 14 d = -1)
        · skip
          refine x_callS B (pc := 15) (As := [.ref (da d)]) (c_requireUndecided_no hl D e0 hd hund) tm448 tm449 tm1 tm450 md_X3_requireUndecided ⟨Nat.le_of_ble_eq_true rfl, Nat.le_of_ble_eq_true rfl⟩ [3] rfl rfl rfl (Nat.le_of_ble_eq_true rfl) (Nat.le_of_ble_eq_true rfl) (Nat.le_of_ble_eq_true rfl) dX3_tell_15 (fun E hE => x_out F (by subst hE; exact xp3 (by rw [ha, hb, ed, und_no hund]; rfl)) (Nat.le_of_ble_eq_true rfl) (Nat.le_of_ble_eq_true rfl)) (fun v cs1 hp => ?_)
          exact False.elim hp
        · have hund2 := Classical.not_not.mp hund
          refine x_callS B (pc := 15) (As := [.ref (da d)]) (c_X3_requireUndecided hl D e0 hd hund2.1 hund2.2) tm448 tm449 tm1 tm450 md_X3_requireUndecided ⟨Nat.le_of_ble_eq_true rfl, Nat.le_of_ble_eq_true rfl⟩ [3] rfl rfl rfl (Nat.le_of_ble_eq_true rfl) (Nat.le_of_ble_eq_true rfl) (Nat.le_of_ble_eq_true rfl) dX3_tell_15 (fun E hE => False.elim hE) (fun v cs1 hp => ?_)
          obtain ⟨rfl, rfl⟩ := hp
          show G 18 [(3, .ref (da d)), (0, .ref (ad 0)), (1, .int (nI d)), (2, .int (nI oo))] [] [xoW ad up 1 tr, alW D e0 (ad 2) hs N, alW D e0 (ad 5) ht tq.length, dvW da N S om] 0 0
          refine x_aload_n B (pc := 18) 0 dX3_tell_18 rfl rfl ?_
          refine x_iload_n B (pc := 19) 3 dX3_tell_19 rfl rfl ?_
          refine x_put B (pc := 20) xcl_D 3 d 10 [xoW ad up 1 tr, alW D e0 (ad 2) hs N, alW D e0 (ad 5) ht tq.length, dvW da N (xup S 14 d (nI oo)) om] rfl (dv_get hd) (by decide) tm344 rfl rfl rfl rfl rfl (Nat.le_of_ble_eq_true rfl) (dv_set10 hd) rfl dX3_tell_20 ?_
          refine x_aload_n B (pc := 23) 1 dX3_tell_23 rfl rfl ?_
          refine x_get B (pc := 24) xcl_X 0 0 4 rfl rfl (by decide) tm104 rfl rfl dX3_tell_24 ?_
          refine x_aload_n B (pc := 27) 0 dX3_tell_27 rfl rfl ?_
          refine x_callV B (pc := 28) (As := [.ref (da d)]) (c_Jx4a65c_add_9ea2d hl D e0 hot hT hd (fun i hi => ⟨_, hin i hi, rfl⟩)) xcl_A rfl 0 0 rfl al_get0 tm372 tm373 tm374 tm4 tm375 md_Jx4a65c_add_9ea2d ⟨Nat.le_of_ble_eq_true rfl, Nat.le_of_ble_eq_true rfl⟩ [2, 3] rfl rfl rfl (Nat.le_of_ble_eq_true rfl) (Nat.le_of_ble_eq_true rfl) (Nat.le_of_ble_eq_true rfl) dX3_tell_28 (fun E hE => False.elim hE) (fun v cs1 hp => ?_)
          obtain ⟨rfl, h1, hh1, rfl⟩ := hp
          show G 31 [(3, .ref (da d)), (0, .ref (ad 0)), (1, .int (nI d)), (2, .int (nI oo))] [.int 1] [xoW ad up 1 tr, alW D e0 (ad 2) hs N, alW D e0 (ad 5) h1 (tq.length + 1), dvW da N (xup S 14 d (nI oo)) om] 1 200
          refine x_pop B (pc := 31) dX3_tell_31 rfl ?_
          refine x_aload_n B (pc := 32) 1 dX3_tell_32 rfl rfl ?_
          refine x_get B (pc := 33) xcl_X 0 0 4 rfl rfl (by decide) tm104 rfl rfl dX3_tell_33 ?_
          refine x_callV B (pc := 36) (As := []) (c_Jx4a65c_size_8abf5 hl D e0 ) xcl_A rfl 0 0 rfl al_get0 tm129 tm130 tm131 tm4 tm132 md_Jx4a65c_size_8abf5 ⟨Nat.le_of_ble_eq_true rfl, Nat.le_of_ble_eq_true rfl⟩ [2] rfl rfl rfl (Nat.le_of_ble_eq_true rfl) (Nat.le_of_ble_eq_true rfl) (Nat.le_of_ble_eq_true rfl) dX3_tell_36 (fun E hE => False.elim hE) (fun v cs1 hp => ?_)
          obtain ⟨rfl, rfl⟩ := hp
          show G 39 [(3, .ref (da d)), (0, .ref (ad 0)), (1, .int (nI d)), (2, .int (nI oo))] [.int (nI (tq.length + 1))] [xoW ad up 1 tr, alW D e0 (ad 2) hs N, alW D e0 (ad 5) h1 (tq.length + 1), dvW da N (xup S 14 d (nI oo)) om] 1 200
          exact x_iret F (pc := 39) rfl dX3_tell_39 (⟨by rw [ha, hb, ed, decide_eq_true hund2.1, decide_eq_true hund2.2]; rfl, rfl, h1, by rw [ed]; exact al_w hh1 tell_w, by rw [ed]⟩) (Nat.le_of_ble_eq_true rfl) (Nat.le_of_ble_eq_true rfl)
