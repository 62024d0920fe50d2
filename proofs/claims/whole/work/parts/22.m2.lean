theorem crd_0 {L : xS} {j : Nat} (hL : l16 L) (hj : j < 4) : crd L j ≤ 0 ↔ crd L j = 0 := by
  obtain ⟨v, hv, ev⟩ := hL 2 j (by decide) (by decide) hj
  obtain ⟨u, hu, eu⟩ := hL 1 j (by decide) (by decide) hj
  unfold crd
  rw [ev, eu]
  exact crd_p hv hu
theorem td_add {td : Nat → Int32} {tq : List Nat} {d : Nat} (h : ∀ i, i < tq.length → td i = nI (tq.getD i 0)) : ∀ i, i < (tq ++ [d]).length → upd td tq.length (nI d) i = nI ((tq ++ [d]).getD i 0) := by
  intro i hi
  rw [List.length_append] at hi
  have h1 : ([d] : List Nat).length = 1 := rfl
  by_cases he : i = tq.length
  · subst he
    simp [upd, List.getD_eq_getElem?_getD]
  · have hl : i < tq.length := by omega
    have := h i hl
    rw [List.getD_eq_getElem?_getD] at this
    simp [upd, he, this, List.getD_eq_getElem?_getD, List.getElem?_append_left hl]
set_option maxRecDepth 100000 in
set_option maxHeartbeats 4000000 in
theorem c_X4_setMode {l : Launch} (hl : l.stackTraces = false) (D : va_G) (e0 : Nat) {am : Nat → Nat} {N tf tt bf bt : Nat} {up op tr : Int32} {tn : Nat} {th : Int32} {L : xS} {a b : Int32}  : xC l yX4_setMode (.code yX4_setMode cX4_setMode 4 (some .int)) ({ frames := 2, cells := 0, slots := 0, locals := 42 } : Room) D e0 [.ref (am 0), .int a, .int b] [moW am N tf tt bf bt up op tr tn th, mlW D am L] (fun w cs => (cod (xinB 0 3 a) (xinB 0 2 b) true = 0 ∧ w = some (.int (L 0 (ix a))) ∧ cs = [moW am N tf tt bf bt up op tr tn 0, mlW D am (xup L 0 (ix a) b)]) ∨ (cod (xinB 0 3 a) (xinB 0 2 b) true ≠ 0 ∧ (∃ z, w = some (.int z)) ∧ cs = [moW am N tf tt bf bt up op tr tn (nI (cod (xinB 0 3 a) (xinB 0 2 b) true)), mlW D am L])) (fun _ => False) := by
  refine xC_of hl (by decide +kernel) (Nat.le_of_ble_eq_true rfl) (fun G X F => ?_)
  have B : xB l D e0 "CreditLinksModel" cX4_setMode 4 (some .int) [] _ G X := F.base
  show G 0 [(0, .ref (am 0)), (1, .int a), (2, .int b)] [] [moW am N tf tt bf bt up op tr tn th, mlW D am L] 0 0
  refine x_aload_n B (pc := 0) 0 dX4_setMode_0 rfl rfl ?_
  refine x_iload_n B (pc := 1) 1 dX4_setMode_1 rfl rfl ?_
  refine x_callS B (pc := 2) (As := [.int a]) (c_X4_isLink hl D e0 ) tm724 tm725 tm7 tm726 md_X4_isLink ⟨Nat.le_of_ble_eq_true rfl, Nat.le_of_ble_eq_true rfl⟩ [] rfl rfl rfl (Nat.le_of_ble_eq_true rfl) (Nat.le_of_ble_eq_true rfl) (Nat.le_of_ble_eq_true rfl) dX4_setMode_2 (fun E hE => False.elim hE) (fun v cs1 hp => ?_)
  obtain ⟨rfl, rfl⟩ := hp
  show G 5 [(0, .ref (am 0)), (1, .int a), (2, .int b)] [.int (bz (xinB 0 3 a)), .ref (am 0)] [moW am N tf tt bf bt up op tr tn th, mlW D am L] 0 0
  cases ha : xinB 0 3 a
  · skip
    refine x_iload_n B (pc := 5) 2 dX4_setMode_5 rfl rfl ?_
    refine x_iconst B (pc := 6) 0 dX4_setMode_6 (by decide) ?_
    refine x_iconst B (pc := 7) 2 dX4_setMode_7 (by decide) ?_
    refine x_callS B (pc := 8) (As := [.int b, .int 0, .int 2]) (c_X4_in hl D e0 ) tm727 tm728 tm7 tm729 md_X4_in ⟨Nat.le_of_ble_eq_true rfl, Nat.le_of_ble_eq_true rfl⟩ [] rfl rfl rfl (Nat.le_of_ble_eq_true rfl) (Nat.le_of_ble_eq_true rfl) (Nat.le_of_ble_eq_true rfl) dX4_setMode_8 (fun E hE => False.elim hE) (fun v cs1 hp => ?_)
    obtain ⟨rfl, rfl⟩ := hp
    show G 11 [(0, .ref (am 0)), (1, .int a), (2, .int b)] [.int (bz (xinB 0 2 b)), .int 0, .ref (am 0)] [moW am N tf tt bf bt up op tr tn th, mlW D am L] 0 0
    cases hb : xinB 0 2 b
    · skip
      refine x_callV B (pc := 11) (As := [.int 0, .int 0]) (c_X4_asked_ hl D e0 (p := false) (q := false)) xcl_M rfl 0 0 rfl rfl tm730 tm732 ts13 tm7 tm733 md_X4_asked_ ⟨Nat.le_of_ble_eq_true rfl, Nat.le_of_ble_eq_true rfl⟩ [0] rfl rfl rfl (Nat.le_of_ble_eq_true rfl) (Nat.le_of_ble_eq_true rfl) (Nat.le_of_ble_eq_true rfl) dX4_setMode_11 (fun E hE => False.elim hE) (fun v cs1 hp => ?_)
      obtain ⟨rfl, rfl⟩ := hp
      show G 14 [(0, .ref (am 0)), (1, .int a), (2, .int b)] [.int 0] [moW am N tf tt bf bt up op tr tn (nI 1), mlW D am L] 0 0
      refine x_if_ne B (pc := 14) 19 dX4_setMode_14 (by decide) (fun h14 => absurd (by decide) h14) (fun h14 => ?_)
      refine x_iconst B (pc := 17) 0 dX4_setMode_17 (by decide) ?_
      have hc : cod (xinB 0 3 a) (xinB 0 2 b) true = 1 := by first | (rw [ha]; rfl) | (rw [ha, hb]; rfl)
      exact x_iret F (pc := 18) rfl dX4_setMode_18 (Or.inr ⟨by rw [hc]; decide, ⟨_, rfl⟩, by rw [hc]⟩) (Nat.le_of_ble_eq_true rfl) (Nat.le_of_ble_eq_true rfl)
    · skip
      refine x_callV B (pc := 11) (As := [.int 0, .int 1]) (c_X4_asked_ hl D e0 (p := false) (q := true)) xcl_M rfl 0 0 rfl rfl tm730 tm732 ts13 tm7 tm733 md_X4_asked_ ⟨Nat.le_of_ble_eq_true rfl, Nat.le_of_ble_eq_true rfl⟩ [0] rfl rfl rfl (Nat.le_of_ble_eq_true rfl) (Nat.le_of_ble_eq_true rfl) (Nat.le_of_ble_eq_true rfl) dX4_setMode_11 (fun E hE => False.elim hE) (fun v cs1 hp => ?_)
      obtain ⟨rfl, rfl⟩ := hp
      show G 14 [(0, .ref (am 0)), (1, .int a), (2, .int b)] [.int 0] [moW am N tf tt bf bt up op tr tn (nI 1), mlW D am L] 0 0
      refine x_if_ne B (pc := 14) 19 dX4_setMode_14 (by decide) (fun h14 => absurd (by decide) h14) (fun h14 => ?_)
      refine x_iconst B (pc := 17) 0 dX4_setMode_17 (by decide) ?_
      have hc : cod (xinB 0 3 a) (xinB 0 2 b) true = 1 := by first | (rw [ha]; rfl) | (rw [ha, hb]; rfl)
      exact x_iret F (pc := 18) rfl dX4_setMode_18 (Or.inr ⟨by rw [hc]; decide, ⟨_, rfl⟩, by rw [hc]⟩) (Nat.le_of_ble_eq_true rfl) (Nat.le_of_ble_eq_true rfl)
  · obtain ⟨j, hj0, hj3, rfl⟩ := xinB_t ha (by decide) (by decide)
    have hj : j < 4 := by omega
    have ej : ix (nI j) = j := ix_nI (by omega)
    refine x_iload_n B (pc := 5) 2 dX4_setMode_5 rfl rfl ?_
    refine x_iconst B (pc := 6) 0 dX4_setMode_6 (by decide) ?_
    refine x_iconst B (pc := 7) 2 dX4_setMode_7 (by decide) ?_
    refine x_callS B (pc := 8) (As := [.int b, .int 0, .int 2]) (c_X4_in hl D e0 ) tm727 tm728 tm7 tm729 md_X4_in ⟨Nat.le_of_ble_eq_true rfl, Nat.le_of_ble_eq_true rfl⟩ [] rfl rfl rfl (Nat.le_of_ble_eq_true rfl) (Nat.le_of_ble_eq_true rfl) (Nat.le_of_ble_eq_true rfl) dX4_setMode_8 (fun E hE => False.elim hE) (fun v cs1 hp => ?_)
    obtain ⟨rfl, rfl⟩ := hp
    show G 11 [(0, .ref (am 0)), (1, .int (nI j)), (2, .int b)] [.int (bz (xinB 0 2 b)), .int 1, .ref (am 0)] [moW am N tf tt bf bt up op tr tn th, mlW D am L] 0 0
    cases hb : xinB 0 2 b
    · skip
      refine x_callV B (pc := 11) (As := [.int 1, .int 0]) (c_X4_asked_ hl D e0 (p := true) (q := false)) xcl_M rfl 0 0 rfl rfl tm730 tm732 ts13 tm7 tm733 md_X4_asked_ ⟨Nat.le_of_ble_eq_true rfl, Nat.le_of_ble_eq_true rfl⟩ [0] rfl rfl rfl (Nat.le_of_ble_eq_true rfl) (Nat.le_of_ble_eq_true rfl) (Nat.le_of_ble_eq_true rfl) dX4_setMode_11 (fun E hE => False.elim hE) (fun v cs1 hp => ?_)
      obtain ⟨rfl, rfl⟩ := hp
      show G 14 [(0, .ref (am 0)), (1, .int (nI j)), (2, .int b)] [.int 0] [moW am N tf tt bf bt up op tr tn (nI 2), mlW D am L] 0 0
      refine x_if_ne B (pc := 14) 19 dX4_setMode_14 (by decide) (fun h14 => absurd (by decide) h14) (fun h14 => ?_)
      refine x_iconst B (pc := 17) 0 dX4_setMode_17 (by decide) ?_
      have hc : cod (xinB 0 3 (nI j)) (xinB 0 2 b) true = 2 := by first | (rw [ha]; rfl) | (rw [ha, hb]; rfl)
      exact x_iret F (pc := 18) rfl dX4_setMode_18 (Or.inr ⟨by rw [hc]; decide, ⟨_, rfl⟩, by rw [hc]⟩) (Nat.le_of_ble_eq_true rfl) (Nat.le_of_ble_eq_true rfl)
    · skip
      refine x_callV B (pc := 11) (As := [.int 1, .int 1]) (c_X4_asked_ hl D e0 (p := true) (q := true)) xcl_M rfl 0 0 rfl rfl tm730 tm732 ts13 tm7 tm733 md_X4_asked_ ⟨Nat.le_of_ble_eq_true rfl, Nat.le_of_ble_eq_true rfl⟩ [0] rfl rfl rfl (Nat.le_of_ble_eq_true rfl) (Nat.le_of_ble_eq_true rfl) (Nat.le_of_ble_eq_true rfl) dX4_setMode_11 (fun E hE => False.elim hE) (fun v cs1 hp => ?_)
      obtain ⟨rfl, rfl⟩ := hp
      show G 14 [(0, .ref (am 0)), (1, .int (nI j)), (2, .int b)] [.int 1] [moW am N tf tt bf bt up op tr tn 0, mlW D am L] 0 0
      refine x_if_ne B (pc := 14) 19 dX4_setMode_14 (by decide) (fun h14 => ?_) (fun h14 => absurd h14 (by decide))
      refine x_aload_n B (pc := 19) 0 dX4_setMode_19 rfl rfl ?_
      refine x_get B (pc := 20) xcl_M 0 0 0 rfl rfl (by decide) tm630 rfl rfl dX4_setMode_20 ?_
      refine x_iload_n B (pc := 23) 1 dX4_setMode_23 rfl rfl ?_
      refine x_ialdN B (pc := 24) j 1 0 hj (by decide) rfl rfl dX4_setMode_24 ?_
      refine x_istore_n B (pc := 25) [(3, .int (L 0 j)), (0, .ref (am 0)), (1, .int (nI j)), (2, .int b)] dX4_setMode_25 rfl (by decide) rfl ?_
      refine x_aload_n B (pc := 26) 1 dX4_setMode_26 rfl rfl ?_
      refine x_get B (pc := 27) xcl_M 0 0 0 rfl rfl (by decide) tm630 rfl rfl dX4_setMode_27 ?_
      refine x_iload_n B (pc := 30) 2 dX4_setMode_30 rfl rfl ?_
      refine x_iload_n B (pc := 31) 3 dX4_setMode_31 rfl rfl ?_
      refine x_iastN B (pc := 32) j 1 0 [moW am N tf tt bf bt up op tr tn 0, mlW D am (xup L 0 j b)] hj (by decide) rfl rfl ml_set0 rfl dX4_setMode_32 ?_
      refine x_iload_n B (pc := 33) 0 dX4_setMode_33 rfl rfl ?_
      exact x_iret F (pc := 34) rfl dX4_setMode_34 (Or.inl ⟨by rw [ha, hb]; rfl, by rw [ej], by rw [ej]⟩) (Nat.le_of_ble_eq_true rfl) (Nat.le_of_ble_eq_true rfl)

set_option maxRecDepth 100000 in
set_option maxHeartbeats 4000000 in
theorem c_X4_grant {l : Launch} (hl : l.stackTraces = false) (D : va_G) (e0 : Nat) {am : Nat → Nat} {N tf tt bf bt : Nat} {up op tr : Int32} {tn : Nat} {th : Int32} {L : xS} {bg : Nat → Int32} {qb : List xFr} {a b : Int32} (hup : up = 0 ∨ up = 1) (hL : l16 L) (hb9 : mgOk encB qb bf bt bg) (hlb : qb.length < 2048) (htt : bt < 2 ^ 30) : xC l yX4_grant (.code yX4_grant cX4_grant 4 (some .int)) ({ frames := 2, cells := 0, slots := 0, locals := 42 } : Room) D e0 [.ref (am 0), .int a, .int b] [moW am N tf tt bf bt up op tr tn th, mlW D am L, rbW D am bg] (fun w cs => (cod (xinB 0 3 a) (xinB 0 15 b) (decide (up = 1)) = 0 ∧ w = some (.int (grV L a b)) ∧ ∃ bg1, mgOk encB (qb ++ [(3, ix a, ix (grV L a b))]) bf (bt + 1) bg1 ∧ cs = [moW am N tf tt bf (bt + 1) up op tr tn 0, mlW D am L, rbW D am bg1]) ∨ (cod (xinB 0 3 a) (xinB 0 15 b) (decide (up = 1)) ≠ 0 ∧ (∃ z, w = some (.int z)) ∧ cs = [moW am N tf tt bf bt up op tr tn (nI (cod (xinB 0 3 a) (xinB 0 15 b) (decide (up = 1)))), mlW D am L, rbW D am bg])) (fun _ => False) := by
  refine xC_of hl (by decide +kernel) (Nat.le_of_ble_eq_true rfl) (fun G X F => ?_)
  have B : xB l D e0 "CreditLinksModel" cX4_grant 4 (some .int) [] _ G X := F.base
  show G 0 [(0, .ref (am 0)), (1, .int a), (2, .int b)] [] [moW am N tf tt bf bt up op tr tn th, mlW D am L, rbW D am bg] 0 0
  refine x_aload_n B (pc := 0) 0 dX4_grant_0 rfl rfl ?_
  refine x_iload_n B (pc := 1) 1 dX4_grant_1 rfl rfl ?_
  refine x_callS B (pc := 2) (As := [.int a]) (c_X4_isLink hl D e0 ) tm724 tm725 tm7 tm726 md_X4_isLink ⟨Nat.le_of_ble_eq_true rfl, Nat.le_of_ble_eq_true rfl⟩ [] rfl rfl rfl (Nat.le_of_ble_eq_true rfl) (Nat.le_of_ble_eq_true rfl) (Nat.le_of_ble_eq_true rfl) dX4_grant_2 (fun E hE => False.elim hE) (fun v cs1 hp => ?_)
  obtain ⟨rfl, rfl⟩ := hp
  show G 5 [(0, .ref (am 0)), (1, .int a), (2, .int b)] [.int (bz (xinB 0 3 a)), .ref (am 0)] [moW am N tf tt bf bt up op tr tn th, mlW D am L, rbW D am bg] 0 0
  cases ha : xinB 0 3 a
  · skip
    refine x_iload_n B (pc := 5) 2 dX4_grant_5 rfl rfl ?_
    refine x_iconst B (pc := 6) 0 dX4_grant_6 (by decide) ?_
    refine x_bipush B (pc := 7) 15 dX4_grant_7 (by decide) ?_
    refine x_callS B (pc := 9) (As := [.int b, .int 0, .int 15]) (c_X4_in hl D e0 ) tm727 tm728 tm7 tm729 md_X4_in ⟨Nat.le_of_ble_eq_true rfl, Nat.le_of_ble_eq_true rfl⟩ [] rfl rfl rfl (Nat.le_of_ble_eq_true rfl) (Nat.le_of_ble_eq_true rfl) (Nat.le_of_ble_eq_true rfl) dX4_grant_9 (fun E hE => False.elim hE) (fun v cs1 hp => ?_)
    obtain ⟨rfl, rfl⟩ := hp
    show G 12 [(0, .ref (am 0)), (1, .int a), (2, .int b)] [.int (bz (xinB 0 15 b)), .int 0, .ref (am 0)] [moW am N tf tt bf bt up op tr tn th, mlW D am L, rbW D am bg] 0 0
    cases hb : xinB 0 15 b
    · skip
      refine x_aload_n B (pc := 12) 0 dX4_grant_12 rfl rfl ?_
      rcases hup with rfl | rfl
      · skip
        refine x_get B (pc := 13) (v := .int 0) xcl_M 0 0 22 rfl rfl (by decide) tm652 rfl rfl dX4_grant_13 ?_
        refine x_callV B (pc := 16) (As := [.int 0, .int 0, .int 0]) (c_X4_asked__ hl D e0 (p := false) (q := false) (r := false)) xcl_M rfl 0 0 rfl rfl tm738 tm740 ts14 tm7 tm741 md_X4_asked__ ⟨Nat.le_of_ble_eq_true rfl, Nat.le_of_ble_eq_true rfl⟩ [0] rfl rfl rfl (Nat.le_of_ble_eq_true rfl) (Nat.le_of_ble_eq_true rfl) (Nat.le_of_ble_eq_true rfl) dX4_grant_16 (fun E hE => False.elim hE) (fun v cs1 hp => ?_)
        obtain ⟨rfl, rfl⟩ := hp
        show G 19 [(0, .ref (am 0)), (1, .int a), (2, .int b)] [.int 0] [moW am N tf tt bf bt 0 op tr tn (nI 1), mlW D am L, rbW D am bg] 0 0
        refine x_if_ne B (pc := 19) 24 dX4_grant_19 (by decide) (fun h19 => absurd (by decide) h19) (fun h19 => ?_)
        refine x_iconst B (pc := 22) 0 dX4_grant_22 (by decide) ?_
        have hc : cod (xinB 0 3 a) (xinB 0 15 b) (decide ((0 : Int32) = 1)) = 1 := by first | (rw [ha]; rfl) | (rw [ha, hb]; rfl)
        exact x_iret F (pc := 23) rfl dX4_grant_23 (Or.inr ⟨by rw [hc]; decide, ⟨_, rfl⟩, by rw [hc]⟩) (Nat.le_of_ble_eq_true rfl) (Nat.le_of_ble_eq_true rfl)
      · skip
        refine x_get B (pc := 13) (v := .int 1) xcl_M 0 0 22 rfl rfl (by decide) tm652 rfl rfl dX4_grant_13 ?_
        refine x_callV B (pc := 16) (As := [.int 0, .int 0, .int 1]) (c_X4_asked__ hl D e0 (p := false) (q := false) (r := true)) xcl_M rfl 0 0 rfl rfl tm738 tm740 ts14 tm7 tm741 md_X4_asked__ ⟨Nat.le_of_ble_eq_true rfl, Nat.le_of_ble_eq_true rfl⟩ [0] rfl rfl rfl (Nat.le_of_ble_eq_true rfl) (Nat.le_of_ble_eq_true rfl) (Nat.le_of_ble_eq_true rfl) dX4_grant_16 (fun E hE => False.elim hE) (fun v cs1 hp => ?_)
        obtain ⟨rfl, rfl⟩ := hp
        show G 19 [(0, .ref (am 0)), (1, .int a), (2, .int b)] [.int 0] [moW am N tf tt bf bt 1 op tr tn (nI 1), mlW D am L, rbW D am bg] 0 0
        refine x_if_ne B (pc := 19) 24 dX4_grant_19 (by decide) (fun h19 => absurd (by decide) h19) (fun h19 => ?_)
        refine x_iconst B (pc := 22) 0 dX4_grant_22 (by decide) ?_
        have hc : cod (xinB 0 3 a) (xinB 0 15 b) (decide ((1 : Int32) = 1)) = 1 := by first | (rw [ha]; rfl) | (rw [ha, hb]; rfl)
        exact x_iret F (pc := 23) rfl dX4_grant_23 (Or.inr ⟨by rw [hc]; decide, ⟨_, rfl⟩, by rw [hc]⟩) (Nat.le_of_ble_eq_true rfl) (Nat.le_of_ble_eq_true rfl)
    · obtain ⟨w, hw1, hw2, rfl⟩ := xinB_t hb (by decide) (by decide)
      have ew : ix (nI w) = w := ix_nI (by omega)
      refine x_aload_n B (pc := 12) 0 dX4_grant_12 rfl rfl ?_
      rcases hup with rfl | rfl
      · skip
        refine x_get B (pc := 13) (v := .int 0) xcl_M 0 0 22 rfl rfl (by decide) tm652 rfl rfl dX4_grant_13 ?_
        refine x_callV B (pc := 16) (As := [.int 0, .int 1, .int 0]) (c_X4_asked__ hl D e0 (p := false) (q := true) (r := false)) xcl_M rfl 0 0 rfl rfl tm738 tm740 ts14 tm7 tm741 md_X4_asked__ ⟨Nat.le_of_ble_eq_true rfl, Nat.le_of_ble_eq_true rfl⟩ [0] rfl rfl rfl (Nat.le_of_ble_eq_true rfl) (Nat.le_of_ble_eq_true rfl) (Nat.le_of_ble_eq_true rfl) dX4_grant_16 (fun E hE => False.elim hE) (fun v cs1 hp => ?_)
        obtain ⟨rfl, rfl⟩ := hp
        show G 19 [(0, .ref (am 0)), (1, .int a), (2, .int (nI w))] [.int 0] [moW am N tf tt bf bt 0 op tr tn (nI 1), mlW D am L, rbW D am bg] 0 0
        refine x_if_ne B (pc := 19) 24 dX4_grant_19 (by decide) (fun h19 => absurd (by decide) h19) (fun h19 => ?_)
        refine x_iconst B (pc := 22) 0 dX4_grant_22 (by decide) ?_
        have hc : cod (xinB 0 3 a) (xinB 0 15 (nI w)) (decide ((0 : Int32) = 1)) = 1 := by first | (rw [ha]; rfl) | (rw [ha, hb]; rfl)
        exact x_iret F (pc := 23) rfl dX4_grant_23 (Or.inr ⟨by rw [hc]; decide, ⟨_, rfl⟩, by rw [hc]⟩) (Nat.le_of_ble_eq_true rfl) (Nat.le_of_ble_eq_true rfl)
      · skip
        refine x_get B (pc := 13) (v := .int 1) xcl_M 0 0 22 rfl rfl (by decide) tm652 rfl rfl dX4_grant_13 ?_
        refine x_callV B (pc := 16) (As := [.int 0, .int 1, .int 1]) (c_X4_asked__ hl D e0 (p := false) (q := true) (r := true)) xcl_M rfl 0 0 rfl rfl tm738 tm740 ts14 tm7 tm741 md_X4_asked__ ⟨Nat.le_of_ble_eq_true rfl, Nat.le_of_ble_eq_true rfl⟩ [0] rfl rfl rfl (Nat.le_of_ble_eq_true rfl) (Nat.le_of_ble_eq_true rfl) (Nat.le_of_ble_eq_true rfl) dX4_grant_16 (fun E hE => False.elim hE) (fun v cs1 hp => ?_)
        obtain ⟨rfl, rfl⟩ := hp
        show G 19 [(0, .ref (am 0)), (1, .int a), (2, .int (nI w))] [.int 0] [moW am N tf tt bf bt 1 op tr tn (nI 1), mlW D am L, rbW D am bg] 0 0
        refine x_if_ne B (pc := 19) 24 dX4_grant_19 (by decide) (fun h19 => absurd (by decide) h19) (fun h19 => ?_)
        refine x_iconst B (pc := 22) 0 dX4_grant_22 (by decide) ?_
        have hc : cod (xinB 0 3 a) (xinB 0 15 (nI w)) (decide ((1 : Int32) = 1)) = 1 := by first | (rw [ha]; rfl) | (rw [ha, hb]; rfl)
        exact x_iret F (pc := 23) rfl dX4_grant_23 (Or.inr ⟨by rw [hc]; decide, ⟨_, rfl⟩, by rw [hc]⟩) (Nat.le_of_ble_eq_true rfl) (Nat.le_of_ble_eq_true rfl)
  · obtain ⟨j, hj0, hj3, rfl⟩ := xinB_t ha (by decide) (by decide)
    have hj : j < 4 := by omega
    have ej : ix (nI j) = j := ix_nI (by omega)
    refine x_iload_n B (pc := 5) 2 dX4_grant_5 rfl rfl ?_
    refine x_iconst B (pc := 6) 0 dX4_grant_6 (by decide) ?_
    refine x_bipush B (pc := 7) 15 dX4_grant_7 (by decide) ?_
    refine x_callS B (pc := 9) (As := [.int b, .int 0, .int 15]) (c_X4_in hl D e0 ) tm727 tm728 tm7 tm729 md_X4_in ⟨Nat.le_of_ble_eq_true rfl, Nat.le_of_ble_eq_true rfl⟩ [] rfl rfl rfl (Nat.le_of_ble_eq_true rfl) (Nat.le_of_ble_eq_true rfl) (Nat.le_of_ble_eq_true rfl) dX4_grant_9 (fun E hE => False.elim hE) (fun v cs1 hp => ?_)
    obtain ⟨rfl, rfl⟩ := hp
    show G 12 [(0, .ref (am 0)), (1, .int (nI j)), (2, .int b)] [.int (bz (xinB 0 15 b)), .int 1, .ref (am 0)] [moW am N tf tt bf bt up op tr tn th, mlW D am L, rbW D am bg] 0 0
    cases hb : xinB 0 15 b
    · skip
      refine x_aload_n B (pc := 12) 0 dX4_grant_12 rfl rfl ?_
      rcases hup with rfl | rfl
      · skip
        refine x_get B (pc := 13) (v := .int 0) xcl_M 0 0 22 rfl rfl (by decide) tm652 rfl rfl dX4_grant_13 ?_
        refine x_callV B (pc := 16) (As := [.int 1, .int 0, .int 0]) (c_X4_asked__ hl D e0 (p := true) (q := false) (r := false)) xcl_M rfl 0 0 rfl rfl tm738 tm740 ts14 tm7 tm741 md_X4_asked__ ⟨Nat.le_of_ble_eq_true rfl, Nat.le_of_ble_eq_true rfl⟩ [0] rfl rfl rfl (Nat.le_of_ble_eq_true rfl) (Nat.le_of_ble_eq_true rfl) (Nat.le_of_ble_eq_true rfl) dX4_grant_16 (fun E hE => False.elim hE) (fun v cs1 hp => ?_)
        obtain ⟨rfl, rfl⟩ := hp
        show G 19 [(0, .ref (am 0)), (1, .int (nI j)), (2, .int b)] [.int 0] [moW am N tf tt bf bt 0 op tr tn (nI 2), mlW D am L, rbW D am bg] 0 0
        refine x_if_ne B (pc := 19) 24 dX4_grant_19 (by decide) (fun h19 => absurd (by decide) h19) (fun h19 => ?_)
        refine x_iconst B (pc := 22) 0 dX4_grant_22 (by decide) ?_
        have hc : cod (xinB 0 3 (nI j)) (xinB 0 15 b) (decide ((0 : Int32) = 1)) = 2 := by first | (rw [ha]; rfl) | (rw [ha, hb]; rfl)
        exact x_iret F (pc := 23) rfl dX4_grant_23 (Or.inr ⟨by rw [hc]; decide, ⟨_, rfl⟩, by rw [hc]⟩) (Nat.le_of_ble_eq_true rfl) (Nat.le_of_ble_eq_true rfl)
      · skip
        refine x_get B (pc := 13) (v := .int 1) xcl_M 0 0 22 rfl rfl (by decide) tm652 rfl rfl dX4_grant_13 ?_
        refine x_callV B (pc := 16) (As := [.int 1, .int 0, .int 1]) (c_X4_asked__ hl D e0 (p := true) (q := false) (r := true)) xcl_M rfl 0 0 rfl rfl tm738 tm740 ts14 tm7 tm741 md_X4_asked__ ⟨Nat.le_of_ble_eq_true rfl, Nat.le_of_ble_eq_true rfl⟩ [0] rfl rfl rfl (Nat.le_of_ble_eq_true rfl) (Nat.le_of_ble_eq_true rfl) (Nat.le_of_ble_eq_true rfl) dX4_grant_16 (fun E hE => False.elim hE) (fun v cs1 hp => ?_)
        obtain ⟨rfl, rfl⟩ := hp
        show G 19 [(0, .ref (am 0)), (1, .int (nI j)), (2, .int b)] [.int 0] [moW am N tf tt bf bt 1 op tr tn (nI 2), mlW D am L, rbW D am bg] 0 0
        refine x_if_ne B (pc := 19) 24 dX4_grant_19 (by decide) (fun h19 => absurd (by decide) h19) (fun h19 => ?_)
        refine x_iconst B (pc := 22) 0 dX4_grant_22 (by decide) ?_
        have hc : cod (xinB 0 3 (nI j)) (xinB 0 15 b) (decide ((1 : Int32) = 1)) = 2 := by first | (rw [ha]; rfl) | (rw [ha, hb]; rfl)
        exact x_iret F (pc := 23) rfl dX4_grant_23 (Or.inr ⟨by rw [hc]; decide, ⟨_, rfl⟩, by rw [hc]⟩) (Nat.le_of_ble_eq_true rfl) (Nat.le_of_ble_eq_true rfl)
    · obtain ⟨w, hw1, hw2, rfl⟩ := xinB_t hb (by decide) (by decide)
      have ew : ix (nI w) = w := ix_nI (by omega)
      refine x_aload_n B (pc := 12) 0 dX4_grant_12 rfl rfl ?_
      rcases hup with rfl | rfl
      · skip
        refine x_get B (pc := 13) (v := .int 0) xcl_M 0 0 22 rfl rfl (by decide) tm652 rfl rfl dX4_grant_13 ?_
        refine x_callV B (pc := 16) (As := [.int 1, .int 1, .int 0]) (c_X4_asked__ hl D e0 (p := true) (q := true) (r := false)) xcl_M rfl 0 0 rfl rfl tm738 tm740 ts14 tm7 tm741 md_X4_asked__ ⟨Nat.le_of_ble_eq_true rfl, Nat.le_of_ble_eq_true rfl⟩ [0] rfl rfl rfl (Nat.le_of_ble_eq_true rfl) (Nat.le_of_ble_eq_true rfl) (Nat.le_of_ble_eq_true rfl) dX4_grant_16 (fun E hE => False.elim hE) (fun v cs1 hp => ?_)
        obtain ⟨rfl, rfl⟩ := hp
        show G 19 [(0, .ref (am 0)), (1, .int (nI j)), (2, .int (nI w))] [.int 0] [moW am N tf tt bf bt 0 op tr tn (nI 3), mlW D am L, rbW D am bg] 0 0
        refine x_if_ne B (pc := 19) 24 dX4_grant_19 (by decide) (fun h19 => absurd (by decide) h19) (fun h19 => ?_)
        refine x_iconst B (pc := 22) 0 dX4_grant_22 (by decide) ?_
        have hc : cod (xinB 0 3 (nI j)) (xinB 0 15 (nI w)) (decide ((0 : Int32) = 1)) = 3 := by first | (rw [ha]; rfl) | (rw [ha, hb]; rfl)
        exact x_iret F (pc := 23) rfl dX4_grant_23 (Or.inr ⟨by rw [hc]; decide, ⟨_, rfl⟩, by rw [hc]⟩) (Nat.le_of_ble_eq_true rfl) (Nat.le_of_ble_eq_true rfl)
      · skip
        refine x_get B (pc := 13) (v := .int 1) xcl_M 0 0 22 rfl rfl (by decide) tm652 rfl rfl dX4_grant_13 ?_
        refine x_callV B (pc := 16) (As := [.int 1, .int 1, .int 1]) (c_X4_asked__ hl D e0 (p := true) (q := true) (r := true)) xcl_M rfl 0 0 rfl rfl tm738 tm740 ts14 tm7 tm741 md_X4_asked__ ⟨Nat.le_of_ble_eq_true rfl, Nat.le_of_ble_eq_true rfl⟩ [0] rfl rfl rfl (Nat.le_of_ble_eq_true rfl) (Nat.le_of_ble_eq_true rfl) (Nat.le_of_ble_eq_true rfl) dX4_grant_16 (fun E hE => False.elim hE) (fun v cs1 hp => ?_)
        obtain ⟨rfl, rfl⟩ := hp
        show G 19 [(0, .ref (am 0)), (1, .int (nI j)), (2, .int (nI w))] [.int 1] [moW am N tf tt bf bt 1 op tr tn 0, mlW D am L, rbW D am bg] 0 0
        refine x_if_ne B (pc := 19) 24 dX4_grant_19 (by decide) (fun h19 => ?_) (fun h19 => absurd h19 (by decide))
        obtain ⟨v, hv, ev⟩ := hL 3 j (by decide) (by decide) hj
        have eg : grV L (nI j) (nI w) = nI ((v + w) % 16) := by unfold grV; rw [ej, ev]; exact (gr_m hv (by omega)).2
        have eg2 : ix (nI ((v + w) % 16)) = (v + w) % 16 := ix_nI (by omega)
        refine x_aload_n B (pc := 24) 0 dX4_grant_24 rfl rfl ?_
        refine x_get B (pc := 25) xcl_M 0 0 3 rfl rfl (by decide) tm633 rfl rfl dX4_grant_25 ?_
        refine x_iload_n B (pc := 28) 1 dX4_grant_28 rfl rfl ?_
        refine x_ialdN B (pc := 29) j 1 3 hj (by decide) rfl rfl dX4_grant_29 ?_
        refine x_val B (y := nI v) ev ?_
        refine x_iload_n B (pc := 30) 2 dX4_grant_30 rfl rfl ?_
        refine x_iadd B (pc := 31) dX4_grant_31 ?_
        refine x_bipush B (pc := 32) 16 dX4_grant_32 (by decide) ?_
        refine x_irem B (pc := 34) dX4_grant_34 (by decide) ?_
        refine x_val B (y := nI ((v + w) % 16)) ((gr_m hv (by omega)).1) ?_
        refine x_istore_n B (pc := 35) [(3, .int (nI ((v + w) % 16))), (0, .ref (am 0)), (1, .int (nI j)), (2, .int (nI w))] dX4_grant_35 rfl (by decide) rfl ?_
        refine x_aload_n B (pc := 36) 1 dX4_grant_36 rfl rfl ?_
        refine x_iconst B (pc := 37) (-1) dX4_grant_37 (by decide) ?_
        refine x_bipush B (pc := 38) 16 dX4_grant_38 (by decide) ?_
        refine x_iload_n B (pc := 40) 2 dX4_grant_40 rfl rfl ?_
        refine x_imul B (pc := 41) dX4_grant_41 ?_
        refine x_isub B (pc := 42) dX4_grant_42 ?_
        refine x_iload_n B (pc := 43) 0 dX4_grant_43 rfl rfl ?_
        refine x_isub B (pc := 44) dX4_grant_44 ?_
        refine x_callV B (pc := 45) (As := [.int (((-1) - (16 * (nI j))) - (nI ((v + w) % 16)))]) (c_X4_returns hl D e0 htt) xcl_M rfl 0 0 rfl rfl tm742 tm744 ts15 tm7 tm745 md_X4_returns ⟨Nat.le_of_ble_eq_true rfl, Nat.le_of_ble_eq_true rfl⟩ [0, 2] rfl rfl rfl (Nat.le_of_ble_eq_true rfl) (Nat.le_of_ble_eq_true rfl) (Nat.le_of_ble_eq_true rfl) dX4_grant_45 (fun E hE => False.elim hE) (fun v cs1 hp => ?_)
        obtain ⟨rfl, rfl⟩ := hp
        show G 48 [(3, .int (nI ((v + w) % 16))), (0, .ref (am 0)), (1, .int (nI j)), (2, .int (nI w))] [] [moW am N tf tt bf (bt + 1) 1 op tr tn 0, mlW D am L, rbW D am (upd bg (bt % 2048) (((-1) - (16 * (nI j))) - (nI ((v + w) % 16))))] 0 0
        refine x_iload_n B (pc := 48) 0 dX4_grant_48 rfl rfl ?_
        exact x_iret F (pc := 49) rfl dX4_grant_49 (Or.inl ⟨by rw [ha, hb]; rfl, by rw [eg], _, by rw [eg, ej, eg2]; exact mg_add hb9 hlb grant_e, rfl⟩) (Nat.le_of_ble_eq_true rfl) (Nat.le_of_ble_eq_true rfl)

set_option maxRecDepth 100000 in
set_option maxHeartbeats 4000000 in
theorem c_X4_creditOf {l : Launch} (hl : l.stackTraces = false) (D : va_G) (e0 : Nat) {am : Nat → Nat} {N tf tt bf bt : Nat} {up op tr : Int32} {tn : Nat} {th : Int32} {L : xS} {j : Nat} (hL : l16 L) (hj : j < 4) : xC l yX4_creditOf (.code yX4_creditOf cX4_creditOf 2 (some .int)) ({ frames := 0, cells := 0, slots := 0, locals := 0 } : Room) D e0 [.ref (am 0), .int (nI j)] [moW am N tf tt bf bt up op tr tn th, mlW D am L] (fun v cs => v = some (.int (crd L j)) ∧ cs = [moW am N tf tt bf bt up op tr tn th, mlW D am L]) (fun _ => False) := by
  refine xC_of hl (by decide +kernel) (Nat.le_of_ble_eq_true rfl) (fun G X F => ?_)
  have B : xB l D e0 "CreditLinksModel" cX4_creditOf 2 (some .int) [] _ G X := F.base
  show G 0 [(0, .ref (am 0)), (1, .int (nI j))] [] [moW am N tf tt bf bt up op tr tn th, mlW D am L] 0 0
  obtain ⟨v, hv, ev⟩ := hL 2 j (by decide) (by decide) hj
  obtain ⟨u, hu, eu⟩ := hL 1 j (by decide) (by decide) hj
  refine x_aload_n B (pc := 0) 0 dX4_creditOf_0 rfl rfl ?_
  refine x_get B (pc := 1) xcl_M 0 0 2 rfl rfl (by decide) tm632 rfl rfl dX4_creditOf_1 ?_
  refine x_iload_n B (pc := 4) 1 dX4_creditOf_4 rfl rfl ?_
  refine x_ialdN B (pc := 5) j 1 2 hj (by decide) rfl rfl dX4_creditOf_5 ?_
  refine x_val B (y := nI v) ev ?_
  refine x_aload_n B (pc := 6) 0 dX4_creditOf_6 rfl rfl ?_
  refine x_get B (pc := 7) xcl_M 0 0 1 rfl rfl (by decide) tm631 rfl rfl dX4_creditOf_7 ?_
  refine x_iload_n B (pc := 10) 1 dX4_creditOf_10 rfl rfl ?_
  refine x_ialdN B (pc := 11) j 1 1 hj (by decide) rfl rfl dX4_creditOf_11 ?_
  refine x_val B (y := nI u) eu ?_
  refine x_isub B (pc := 12) dX4_creditOf_12 ?_
  refine x_bipush B (pc := 13) 16 dX4_creditOf_13 (by decide) ?_
  refine x_iadd B (pc := 15) dX4_creditOf_15 ?_
  refine x_bipush B (pc := 16) 16 dX4_creditOf_16 (by decide) ?_
  refine x_irem B (pc := 18) dX4_creditOf_18 (by decide) ?_
  refine x_val B (y := crd L j) (by unfold crd; rw [ev, eu]; exact crd_m hv hu) ?_
  exact x_iret F (pc := 19) rfl dX4_creditOf_19 (⟨rfl, rfl⟩) (Nat.le_of_ble_eq_true rfl) (Nat.le_of_ble_eq_true rfl)

set_option maxRecDepth 100000 in
set_option maxHeartbeats 4000000 in
theorem c_X4_credit {l : Launch} (hl : l.stackTraces = false) (D : va_G) (e0 : Nat) {am : Nat → Nat} {N tf tt bf bt : Nat} {up op tr : Int32} {tn : Nat} {th : Int32} {L : xS} {a : Int32} (hL : l16 L) : xC l yX4_credit (.code yX4_credit cX4_credit 2 (some .int)) ({ frames := 2, cells := 0, slots := 0, locals := 42 } : Room) D e0 [.ref (am 0), .int a] [moW am N tf tt bf bt up op tr tn th, mlW D am L] (fun w cs => (cod (xinB 0 3 a) true true = 0 ∧ w = some (.int (crd L (ix a))) ∧ cs = [moW am N tf tt bf bt up op tr tn 0, mlW D am L]) ∨ (cod (xinB 0 3 a) true true ≠ 0 ∧ (∃ z, w = some (.int z)) ∧ cs = [moW am N tf tt bf bt up op tr tn (nI (cod (xinB 0 3 a) true true)), mlW D am L])) (fun _ => False) := by
  refine xC_of hl (by decide +kernel) (Nat.le_of_ble_eq_true rfl) (fun G X F => ?_)
  have B : xB l D e0 "CreditLinksModel" cX4_credit 2 (some .int) [] _ G X := F.base
  show G 0 [(0, .ref (am 0)), (1, .int a)] [] [moW am N tf tt bf bt up op tr tn th, mlW D am L] 0 0
  refine x_aload_n B (pc := 0) 0 dX4_credit_0 rfl rfl ?_
  refine x_iload_n B (pc := 1) 1 dX4_credit_1 rfl rfl ?_
  refine x_callS B (pc := 2) (As := [.int a]) (c_X4_isLink hl D e0 ) tm724 tm725 tm7 tm726 md_X4_isLink ⟨Nat.le_of_ble_eq_true rfl, Nat.le_of_ble_eq_true rfl⟩ [] rfl rfl rfl (Nat.le_of_ble_eq_true rfl) (Nat.le_of_ble_eq_true rfl) (Nat.le_of_ble_eq_true rfl) dX4_credit_2 (fun E hE => False.elim hE) (fun v cs1 hp => ?_)
  obtain ⟨rfl, rfl⟩ := hp
  show G 5 [(0, .ref (am 0)), (1, .int a)] [.int (bz (xinB 0 3 a)), .ref (am 0)] [moW am N tf tt bf bt up op tr tn th, mlW D am L] 0 0
  cases ha : xinB 0 3 a
  · skip
    refine x_callV B (pc := 5) (As := [.int 0]) (c_X4_asked hl D e0 (p := false)) xcl_M rfl 0 0 rfl rfl tm750 tm752 ts16 tm7 tm753 md_X4_asked ⟨Nat.le_of_ble_eq_true rfl, Nat.le_of_ble_eq_true rfl⟩ [0] rfl rfl rfl (Nat.le_of_ble_eq_true rfl) (Nat.le_of_ble_eq_true rfl) (Nat.le_of_ble_eq_true rfl) dX4_credit_5 (fun E hE => False.elim hE) (fun v cs1 hp => ?_)
    obtain ⟨rfl, rfl⟩ := hp
    show G 8 [(0, .ref (am 0)), (1, .int a)] [.int 0] [moW am N tf tt bf bt up op tr tn (nI 1), mlW D am L] 0 0
    refine x_if_eq B (pc := 8) 19 dX4_credit_8 (by decide) (fun h8 => ?_) (fun h8 => absurd (by decide) h8)
    refine x_iconst B (pc := 19) 0 dX4_credit_19 (by decide) ?_
    have hc : cod (xinB 0 3 a) true true = 1 := by first | (rw [ha]; rfl)
    exact x_iret F (pc := 20) rfl dX4_credit_20 (Or.inr ⟨by rw [hc]; decide, ⟨_, rfl⟩, by rw [hc]⟩) (Nat.le_of_ble_eq_true rfl) (Nat.le_of_ble_eq_true rfl)
  · obtain ⟨j, hj0, hj3, rfl⟩ := xinB_t ha (by decide) (by decide)
    have hj : j < 4 := by omega
    have ej : ix (nI j) = j := ix_nI (by omega)
    refine x_callV B (pc := 5) (As := [.int 1]) (c_X4_asked hl D e0 (p := true)) xcl_M rfl 0 0 rfl rfl tm750 tm752 ts16 tm7 tm753 md_X4_asked ⟨Nat.le_of_ble_eq_true rfl, Nat.le_of_ble_eq_true rfl⟩ [0] rfl rfl rfl (Nat.le_of_ble_eq_true rfl) (Nat.le_of_ble_eq_true rfl) (Nat.le_of_ble_eq_true rfl) dX4_credit_5 (fun E hE => False.elim hE) (fun v cs1 hp => ?_)
    obtain ⟨rfl, rfl⟩ := hp
    show G 8 [(0, .ref (am 0)), (1, .int (nI j))] [.int 1] [moW am N tf tt bf bt up op tr tn 0, mlW D am L] 0 0
    refine x_if_eq B (pc := 8) 19 dX4_credit_8 (by decide) (fun h8 => absurd h8 (by decide)) (fun h8 => ?_)
    refine x_aload_n B (pc := 11) 0 dX4_credit_11 rfl rfl ?_
    refine x_iload_n B (pc := 12) 1 dX4_credit_12 rfl rfl ?_
    refine x_callV B (pc := 13) (As := [.int (nI j)]) (c_X4_creditOf hl D e0 hL hj) xcl_M rfl 0 0 rfl rfl tm754 tm756 ts17 tm7 tm757 md_X4_creditOf ⟨Nat.le_of_ble_eq_true rfl, Nat.le_of_ble_eq_true rfl⟩ [0, 1] rfl rfl rfl (Nat.le_of_ble_eq_true rfl) (Nat.le_of_ble_eq_true rfl) (Nat.le_of_ble_eq_true rfl) dX4_credit_13 (fun E hE => False.elim hE) (fun v cs1 hp => ?_)
    obtain ⟨rfl, rfl⟩ := hp
    show G 16 [(0, .ref (am 0)), (1, .int (nI j))] [.int (crd L j)] [moW am N tf tt bf bt up op tr tn 0, mlW D am L] 0 0
    refine x_goto B (pc := 16) 20 dX4_credit_16 (by decide) ?_
    exact x_iret F (pc := 20) rfl dX4_credit_20 (Or.inl ⟨by rw [ha]; rfl, by rw [ej], rfl⟩) (Nat.le_of_ble_eq_true rfl) (Nat.le_of_ble_eq_true rfl)

set_option maxRecDepth 100000 in
set_option maxHeartbeats 4000000 in
theorem c_X4_sends {l : Launch} (hl : l.stackTraces = false) (D : va_G) (e0 : Nat) {am : Nat → Nat} {N tf tt bf bt : Nat} {up op tr : Int32} {tn : Nat} {th : Int32} {S : xS} {tg : Nat → Int32} {qf : List xFr} {d m kd : Nat} (hd : d < 60) (hkd : kd < 2) (hm : S 6 d = nI m) (hm4 : m ≤ 4) (hq : mgOk encF qf tf tt tg) (hl9 : qf.length + m ≤ 2048) (htt : tt + m < 2 ^ 30) : xC l yX4_sends (.code yX4_sends cX4_sends 4 none) ({ frames := 1, cells := 0, slots := 0, locals := 21 } : Room) D e0 [.ref (am 0), .int (nI d), .int (nI kd)] [moW am N tf tt bf bt up op tr tn th, mdW D am S, rtW D am tg] (fun w cs => w = none ∧ ∃ tg1, mgOk encF (qf ++ pts kd d m) tf (tt + m) tg1 ∧ cs = [moW am N tf (tt + m) bf bt up op tr tn th, mdW D am S, rtW D am tg1]) (fun _ => False) := by
  refine xC_of hl (by decide +kernel) (Nat.le_of_ble_eq_true rfl) (fun G X F => ?_)
  have B : xB l D e0 "CreditLinksModel" cX4_sends 4 none [] _ G X := F.base
  show G 0 [(0, .ref (am 0)), (1, .int (nI d)), (2, .int (nI kd))] [] [moW am N tf tt bf bt up op tr tn th, mdW D am S, rtW D am tg] 0 0
  refine x_iconst B (pc := 0) 0 dX4_sends_0 (by decide) ?_
  refine x_val B (y := nI 0) rfl ?_
  refine x_istore_n B (pc := 1) [(3, .int (nI 0)), (0, .ref (am 0)), (1, .int (nI d)), (2, .int (nI kd))] dX4_sends_1 rfl (by decide) rfl ?_
  have hloop2 : ∀ (fu : Nat) (i : Nat) (tg1 : Nat → Int32), i ≤ m → m + 1 ≤ i + fu → mgOk encF (qf ++ pts kd d i) tf (tt + i) tg1 → G 2 [(3, .int (nI i)), (2, .int (nI kd)), (1, .int (nI d)), (0, .ref (am 0))] [] [moW am N tf (tt + i) bf bt up op tr tn th, mdW D am S, rtW D am tg1] 0 0 := by
    intro fu
    induction fu with
    | zero =>
      intro i tg1 hi hfu hg
      omega
    | succ fu ih =>
      intro i tg1 hi hfu hg
      refine x_iload_n B (pc := 2) 0 dX4_sends_2 rfl rfl ?_
      refine x_aload_n B (pc := 3) 3 dX4_sends_3 rfl rfl ?_
      refine x_get B (pc := 4) xcl_M 0 0 6 rfl rfl (by decide) tm636 rfl rfl dX4_sends_4 ?_
      refine x_iload_n B (pc := 7) 2 dX4_sends_7 rfl rfl ?_
      refine x_ialdN B (pc := 8) d 1 2 hd (by decide) rfl rfl dX4_sends_8 ?_
      refine x_val B (y := nI m) hm ?_
      refine x_icmp_ge B (pc := 9) 32 dX4_sends_9 (by decide) (fun h9 => ?_) (fun h9 => ?_)
      · skip
        have hge : i = m := by
          have := (nI_leI (by omega) (by omega)).mp h9
          omega
        subst hge
        exact x_vret F (pc := 32) rfl dX4_sends_32 (⟨rfl, tg1, hg, rfl⟩) (Nat.le_of_ble_eq_true rfl) (Nat.le_of_ble_eq_true rfl)
      · skip
        have hlt : i < m := Nat.lt_of_not_le (fun e => h9 (nI_le e (by omega)))
        refine x_aload_n B (pc := 12) 3 dX4_sends_12 rfl rfl ?_
        refine x_bipush B (pc := 13) 16 dX4_sends_13 (by decide) ?_
        refine x_iload_n B (pc := 15) 2 dX4_sends_15 rfl rfl ?_
        refine x_imul B (pc := 16) dX4_sends_16 ?_
        refine x_iconst B (pc := 17) 2 dX4_sends_17 (by decide) ?_
        refine x_iload_n B (pc := 18) 0 dX4_sends_18 rfl rfl ?_
        refine x_imul B (pc := 19) dX4_sends_19 ?_
        refine x_iadd B (pc := 20) dX4_sends_20 ?_
        refine x_iload_n B (pc := 21) 1 dX4_sends_21 rfl rfl ?_
        refine x_iadd B (pc := 22) dX4_sends_22 ?_
        refine x_callV B (pc := 23) (As := [.int (((16 * (nI d)) + (2 * (nI i))) + (nI kd))]) (c_X4_goes hl D e0 (by omega)) xcl_M rfl 0 0 rfl rfl tm766 tm768 ts19 tm7 tm769 md_X4_goes ⟨Nat.le_of_ble_eq_true rfl, Nat.le_of_ble_eq_true rfl⟩ [0, 2] rfl rfl rfl (Nat.le_of_ble_eq_true rfl) (Nat.le_of_ble_eq_true rfl) (Nat.le_of_ble_eq_true rfl) dX4_sends_23 (fun E hE => False.elim hE) (fun v cs1 hp => ?_)
        obtain ⟨rfl, rfl⟩ := hp
        show G 26 [(3, .int (nI i)), (2, .int (nI kd)), (1, .int (nI d)), (0, .ref (am 0))] [] [moW am N tf (tt + i + 1) bf bt up op tr tn th, mdW D am S, rtW D am (upd tg1 ((tt + i) % 2048) (((16 * (nI d)) + (2 * (nI i))) + (nI kd)))] 0 0
        refine x_iinc B (pc := 26) 0 (nI (i + 1)) [(3, .int (nI (i + 1))), (2, .int (nI kd)), (1, .int (nI d)), (0, .ref (am 0))] dX4_sends_26 rfl (nI_1 i) (by decide) rfl ?_
        refine x_goto B (pc := 29) 2 dX4_sends_29 (by decide) ?_
        refine x_lv B [0, 1, 2, 3] [(3, .int (nI (i + 1))), (2, .int (nI kd)), (1, .int (nI d)), (0, .ref (am 0))] rfl ?_
        have hg2 := mg_add hg (by rw [List.length_append, pts_len]; omega) (part_e (d := d) (k := i) hkd)
        rw [← pts_s] at hg2
        exact ih (i + 1) _ (by omega) (by omega) hg2
  refine x_lv B [0, 3, 2, 1] [(3, .int (nI 0)), (2, .int (nI kd)), (1, .int (nI d)), (0, .ref (am 0))] rfl ?_
  exact hloop2 (m + 1) 0 tg (Nat.zero_le _) (by omega) (by rw [pts_0]; exact hq)

set_option maxRecDepth 100000 in
set_option maxHeartbeats 4000000 in
theorem c_X4_send {l : Launch} (hl : l.stackTraces = false) (D : va_G) (e0 : Nat) {am : Nat → Nat} {N tf tt bf bt : Nat} {up op tr : Int32} {tn : Nat} {th : Int32} {L : xS} {S : xS} {tg : Nat → Int32} {qf : List xFr} {a b : Int32} (hup : up = 0 ∨ up = 1) (hL : l16 L) (hN : N ≤ 60) (hq : mgOk encF qf tf tt tg) (hl9 : qf.length + 4 ≤ 2048) (htt : tt + 4 < 2 ^ 30) : xC l yX4_send (.code yX4_send cX4_send 5 (some .int)) ({ frames := 2, cells := 0, slots := 0, locals := 44 } : Room) D e0 [.ref (am 0), .int a, .int b] [moW am N tf tt bf bt up op tr tn th, mlW D am L, mdW D am S, rtW D am tg] (fun w cs => (cod (xinB 0 3 a) (xinB 1 4 b) (decide (up = 1) && (decide (N < 60) && !decide (crd L (ix a) = 0))) = 0 ∧ w = some (.int (nI N)) ∧ ∃ tg1, mgOk encF (qf ++ pts 0 N (ix b)) tf (tt + ix b) tg1 ∧ cs = [moW am (N + 1) tf (tt + ix b) bf bt up op tr tn 0, mlW D am (xup L 1 (ix a) ((L 1 (ix a) + 1) &&& 15)), mdW D am (sendS L S N a b), rtW D am tg1]) ∨ (cod (xinB 0 3 a) (xinB 1 4 b) (decide (up = 1) && (decide (N < 60) && !decide (crd L (ix a) = 0))) ≠ 0 ∧ (∃ z, w = some (.int z)) ∧ cs = [moW am N tf tt bf bt up op tr tn (nI (cod (xinB 0 3 a) (xinB 1 4 b) (decide (up = 1) && (decide (N < 60) && !decide (crd L (ix a) = 0))))), mlW D am L, mdW D am S, rtW D am tg])) (fun _ => False) := by
  refine xC_of hl (by decide +kernel) (Nat.le_of_ble_eq_true rfl) (fun G X F => ?_)
  have B : xB l D e0 "CreditLinksModel" cX4_send 5 (some .int) [] _ G X := F.base
  show G 0 [(0, .ref (am 0)), (1, .int a), (2, .int b)] [] [moW am N tf tt bf bt up op tr tn th, mlW D am L, mdW D am S, rtW D am tg] 0 0
  refine x_iload_n B (pc := 0) 1 dX4_send_0 rfl rfl ?_
  refine x_callS B (pc := 1) (As := [.int a]) (c_X4_isLink hl D e0 ) tm724 tm725 tm7 tm726 md_X4_isLink ⟨Nat.le_of_ble_eq_true rfl, Nat.le_of_ble_eq_true rfl⟩ [] rfl rfl rfl (Nat.le_of_ble_eq_true rfl) (Nat.le_of_ble_eq_true rfl) (Nat.le_of_ble_eq_true rfl) dX4_send_1 (fun E hE => False.elim hE) (fun v cs1 hp => ?_)
  obtain ⟨rfl, rfl⟩ := hp
  show G 4 [(0, .ref (am 0)), (1, .int a), (2, .int b)] [.int (bz (xinB 0 3 a))] [moW am N tf tt bf bt up op tr tn th, mlW D am L, mdW D am S, rtW D am tg] 0 0
  refine x_istore_n B (pc := 4) [(3, .int (bz (xinB 0 3 a))), (0, .ref (am 0)), (1, .int a), (2, .int b)] dX4_send_4 rfl (by decide) rfl ?_
  cases ha : xinB 0 3 a
  · skip
    refine x_aload_n B (pc := 5) 1 dX4_send_5 rfl rfl ?_
    refine x_iload_n B (pc := 6) 0 dX4_send_6 rfl rfl ?_
    refine x_iload_n B (pc := 7) 3 dX4_send_7 rfl rfl ?_
    refine x_iconst B (pc := 8) 1 dX4_send_8 (by decide) ?_
    refine x_iconst B (pc := 9) 4 dX4_send_9 (by decide) ?_
    refine x_callS B (pc := 10) (As := [.int b, .int 1, .int 4]) (c_X4_in hl D e0 ) tm727 tm728 tm7 tm729 md_X4_in ⟨Nat.le_of_ble_eq_true rfl, Nat.le_of_ble_eq_true rfl⟩ [] rfl rfl rfl (Nat.le_of_ble_eq_true rfl) (Nat.le_of_ble_eq_true rfl) (Nat.le_of_ble_eq_true rfl) dX4_send_10 (fun E hE => False.elim hE) (fun v cs1 hp => ?_)
    obtain ⟨rfl, rfl⟩ := hp
    show G 13 [(3, .int 0), (0, .ref (am 0)), (1, .int a), (2, .int b)] [.int (bz (xinB 1 4 b)), .int 0, .ref (am 0)] [moW am N tf tt bf bt up op tr tn th, mlW D am L, mdW D am S, rtW D am tg] 0 0
    refine x_iload_n B (pc := 13) 0 dX4_send_13 rfl rfl ?_
    refine x_if_eq B (pc := 14) 45 dX4_send_14 (by decide) (fun h14 => ?_) (fun h14 => absurd (by decide) h14)
    refine x_iconst B (pc := 45) 0 dX4_send_45 (by decide) ?_
    cases hb : xinB 1 4 b
    · skip
      refine x_callV B (pc := 46) (As := [.int 0, .int 0, .int 0]) (c_X4_asked__ hl D e0 (p := false) (q := false) (r := false)) xcl_M rfl 0 0 rfl rfl tm738 tm740 ts14 tm7 tm741 md_X4_asked__ ⟨Nat.le_of_ble_eq_true rfl, Nat.le_of_ble_eq_true rfl⟩ [0] rfl rfl rfl (Nat.le_of_ble_eq_true rfl) (Nat.le_of_ble_eq_true rfl) (Nat.le_of_ble_eq_true rfl) dX4_send_46 (fun E hE => False.elim hE) (fun v cs1 hp => ?_)
      obtain ⟨rfl, rfl⟩ := hp
      show G 49 [(3, .int 0), (0, .ref (am 0)), (1, .int a), (2, .int b)] [.int 0] [moW am N tf tt bf bt up op tr tn (nI 1), mlW D am L, mdW D am S, rtW D am tg] 0 0
      refine x_if_ne B (pc := 49) 54 dX4_send_49 (by decide) (fun h49 => absurd (by decide) h49) (fun h49 => ?_)
      refine x_iconst B (pc := 52) 0 dX4_send_52 (by decide) ?_
      have hc : cod (xinB 0 3 a) (xinB 1 4 b) (decide (up = 1) && (decide (N < 60) && !decide (crd L (ix a) = 0))) = 1 := by first | (rw [ha]; rfl) | (rw [ha, hb]; rfl) | (rw [ha, hb, decide_eq_false hN6]; rfl) | (rw [ha, hb, decide_eq_true hN6, ej, decide_eq_true hcr]; rfl)
      exact x_iret F (pc := 53) rfl dX4_send_53 (Or.inr ⟨by rw [hc]; decide, ⟨_, rfl⟩, by rw [hc]⟩) (Nat.le_of_ble_eq_true rfl) (Nat.le_of_ble_eq_true rfl)
    · obtain ⟨m, hm1, hm2, rfl⟩ := xinB_t hb (by decide) (by decide)
      have em : ix (nI m) = m := ix_nI (by omega)
      refine x_callV B (pc := 46) (As := [.int 0, .int 1, .int 0]) (c_X4_asked__ hl D e0 (p := false) (q := true) (r := false)) xcl_M rfl 0 0 rfl rfl tm738 tm740 ts14 tm7 tm741 md_X4_asked__ ⟨Nat.le_of_ble_eq_true rfl, Nat.le_of_ble_eq_true rfl⟩ [0] rfl rfl rfl (Nat.le_of_ble_eq_true rfl) (Nat.le_of_ble_eq_true rfl) (Nat.le_of_ble_eq_true rfl) dX4_send_46 (fun E hE => False.elim hE) (fun v cs1 hp => ?_)
      obtain ⟨rfl, rfl⟩ := hp
      show G 49 [(3, .int 0), (0, .ref (am 0)), (1, .int a), (2, .int (nI m))] [.int 0] [moW am N tf tt bf bt up op tr tn (nI 1), mlW D am L, mdW D am S, rtW D am tg] 0 0
      refine x_if_ne B (pc := 49) 54 dX4_send_49 (by decide) (fun h49 => absurd (by decide) h49) (fun h49 => ?_)
      refine x_iconst B (pc := 52) 0 dX4_send_52 (by decide) ?_
      have hc : cod (xinB 0 3 a) (xinB 1 4 (nI m)) (decide (up = 1) && (decide (N < 60) && !decide (crd L (ix a) = 0))) = 1 := by first | (rw [ha]; rfl) | (rw [ha, hb]; rfl) | (rw [ha, hb, decide_eq_false hN6]; rfl) | (rw [ha, hb, decide_eq_true hN6, ej, decide_eq_true hcr]; rfl)
      exact x_iret F (pc := 53) rfl dX4_send_53 (Or.inr ⟨by rw [hc]; decide, ⟨_, rfl⟩, by rw [hc]⟩) (Nat.le_of_ble_eq_true rfl) (Nat.le_of_ble_eq_true rfl)
  · obtain ⟨j, hj0, hj3, rfl⟩ := xinB_t ha (by decide) (by decide)
    have hj : j < 4 := by omega
    have ej : ix (nI j) = j := ix_nI (by omega)
    refine x_aload_n B (pc := 5) 1 dX4_send_5 rfl rfl ?_
    refine x_iload_n B (pc := 6) 0 dX4_send_6 rfl rfl ?_
    refine x_iload_n B (pc := 7) 3 dX4_send_7 rfl rfl ?_
    refine x_iconst B (pc := 8) 1 dX4_send_8 (by decide) ?_
    refine x_iconst B (pc := 9) 4 dX4_send_9 (by decide) ?_
    refine x_callS B (pc := 10) (As := [.int b, .int 1, .int 4]) (c_X4_in hl D e0 ) tm727 tm728 tm7 tm729 md_X4_in ⟨Nat.le_of_ble_eq_true rfl, Nat.le_of_ble_eq_true rfl⟩ [] rfl rfl rfl (Nat.le_of_ble_eq_true rfl) (Nat.le_of_ble_eq_true rfl) (Nat.le_of_ble_eq_true rfl) dX4_send_10 (fun E hE => False.elim hE) (fun v cs1 hp => ?_)
    obtain ⟨rfl, rfl⟩ := hp
    show G 13 [(3, .int 1), (0, .ref (am 0)), (1, .int (nI j)), (2, .int b)] [.int (bz (xinB 1 4 b)), .int 1, .ref (am 0)] [moW am N tf tt bf bt up op tr tn th, mlW D am L, mdW D am S, rtW D am tg] 0 0
    refine x_iload_n B (pc := 13) 0 dX4_send_13 rfl rfl ?_
    refine x_if_eq B (pc := 14) 45 dX4_send_14 (by decide) (fun h14 => absurd h14 (by decide)) (fun h14 => ?_)
    refine x_aload_n B (pc := 17) 1 dX4_send_17 rfl rfl ?_
    rcases hup with rfl | rfl
    · skip
      refine x_get B (pc := 18) (v := .int 0) xcl_M 0 0 22 rfl rfl (by decide) tm652 rfl rfl dX4_send_18 ?_
      refine x_if_eq B (pc := 21) 45 dX4_send_21 (by decide) (fun h21 => ?_) (fun h21 => absurd (by decide) h21)
      refine x_iconst B (pc := 45) 0 dX4_send_45 (by decide) ?_
      cases hb : xinB 1 4 b
      · skip
        refine x_callV B (pc := 46) (As := [.int 1, .int 0, .int 0]) (c_X4_asked__ hl D e0 (p := true) (q := false) (r := false)) xcl_M rfl 0 0 rfl rfl tm738 tm740 ts14 tm7 tm741 md_X4_asked__ ⟨Nat.le_of_ble_eq_true rfl, Nat.le_of_ble_eq_true rfl⟩ [0] rfl rfl rfl (Nat.le_of_ble_eq_true rfl) (Nat.le_of_ble_eq_true rfl) (Nat.le_of_ble_eq_true rfl) dX4_send_46 (fun E hE => False.elim hE) (fun v cs1 hp => ?_)
        obtain ⟨rfl, rfl⟩ := hp
        show G 49 [(3, .int 1), (0, .ref (am 0)), (1, .int (nI j)), (2, .int b)] [.int 0] [moW am N tf tt bf bt 0 op tr tn (nI 2), mlW D am L, mdW D am S, rtW D am tg] 0 0
        refine x_if_ne B (pc := 49) 54 dX4_send_49 (by decide) (fun h49 => absurd (by decide) h49) (fun h49 => ?_)
        refine x_iconst B (pc := 52) 0 dX4_send_52 (by decide) ?_
        have hc : cod (xinB 0 3 (nI j)) (xinB 1 4 b) (decide ((0 : Int32) = 1) && (decide (N < 60) && !decide (crd L (ix (nI j)) = 0))) = 2 := by first | (rw [ha]; rfl) | (rw [ha, hb]; rfl) | (rw [ha, hb, decide_eq_false hN6]; rfl) | (rw [ha, hb, decide_eq_true hN6, ej, decide_eq_true hcr]; rfl)
        exact x_iret F (pc := 53) rfl dX4_send_53 (Or.inr ⟨by rw [hc]; decide, ⟨_, rfl⟩, by rw [hc]⟩) (Nat.le_of_ble_eq_true rfl) (Nat.le_of_ble_eq_true rfl)
      · obtain ⟨m, hm1, hm2, rfl⟩ := xinB_t hb (by decide) (by decide)
        have em : ix (nI m) = m := ix_nI (by omega)
        refine x_callV B (pc := 46) (As := [.int 1, .int 1, .int 0]) (c_X4_asked__ hl D e0 (p := true) (q := true) (r := false)) xcl_M rfl 0 0 rfl rfl tm738 tm740 ts14 tm7 tm741 md_X4_asked__ ⟨Nat.le_of_ble_eq_true rfl, Nat.le_of_ble_eq_true rfl⟩ [0] rfl rfl rfl (Nat.le_of_ble_eq_true rfl) (Nat.le_of_ble_eq_true rfl) (Nat.le_of_ble_eq_true rfl) dX4_send_46 (fun E hE => False.elim hE) (fun v cs1 hp => ?_)
        obtain ⟨rfl, rfl⟩ := hp
        show G 49 [(3, .int 1), (0, .ref (am 0)), (1, .int (nI j)), (2, .int (nI m))] [.int 0] [moW am N tf tt bf bt 0 op tr tn (nI 3), mlW D am L, mdW D am S, rtW D am tg] 0 0
        refine x_if_ne B (pc := 49) 54 dX4_send_49 (by decide) (fun h49 => absurd (by decide) h49) (fun h49 => ?_)
        refine x_iconst B (pc := 52) 0 dX4_send_52 (by decide) ?_
        have hc : cod (xinB 0 3 (nI j)) (xinB 1 4 (nI m)) (decide ((0 : Int32) = 1) && (decide (N < 60) && !decide (crd L (ix (nI j)) = 0))) = 3 := by first | (rw [ha]; rfl) | (rw [ha, hb]; rfl) | (rw [ha, hb, decide_eq_false hN6]; rfl) | (rw [ha, hb, decide_eq_true hN6, ej, decide_eq_true hcr]; rfl)
        exact x_iret F (pc := 53) rfl dX4_send_53 (Or.inr ⟨by rw [hc]; decide, ⟨_, rfl⟩, by rw [hc]⟩) (Nat.le_of_ble_eq_true rfl) (Nat.le_of_ble_eq_true rfl)
    · skip
      refine x_get B (pc := 18) (v := .int 1) xcl_M 0 0 22 rfl rfl (by decide) tm652 rfl rfl dX4_send_18 ?_
      refine x_if_eq B (pc := 21) 45 dX4_send_21 (by decide) (fun h21 => absurd h21 (by decide)) (fun h21 => ?_)
      refine x_aload_n B (pc := 24) 1 dX4_send_24 rfl rfl ?_
      refine x_get B (pc := 25) (v := .int (nI N)) xcl_M 0 0 15 rfl rfl (by decide) tm645 rfl rfl dX4_send_25 ?_
      refine x_bipush B (pc := 28) 60 dX4_send_28 (by decide) ?_
      refine x_icmp_ge B (pc := 30) 45 dX4_send_30 (by decide) (fun h30 => ?_) (fun h30 => ?_)
      · skip
        have hN6 : ¬ N < 60 := fun e => nI_ge e (by decide) h30
        refine x_iconst B (pc := 45) 0 dX4_send_45 (by decide) ?_
        cases hb : xinB 1 4 b
        · skip
          refine x_callV B (pc := 46) (As := [.int 1, .int 0, .int 0]) (c_X4_asked__ hl D e0 (p := true) (q := false) (r := false)) xcl_M rfl 0 0 rfl rfl tm738 tm740 ts14 tm7 tm741 md_X4_asked__ ⟨Nat.le_of_ble_eq_true rfl, Nat.le_of_ble_eq_true rfl⟩ [0] rfl rfl rfl (Nat.le_of_ble_eq_true rfl) (Nat.le_of_ble_eq_true rfl) (Nat.le_of_ble_eq_true rfl) dX4_send_46 (fun E hE => False.elim hE) (fun v cs1 hp => ?_)
          obtain ⟨rfl, rfl⟩ := hp
          show G 49 [(3, .int 1), (0, .ref (am 0)), (1, .int (nI j)), (2, .int b)] [.int 0] [moW am N tf tt bf bt 1 op tr tn (nI 2), mlW D am L, mdW D am S, rtW D am tg] 0 0
          refine x_if_ne B (pc := 49) 54 dX4_send_49 (by decide) (fun h49 => absurd (by decide) h49) (fun h49 => ?_)
          refine x_iconst B (pc := 52) 0 dX4_send_52 (by decide) ?_
          have hc : cod (xinB 0 3 (nI j)) (xinB 1 4 b) (decide ((1 : Int32) = 1) && (decide (N < 60) && !decide (crd L (ix (nI j)) = 0))) = 2 := by first | (rw [ha]; rfl) | (rw [ha, hb]; rfl) | (rw [ha, hb, decide_eq_false hN6]; rfl) | (rw [ha, hb, decide_eq_true hN6, ej, decide_eq_true hcr]; rfl)
          exact x_iret F (pc := 53) rfl dX4_send_53 (Or.inr ⟨by rw [hc]; decide, ⟨_, rfl⟩, by rw [hc]⟩) (Nat.le_of_ble_eq_true rfl) (Nat.le_of_ble_eq_true rfl)
        · obtain ⟨m, hm1, hm2, rfl⟩ := xinB_t hb (by decide) (by decide)
          have em : ix (nI m) = m := ix_nI (by omega)
          refine x_callV B (pc := 46) (As := [.int 1, .int 1, .int 0]) (c_X4_asked__ hl D e0 (p := true) (q := true) (r := false)) xcl_M rfl 0 0 rfl rfl tm738 tm740 ts14 tm7 tm741 md_X4_asked__ ⟨Nat.le_of_ble_eq_true rfl, Nat.le_of_ble_eq_true rfl⟩ [0] rfl rfl rfl (Nat.le_of_ble_eq_true rfl) (Nat.le_of_ble_eq_true rfl) (Nat.le_of_ble_eq_true rfl) dX4_send_46 (fun E hE => False.elim hE) (fun v cs1 hp => ?_)
          obtain ⟨rfl, rfl⟩ := hp
          show G 49 [(3, .int 1), (0, .ref (am 0)), (1, .int (nI j)), (2, .int (nI m))] [.int 0] [moW am N tf tt bf bt 1 op tr tn (nI 3), mlW D am L, mdW D am S, rtW D am tg] 0 0
          refine x_if_ne B (pc := 49) 54 dX4_send_49 (by decide) (fun h49 => absurd (by decide) h49) (fun h49 => ?_)
          refine x_iconst B (pc := 52) 0 dX4_send_52 (by decide) ?_
          have hc : cod (xinB 0 3 (nI j)) (xinB 1 4 (nI m)) (decide ((1 : Int32) = 1) && (decide (N < 60) && !decide (crd L (ix (nI j)) = 0))) = 3 := by first | (rw [ha]; rfl) | (rw [ha, hb]; rfl) | (rw [ha, hb, decide_eq_false hN6]; rfl) | (rw [ha, hb, decide_eq_true hN6, ej, decide_eq_true hcr]; rfl)
          exact x_iret F (pc := 53) rfl dX4_send_53 (Or.inr ⟨by rw [hc]; decide, ⟨_, rfl⟩, by rw [hc]⟩) (Nat.le_of_ble_eq_true rfl) (Nat.le_of_ble_eq_true rfl)
      · skip
        have hN6 : N < 60 := Nat.lt_of_not_le (fun e => h30 (nI_le (a := 60) e (by omega)))
        refine x_aload_n B (pc := 33) 1 dX4_send_33 rfl rfl ?_
        refine x_iload_n B (pc := 34) 2 dX4_send_34 rfl rfl ?_
        refine x_callV B (pc := 35) (As := [.int (nI j)]) (c_X4_creditOf hl D e0 hL hj) xcl_M rfl 0 0 rfl rfl tm754 tm756 ts17 tm7 tm757 md_X4_creditOf ⟨Nat.le_of_ble_eq_true rfl, Nat.le_of_ble_eq_true rfl⟩ [0, 1] rfl rfl rfl (Nat.le_of_ble_eq_true rfl) (Nat.le_of_ble_eq_true rfl) (Nat.le_of_ble_eq_true rfl) dX4_send_35 (fun E hE => False.elim hE) (fun v cs1 hp => ?_)
        obtain ⟨rfl, rfl⟩ := hp
        show G 38 [(3, .int 1), (0, .ref (am 0)), (1, .int (nI j)), (2, .int b)] [.int (crd L j), .int (bz (xinB 1 4 b)), .int 1, .ref (am 0)] [moW am N tf tt bf bt 1 op tr tn th, mlW D am L, mdW D am S, rtW D am tg] 0 0
        refine x_if_le B (pc := 38) 45 dX4_send_38 (by decide) (fun h38 => ?_) (fun h38 => ?_)
        · skip
          have hcr : crd L j = 0 := (crd_0 hL hj).mp h38
          refine x_iconst B (pc := 45) 0 dX4_send_45 (by decide) ?_
          cases hb : xinB 1 4 b
          · skip
            refine x_callV B (pc := 46) (As := [.int 1, .int 0, .int 0]) (c_X4_asked__ hl D e0 (p := true) (q := false) (r := false)) xcl_M rfl 0 0 rfl rfl tm738 tm740 ts14 tm7 tm741 md_X4_asked__ ⟨Nat.le_of_ble_eq_true rfl, Nat.le_of_ble_eq_true rfl⟩ [0] rfl rfl rfl (Nat.le_of_ble_eq_true rfl) (Nat.le_of_ble_eq_true rfl) (Nat.le_of_ble_eq_true rfl) dX4_send_46 (fun E hE => False.elim hE) (fun v cs1 hp => ?_)
            obtain ⟨rfl, rfl⟩ := hp
            show G 49 [(3, .int 1), (0, .ref (am 0)), (1, .int (nI j)), (2, .int b)] [.int 0] [moW am N tf tt bf bt 1 op tr tn (nI 2), mlW D am L, mdW D am S, rtW D am tg] 0 0
            refine x_if_ne B (pc := 49) 54 dX4_send_49 (by decide) (fun h49 => absurd (by decide) h49) (fun h49 => ?_)
            refine x_iconst B (pc := 52) 0 dX4_send_52 (by decide) ?_
            have hc : cod (xinB 0 3 (nI j)) (xinB 1 4 b) (decide ((1 : Int32) = 1) && (decide (N < 60) && !decide (crd L (ix (nI j)) = 0))) = 2 := by first | (rw [ha]; rfl) | (rw [ha, hb]; rfl) | (rw [ha, hb, decide_eq_false hN6]; rfl) | (rw [ha, hb, decide_eq_true hN6, ej, decide_eq_true hcr]; rfl)
            exact x_iret F (pc := 53) rfl dX4_send_53 (Or.inr ⟨by rw [hc]; decide, ⟨_, rfl⟩, by rw [hc]⟩) (Nat.le_of_ble_eq_true rfl) (Nat.le_of_ble_eq_true rfl)
          · obtain ⟨m, hm1, hm2, rfl⟩ := xinB_t hb (by decide) (by decide)
            have em : ix (nI m) = m := ix_nI (by omega)
            refine x_callV B (pc := 46) (As := [.int 1, .int 1, .int 0]) (c_X4_asked__ hl D e0 (p := true) (q := true) (r := false)) xcl_M rfl 0 0 rfl rfl tm738 tm740 ts14 tm7 tm741 md_X4_asked__ ⟨Nat.le_of_ble_eq_true rfl, Nat.le_of_ble_eq_true rfl⟩ [0] rfl rfl rfl (Nat.le_of_ble_eq_true rfl) (Nat.le_of_ble_eq_true rfl) (Nat.le_of_ble_eq_true rfl) dX4_send_46 (fun E hE => False.elim hE) (fun v cs1 hp => ?_)
            obtain ⟨rfl, rfl⟩ := hp
            show G 49 [(3, .int 1), (0, .ref (am 0)), (1, .int (nI j)), (2, .int (nI m))] [.int 0] [moW am N tf tt bf bt 1 op tr tn (nI 3), mlW D am L, mdW D am S, rtW D am tg] 0 0
            refine x_if_ne B (pc := 49) 54 dX4_send_49 (by decide) (fun h49 => absurd (by decide) h49) (fun h49 => ?_)
            refine x_iconst B (pc := 52) 0 dX4_send_52 (by decide) ?_
            have hc : cod (xinB 0 3 (nI j)) (xinB 1 4 (nI m)) (decide ((1 : Int32) = 1) && (decide (N < 60) && !decide (crd L (ix (nI j)) = 0))) = 3 := by first | (rw [ha]; rfl) | (rw [ha, hb]; rfl) | (rw [ha, hb, decide_eq_false hN6]; rfl) | (rw [ha, hb, decide_eq_true hN6, ej, decide_eq_true hcr]; rfl)
            exact x_iret F (pc := 53) rfl dX4_send_53 (Or.inr ⟨by rw [hc]; decide, ⟨_, rfl⟩, by rw [hc]⟩) (Nat.le_of_ble_eq_true rfl) (Nat.le_of_ble_eq_true rfl)
        · skip
          have hcr : ¬ crd L j = 0 := fun e => h38 ((crd_0 hL hj).mpr e)
          refine x_iconst B (pc := 41) 1 dX4_send_41 (by decide) ?_
          refine x_goto B (pc := 42) 46 dX4_send_42 (by decide) ?_
          cases hb : xinB 1 4 b
          · skip
            refine x_callV B (pc := 46) (As := [.int 1, .int 0, .int 1]) (c_X4_asked__ hl D e0 (p := true) (q := false) (r := true)) xcl_M rfl 0 0 rfl rfl tm738 tm740 ts14 tm7 tm741 md_X4_asked__ ⟨Nat.le_of_ble_eq_true rfl, Nat.le_of_ble_eq_true rfl⟩ [0] rfl rfl rfl (Nat.le_of_ble_eq_true rfl) (Nat.le_of_ble_eq_true rfl) (Nat.le_of_ble_eq_true rfl) dX4_send_46 (fun E hE => False.elim hE) (fun v cs1 hp => ?_)
            obtain ⟨rfl, rfl⟩ := hp
            show G 49 [(3, .int 1), (0, .ref (am 0)), (1, .int (nI j)), (2, .int b)] [.int 0] [moW am N tf tt bf bt 1 op tr tn (nI 2), mlW D am L, mdW D am S, rtW D am tg] 0 0
            refine x_if_ne B (pc := 49) 54 dX4_send_49 (by decide) (fun h49 => absurd (by decide) h49) (fun h49 => ?_)
            refine x_iconst B (pc := 52) 0 dX4_send_52 (by decide) ?_
            have hc : cod (xinB 0 3 (nI j)) (xinB 1 4 b) (decide ((1 : Int32) = 1) && (decide (N < 60) && !decide (crd L (ix (nI j)) = 0))) = 2 := by first | (rw [ha]; rfl) | (rw [ha, hb]; rfl) | (rw [ha, hb, decide_eq_false hN6]; rfl) | (rw [ha, hb, decide_eq_true hN6, ej, decide_eq_true hcr]; rfl)
            exact x_iret F (pc := 53) rfl dX4_send_53 (Or.inr ⟨by rw [hc]; decide, ⟨_, rfl⟩, by rw [hc]⟩) (Nat.le_of_ble_eq_true rfl) (Nat.le_of_ble_eq_true rfl)
          · obtain ⟨m, hm1, hm2, rfl⟩ := xinB_t hb (by decide) (by decide)
            have em : ix (nI m) = m := ix_nI (by omega)
            refine x_callV B (pc := 46) (As := [.int 1, .int 1, .int 1]) (c_X4_asked__ hl D e0 (p := true) (q := true) (r := true)) xcl_M rfl 0 0 rfl rfl tm738 tm740 ts14 tm7 tm741 md_X4_asked__ ⟨Nat.le_of_ble_eq_true rfl, Nat.le_of_ble_eq_true rfl⟩ [0] rfl rfl rfl (Nat.le_of_ble_eq_true rfl) (Nat.le_of_ble_eq_true rfl) (Nat.le_of_ble_eq_true rfl) dX4_send_46 (fun E hE => False.elim hE) (fun v cs1 hp => ?_)
            obtain ⟨rfl, rfl⟩ := hp
            show G 49 [(3, .int 1), (0, .ref (am 0)), (1, .int (nI j)), (2, .int (nI m))] [.int 1] [moW am N tf tt bf bt 1 op tr tn 0, mlW D am L, mdW D am S, rtW D am tg] 0 0
            refine x_if_ne B (pc := 49) 54 dX4_send_49 (by decide) (fun h49 => ?_) (fun h49 => absurd h49 (by decide))
            refine x_aload_n B (pc := 54) 1 dX4_send_54 rfl rfl ?_
            refine x_get B (pc := 55) (v := .int (nI N)) xcl_M 0 0 15 rfl rfl (by decide) tm645 rfl rfl dX4_send_55 ?_
            refine x_istore B (pc := 58) [(4, .int (nI N)), (3, .int 1), (0, .ref (am 0)), (1, .int (nI j)), (2, .int (nI m))] dX4_send_58 (by decide) rfl ?_
            refine x_aload_n B (pc := 60) 2 dX4_send_60 rfl rfl ?_
            refine x_get B (pc := 61) xcl_M 0 0 4 rfl rfl (by decide) tm634 rfl rfl dX4_send_61 ?_
            refine x_iload B (pc := 64) 0 dX4_send_64 rfl ?_
            refine x_iload_n B (pc := 66) 3 dX4_send_66 rfl rfl ?_
            refine x_iastN B (pc := 67) N 2 0 [moW am N tf tt bf bt 1 op tr tn 0, mlW D am L, mdW D am (xup S 4 N (nI j)), rtW D am tg] hN6 (by decide) rfl rfl md_set4 rfl dX4_send_67 ?_
            refine x_aload_n B (pc := 68) 2 dX4_send_68 rfl rfl ?_
            refine x_get B (pc := 69) xcl_M 0 0 5 rfl rfl (by decide) tm635 rfl rfl dX4_send_69 ?_
            refine x_iload B (pc := 72) 0 dX4_send_72 rfl ?_
            refine x_aload_n B (pc := 74) 2 dX4_send_74 rfl rfl ?_
            refine x_get B (pc := 75) xcl_M 0 0 0 rfl rfl (by decide) tm630 rfl rfl dX4_send_75 ?_
            refine x_iload_n B (pc := 78) 3 dX4_send_78 rfl rfl ?_
            refine x_ialdN B (pc := 79) j 1 0 hj (by decide) rfl rfl dX4_send_79 ?_
            refine x_iastN B (pc := 80) N 2 1 [moW am N tf tt bf bt 1 op tr tn 0, mlW D am L, mdW D am (xup (xup S 4 N (nI j)) 5 N (L 0 j)), rtW D am tg] hN6 (by decide) rfl rfl md_set5 rfl dX4_send_80 ?_
            refine x_aload_n B (pc := 81) 2 dX4_send_81 rfl rfl ?_
            refine x_get B (pc := 82) xcl_M 0 0 6 rfl rfl (by decide) tm636 rfl rfl dX4_send_82 ?_
            refine x_iload B (pc := 85) 0 dX4_send_85 rfl ?_
            refine x_iload_n B (pc := 87) 4 dX4_send_87 rfl rfl ?_
            refine x_iastN B (pc := 88) N 2 2 [moW am N tf tt bf bt 1 op tr tn 0, mlW D am L, mdW D am (xup (xup (xup S 4 N (nI j)) 5 N (L 0 j)) 6 N (nI m)), rtW D am tg] hN6 (by decide) rfl rfl md_set6 rfl dX4_send_88 ?_
            refine x_aload_n B (pc := 89) 2 dX4_send_89 rfl rfl ?_
            refine x_get B (pc := 90) xcl_M 0 0 7 rfl rfl (by decide) tm637 rfl rfl dX4_send_90 ?_
            refine x_iload B (pc := 93) 0 dX4_send_93 rfl ?_
            refine x_aload_n B (pc := 95) 2 dX4_send_95 rfl rfl ?_
            refine x_get B (pc := 96) xcl_M 0 0 0 rfl rfl (by decide) tm630 rfl rfl dX4_send_96 ?_
            refine x_iload_n B (pc := 99) 3 dX4_send_99 rfl rfl ?_
            refine x_ialdN B (pc := 100) j 1 0 hj (by decide) rfl rfl dX4_send_100 ?_
            refine x_if_ne B (pc := 101) 108 dX4_send_101 (by decide) (fun h101 => ?_) (fun h101 => ?_)
            · skip
              refine x_iconst B (pc := 108) 0 dX4_send_108 (by decide) ?_
              refine x_iastN B (pc := 109) N 2 3 [moW am N tf tt bf bt 1 op tr tn 0, mlW D am L, mdW D am (xup (xup (xup (xup S 4 N (nI j)) 5 N (L 0 j)) 6 N (nI m)) 7 N 0), rtW D am tg] hN6 (by decide) rfl rfl md_set7 rfl dX4_send_109 ?_
              refine x_aload_n B (pc := 110) 2 dX4_send_110 rfl rfl ?_
              refine x_get B (pc := 111) xcl_M 0 0 8 rfl rfl (by decide) tm638 rfl rfl dX4_send_111 ?_
              refine x_iload B (pc := 114) 0 dX4_send_114 rfl ?_
              refine x_iconst B (pc := 116) (-1) dX4_send_116 (by decide) ?_
              refine x_iastN B (pc := 117) N 2 4 [moW am N tf tt bf bt 1 op tr tn 0, mlW D am L, mdW D am (xup (xup (xup (xup (xup S 4 N (nI j)) 5 N (L 0 j)) 6 N (nI m)) 7 N 0) 8 N (-1)), rtW D am tg] hN6 (by decide) rfl rfl md_set8 rfl dX4_send_117 ?_
              refine x_aload_n B (pc := 118) 2 dX4_send_118 rfl rfl ?_
              refine x_get B (pc := 119) xcl_M 0 0 14 rfl rfl (by decide) tm644 rfl rfl dX4_send_119 ?_
              refine x_iload B (pc := 122) 0 dX4_send_122 rfl ?_
              refine x_iconst B (pc := 124) (-1) dX4_send_124 (by decide) ?_
              refine x_iastN B (pc := 125) N 2 10 [moW am N tf tt bf bt 1 op tr tn 0, mlW D am L, mdW D am (xup (xup (xup (xup (xup (xup S 4 N (nI j)) 5 N (L 0 j)) 6 N (nI m)) 7 N 0) 8 N (-1)) 14 N (-1)), rtW D am tg] hN6 (by decide) rfl rfl md_set14 rfl dX4_send_125 ?_
              refine x_aload_n B (pc := 126) 2 dX4_send_126 rfl rfl ?_
              refine x_dup B (pc := 127) dX4_send_127 rfl ?_
              refine x_get B (pc := 128) (v := .int (nI N)) xcl_M 0 0 15 rfl rfl (by decide) tm645 rfl rfl dX4_send_128 ?_
              refine x_iconst B (pc := 131) 1 dX4_send_131 (by decide) ?_
              refine x_iadd B (pc := 132) dX4_send_132 ?_
              refine x_val B (y := nI (N + 1)) (nI_1 N) ?_
              refine x_put B (pc := 133) xcl_M 0 0 15 [moW am (N + 1) tf tt bf bt 1 op tr tn 0, mlW D am L, mdW D am (xup (xup (xup (xup (xup (xup S 4 N (nI j)) 5 N (L 0 j)) 6 N (nI m)) 7 N 0) 8 N (-1)) 14 N (-1)), rtW D am tg] rfl rfl (by decide) tm645 rfl rfl rfl rfl rfl (Nat.le_of_ble_eq_true rfl) rfl rfl dX4_send_133 ?_
              obtain ⟨v, hv, ev⟩ := hL 1 j (by decide) (by decide) hj
              refine x_aload_n B (pc := 136) 2 dX4_send_136 rfl rfl ?_
              refine x_get B (pc := 137) xcl_M 0 0 1 rfl rfl (by decide) tm631 rfl rfl dX4_send_137 ?_
              refine x_iload_n B (pc := 140) 3 dX4_send_140 rfl rfl ?_
              refine x_aload_n B (pc := 141) 2 dX4_send_141 rfl rfl ?_
              refine x_get B (pc := 142) xcl_M 0 0 1 rfl rfl (by decide) tm631 rfl rfl dX4_send_142 ?_
              refine x_iload_n B (pc := 145) 3 dX4_send_145 rfl rfl ?_
              refine x_ialdN B (pc := 146) j 1 1 hj (by decide) rfl rfl dX4_send_146 ?_
              refine x_iconst B (pc := 147) 1 dX4_send_147 (by decide) ?_
              refine x_iadd B (pc := 148) dX4_send_148 ?_
              refine x_bipush B (pc := 149) 16 dX4_send_149 (by decide) ?_
              refine x_irem B (pc := 151) dX4_send_151 (by decide) ?_
              refine x_val B (y := (L 1 j + 1) &&& 15) (by rw [ev]; exact inc_m hv) ?_
              refine x_iastN B (pc := 152) j 1 1 [moW am (N + 1) tf tt bf bt 1 op tr tn 0, mlW D am (xup L 1 j ((L 1 j + 1) &&& 15)), mdW D am (xup (xup (xup (xup (xup (xup S 4 N (nI j)) 5 N (L 0 j)) 6 N (nI m)) 7 N 0) 8 N (-1)) 14 N (-1)), rtW D am tg] hj (by decide) rfl rfl ml_set1 rfl dX4_send_152 ?_
              refine x_aload_n B (pc := 153) 2 dX4_send_153 rfl rfl ?_
              refine x_iload B (pc := 154) 0 dX4_send_154 rfl ?_
              refine x_iconst B (pc := 156) 0 dX4_send_156 (by decide) ?_
              refine x_callV B (pc := 157) (As := [.int (nI N), .int 0]) (c_X4_sends hl D e0 (S := xup (xup (xup (xup (xup (xup S 4 N (nI j)) 5 N (L 0 j)) 6 N (nI m)) 7 N 0) 8 N (-1)) 14 N (-1)) (kd := 0) (d := N) (m := m) hN6 (by decide) (xup_same (xup (xup S 4 N (nI j)) 5 N (L 0 j)) 6 N (nI m)) hm2 hq (by omega) (by omega)) xcl_M rfl 0 0 rfl rfl tm762 tm764 ts18 tm7 tm765 md_X4_sends ⟨Nat.le_of_ble_eq_true rfl, Nat.le_of_ble_eq_true rfl⟩ [0, 2, 3] rfl rfl rfl (Nat.le_of_ble_eq_true rfl) (Nat.le_of_ble_eq_true rfl) (Nat.le_of_ble_eq_true rfl) dX4_send_157 (fun E hE => False.elim hE) (fun v cs1 hp => ?_)
              obtain ⟨rfl, tg1, hg1, rfl⟩ := hp
              show G 160 [(4, .int (nI N)), (3, .int 1), (0, .ref (am 0)), (1, .int (nI j)), (2, .int (nI m))] [] [moW am (N + 1) tf (tt + m) bf bt 1 op tr tn 0, mlW D am (xup L 1 j ((L 1 j + 1) &&& 15)), mdW D am (xup (xup (xup (xup (xup (xup S 4 N (nI j)) 5 N (L 0 j)) 6 N (nI m)) 7 N 0) 8 N (-1)) 14 N (-1)), rtW D am tg1] 0 0
              refine x_iload B (pc := 160) 0 dX4_send_160 rfl ?_
              exact x_iret F (pc := 162) rfl dX4_send_162 (Or.inl ⟨by rw [ha, hb, decide_eq_true hN6, ej, decide_eq_false hcr]; rfl, rfl, tg1, by rw [em]; exact hg1, by unfold sendS; rw [em, ej]; first | rw [if_pos h101] | rw [if_neg h101]⟩) (Nat.le_of_ble_eq_true rfl) (Nat.le_of_ble_eq_true rfl)
            · skip
              refine x_iconst B (pc := 104) 1 dX4_send_104 (by decide) ?_
              refine x_goto B (pc := 105) 109 dX4_send_105 (by decide) ?_
              refine x_iastN B (pc := 109) N 2 3 [moW am N tf tt bf bt 1 op tr tn 0, mlW D am L, mdW D am (xup (xup (xup (xup S 4 N (nI j)) 5 N (L 0 j)) 6 N (nI m)) 7 N 1), rtW D am tg] hN6 (by decide) rfl rfl md_set7 rfl dX4_send_109 ?_
              refine x_aload_n B (pc := 110) 2 dX4_send_110 rfl rfl ?_
              refine x_get B (pc := 111) xcl_M 0 0 8 rfl rfl (by decide) tm638 rfl rfl dX4_send_111 ?_
              refine x_iload B (pc := 114) 0 dX4_send_114 rfl ?_
              refine x_iconst B (pc := 116) (-1) dX4_send_116 (by decide) ?_
              refine x_iastN B (pc := 117) N 2 4 [moW am N tf tt bf bt 1 op tr tn 0, mlW D am L, mdW D am (xup (xup (xup (xup (xup S 4 N (nI j)) 5 N (L 0 j)) 6 N (nI m)) 7 N 1) 8 N (-1)), rtW D am tg] hN6 (by decide) rfl rfl md_set8 rfl dX4_send_117 ?_
              refine x_aload_n B (pc := 118) 2 dX4_send_118 rfl rfl ?_
              refine x_get B (pc := 119) xcl_M 0 0 14 rfl rfl (by decide) tm644 rfl rfl dX4_send_119 ?_
              refine x_iload B (pc := 122) 0 dX4_send_122 rfl ?_
              refine x_iconst B (pc := 124) (-1) dX4_send_124 (by decide) ?_
              refine x_iastN B (pc := 125) N 2 10 [moW am N tf tt bf bt 1 op tr tn 0, mlW D am L, mdW D am (xup (xup (xup (xup (xup (xup S 4 N (nI j)) 5 N (L 0 j)) 6 N (nI m)) 7 N 1) 8 N (-1)) 14 N (-1)), rtW D am tg] hN6 (by decide) rfl rfl md_set14 rfl dX4_send_125 ?_
              refine x_aload_n B (pc := 126) 2 dX4_send_126 rfl rfl ?_
              refine x_dup B (pc := 127) dX4_send_127 rfl ?_
              refine x_get B (pc := 128) (v := .int (nI N)) xcl_M 0 0 15 rfl rfl (by decide) tm645 rfl rfl dX4_send_128 ?_
              refine x_iconst B (pc := 131) 1 dX4_send_131 (by decide) ?_
              refine x_iadd B (pc := 132) dX4_send_132 ?_
              refine x_val B (y := nI (N + 1)) (nI_1 N) ?_
              refine x_put B (pc := 133) xcl_M 0 0 15 [moW am (N + 1) tf tt bf bt 1 op tr tn 0, mlW D am L, mdW D am (xup (xup (xup (xup (xup (xup S 4 N (nI j)) 5 N (L 0 j)) 6 N (nI m)) 7 N 1) 8 N (-1)) 14 N (-1)), rtW D am tg] rfl rfl (by decide) tm645 rfl rfl rfl rfl rfl (Nat.le_of_ble_eq_true rfl) rfl rfl dX4_send_133 ?_
              obtain ⟨v, hv, ev⟩ := hL 1 j (by decide) (by decide) hj
              refine x_aload_n B (pc := 136) 2 dX4_send_136 rfl rfl ?_
              refine x_get B (pc := 137) xcl_M 0 0 1 rfl rfl (by decide) tm631 rfl rfl dX4_send_137 ?_
              refine x_iload_n B (pc := 140) 3 dX4_send_140 rfl rfl ?_
              refine x_aload_n B (pc := 141) 2 dX4_send_141 rfl rfl ?_
              refine x_get B (pc := 142) xcl_M 0 0 1 rfl rfl (by decide) tm631 rfl rfl dX4_send_142 ?_
              refine x_iload_n B (pc := 145) 3 dX4_send_145 rfl rfl ?_
              refine x_ialdN B (pc := 146) j 1 1 hj (by decide) rfl rfl dX4_send_146 ?_
              refine x_iconst B (pc := 147) 1 dX4_send_147 (by decide) ?_
              refine x_iadd B (pc := 148) dX4_send_148 ?_
              refine x_bipush B (pc := 149) 16 dX4_send_149 (by decide) ?_
              refine x_irem B (pc := 151) dX4_send_151 (by decide) ?_
              refine x_val B (y := (L 1 j + 1) &&& 15) (by rw [ev]; exact inc_m hv) ?_
              refine x_iastN B (pc := 152) j 1 1 [moW am (N + 1) tf tt bf bt 1 op tr tn 0, mlW D am (xup L 1 j ((L 1 j + 1) &&& 15)), mdW D am (xup (xup (xup (xup (xup (xup S 4 N (nI j)) 5 N (L 0 j)) 6 N (nI m)) 7 N 1) 8 N (-1)) 14 N (-1)), rtW D am tg] hj (by decide) rfl rfl ml_set1 rfl dX4_send_152 ?_
              refine x_aload_n B (pc := 153) 2 dX4_send_153 rfl rfl ?_
              refine x_iload B (pc := 154) 0 dX4_send_154 rfl ?_
              refine x_iconst B (pc := 156) 0 dX4_send_156 (by decide) ?_
              refine x_callV B (pc := 157) (As := [.int (nI N), .int 0]) (c_X4_sends hl D e0 (S := xup (xup (xup (xup (xup (xup S 4 N (nI j)) 5 N (L 0 j)) 6 N (nI m)) 7 N 1) 8 N (-1)) 14 N (-1)) (kd := 0) (d := N) (m := m) hN6 (by decide) (xup_same (xup (xup S 4 N (nI j)) 5 N (L 0 j)) 6 N (nI m)) hm2 hq (by omega) (by omega)) xcl_M rfl 0 0 rfl rfl tm762 tm764 ts18 tm7 tm765 md_X4_sends ⟨Nat.le_of_ble_eq_true rfl, Nat.le_of_ble_eq_true rfl⟩ [0, 2, 3] rfl rfl rfl (Nat.le_of_ble_eq_true rfl) (Nat.le_of_ble_eq_true rfl) (Nat.le_of_ble_eq_true rfl) dX4_send_157 (fun E hE => False.elim hE) (fun v cs1 hp => ?_)
              obtain ⟨rfl, tg1, hg1, rfl⟩ := hp
              show G 160 [(4, .int (nI N)), (3, .int 1), (0, .ref (am 0)), (1, .int (nI j)), (2, .int (nI m))] [] [moW am (N + 1) tf (tt + m) bf bt 1 op tr tn 0, mlW D am (xup L 1 j ((L 1 j + 1) &&& 15)), mdW D am (xup (xup (xup (xup (xup (xup S 4 N (nI j)) 5 N (L 0 j)) 6 N (nI m)) 7 N 1) 8 N (-1)) 14 N (-1)), rtW D am tg1] 0 0
              refine x_iload B (pc := 160) 0 dX4_send_160 rfl ?_
              exact x_iret F (pc := 162) rfl dX4_send_162 (Or.inl ⟨by rw [ha, hb, decide_eq_true hN6, ej, decide_eq_false hcr]; rfl, rfl, tg1, by rw [em]; exact hg1, by unfold sendS; rw [em, ej]; first | rw [if_pos h101] | rw [if_neg h101]⟩) (Nat.le_of_ble_eq_true rfl) (Nat.le_of_ble_eq_true rfl)

set_option maxRecDepth 100000 in
set_option maxHeartbeats 4000000 in
theorem c_X4_decides {l : Launch} (hl : l.stackTraces = false) (D : va_G) (e0 : Nat) {am : Nat → Nat} {N tf tt bf bt : Nat} {up op tr : Int32} {tn : Nat} {th : Int32} {S : xS} {bg : Nat → Int32} {qb : List xFr} {d o : Nat} (hd : d < 60) (ho : o < 3) (hb9 : mgOk encB qb bf bt bg) (hlb : qb.length < 2048) (htt : bt < 2 ^ 30) : xC l yX4_decides (.code yX4_decides cX4_decides 3 none) ({ frames := 1, cells := 0, slots := 0, locals := 21 } : Room) D e0 [.ref (am 0), .int (nI d), .int (nI o)] [moW am N tf tt bf bt up op tr tn th, mdW D am S, rbW D am bg] (fun w cs => w = none ∧ ∃ bt1 bg1, bt1 ≤ bt + 1 ∧ mgOk encB (aOut S d o qb) bf bt1 bg1 ∧ cs = [moW am N tf tt bf bt1 up op tr tn th, mdW D am (aDec S d (nI o)), rbW D am bg1]) (fun _ => False) := by
  refine xC_of hl (by decide +kernel) (Nat.le_of_ble_eq_true rfl) (fun G X F => ?_)
  have B : xB l D e0 "CreditLinksModel" cX4_decides 3 none [] _ G X := F.base
  show G 0 [(0, .ref (am 0)), (1, .int (nI d)), (2, .int (nI o))] [] [moW am N tf tt bf bt up op tr tn th, mdW D am S, rbW D am bg] 0 0
  refine x_aload_n B (pc := 0) 0 dX4_decides_0 rfl rfl ?_
  refine x_get B (pc := 1) xcl_M 0 0 13 rfl rfl (by decide) tm643 rfl rfl dX4_decides_1 ?_
  refine x_iload_n B (pc := 4) 1 dX4_decides_4 rfl rfl ?_
  refine x_dup2 B (pc := 5) dX4_decides_5 rfl rfl ?_
  refine x_ialdN B (pc := 6) d 1 9 hd (by decide) rfl rfl dX4_decides_6 ?_
  refine x_iload_n B (pc := 7) 2 dX4_decides_7 rfl rfl ?_
  refine x_if_ne B (pc := 8) 15 dX4_decides_8 (by decide) (fun h8 => ?_) (fun h8 => ?_)
  · skip
    refine x_iconst B (pc := 15) 0 dX4_decides_15 (by decide) ?_
    refine x_iadd B (pc := 16) dX4_decides_16 ?_
    refine x_iastN B (pc := 17) d 1 9 [moW am N tf tt bf bt up op tr tn th, mdW D am (xup S 13 d ((S 13 d) + 0)), rbW D am bg] hd (by decide) rfl rfl md_set13 rfl dX4_decides_17 ?_
    refine x_aload_n B (pc := 18) 0 dX4_decides_18 rfl rfl ?_
    refine x_get B (pc := 19) xcl_M 0 0 12 rfl rfl (by decide) tm642 rfl rfl dX4_decides_19 ?_
    refine x_iload_n B (pc := 22) 1 dX4_decides_22 rfl rfl ?_
    refine x_iload_n B (pc := 23) 2 dX4_decides_23 rfl rfl ?_
    refine x_iastN B (pc := 24) d 1 8 [moW am N tf tt bf bt up op tr tn th, mdW D am (xup (xup S 13 d ((S 13 d) + 0)) 12 d (nI o)), rbW D am bg] hd (by decide) rfl rfl md_set12 rfl dX4_decides_24 ?_
    refine x_aload_n B (pc := 25) 0 dX4_decides_25 rfl rfl ?_
    refine x_get B (pc := 26) xcl_M 0 0 9 rfl rfl (by decide) tm639 rfl rfl dX4_decides_26 ?_
    refine x_iload_n B (pc := 29) 1 dX4_decides_29 rfl rfl ?_
    refine x_aload_n B (pc := 30) 0 dX4_decides_30 rfl rfl ?_
    refine x_get B (pc := 31) xcl_M 0 0 5 rfl rfl (by decide) tm635 rfl rfl dX4_decides_31 ?_
    refine x_iload_n B (pc := 34) 1 dX4_decides_34 rfl rfl ?_
    refine x_ialdN B (pc := 35) d 1 1 hd (by decide) rfl rfl dX4_decides_35 ?_
    refine x_val B (y := S 5 d) rfl ?_
    refine x_iconst B (pc := 36) 2 dX4_decides_36 (by decide) ?_
    refine x_icmp_ne B (pc := 37) 44 dX4_decides_37 (by decide) (fun h37 => ?_) (fun h37 => ?_)
    · skip
      refine x_iconst B (pc := 44) 4 dX4_decides_44 (by decide) ?_
      refine x_iastN B (pc := 45) d 1 5 [moW am N tf tt bf bt up op tr tn th, mdW D am (xup (xup (xup S 13 d ((S 13 d) + 0)) 12 d (nI o)) 9 d 4), rbW D am bg] hd (by decide) rfl rfl md_set9 rfl dX4_decides_45 ?_
      refine x_aload_n B (pc := 46) 0 dX4_decides_46 rfl rfl ?_
      refine x_get B (pc := 47) xcl_M 0 0 5 rfl rfl (by decide) tm635 rfl rfl dX4_decides_47 ?_
      refine x_iload_n B (pc := 50) 1 dX4_decides_50 rfl rfl ?_
      refine x_ialdN B (pc := 51) d 1 1 hd (by decide) rfl rfl dX4_decides_51 ?_
      refine x_val B (y := S 5 d) rfl ?_
      refine x_if_eq B (pc := 52) 64 dX4_decides_52 (by decide) (fun h52 => ?_) (fun h52 => ?_)
      · skip
        exact x_vret F (pc := 64) rfl dX4_decides_64 (⟨rfl, bt, bg, Nat.le_succ _, by unfold aOut; rw [if_pos h52]; exact hb9, by unfold aDec; first | (rw [if_pos h8, if_pos h37]; done) | (rw [if_pos h8, if_neg h37]; done) | (rw [if_neg h8, if_pos h37, Int32.add_zero]; done) | (rw [if_neg h8, if_neg h37, Int32.add_zero]; done)⟩) (Nat.le_of_ble_eq_true rfl) (Nat.le_of_ble_eq_true rfl)
      · skip
        refine x_aload_n B (pc := 55) 0 dX4_decides_55 rfl rfl ?_
        refine x_iconst B (pc := 56) 4 dX4_decides_56 (by decide) ?_
        refine x_iload_n B (pc := 57) 1 dX4_decides_57 rfl rfl ?_
        refine x_imul B (pc := 58) dX4_decides_58 ?_
        refine x_iload_n B (pc := 59) 2 dX4_decides_59 rfl rfl ?_
        refine x_iadd B (pc := 60) dX4_decides_60 ?_
        refine x_callV B (pc := 61) (As := [.int ((4 * (nI d)) + (nI o))]) (c_X4_returns hl D e0 htt) xcl_M rfl 0 0 rfl rfl tm742 tm744 ts15 tm7 tm745 md_X4_returns ⟨Nat.le_of_ble_eq_true rfl, Nat.le_of_ble_eq_true rfl⟩ [0, 2] rfl rfl rfl (Nat.le_of_ble_eq_true rfl) (Nat.le_of_ble_eq_true rfl) (Nat.le_of_ble_eq_true rfl) dX4_decides_61 (fun E hE => False.elim hE) (fun v cs1 hp => ?_)
        obtain ⟨rfl, rfl⟩ := hp
        show G 64 [(0, .ref (am 0)), (1, .int (nI d)), (2, .int (nI o))] [] [moW am N tf tt bf (bt + 1) up op tr tn th, mdW D am (xup (xup (xup S 13 d ((S 13 d) + 0)) 12 d (nI o)) 9 d 4), rbW D am (upd bg (bt % 2048) ((4 * (nI d)) + (nI o)))] 0 0
        exact x_vret F (pc := 64) rfl dX4_decides_64 (⟨rfl, _, _, Nat.le_refl _, by unfold aOut; rw [if_neg h52]; exact mg_add hb9 hlb out_e, by unfold aDec; first | (rw [if_pos h8, if_pos h37]; done) | (rw [if_pos h8, if_neg h37]; done) | (rw [if_neg h8, if_pos h37, Int32.add_zero]; done) | (rw [if_neg h8, if_neg h37, Int32.add_zero]; done)⟩) (Nat.le_of_ble_eq_true rfl) (Nat.le_of_ble_eq_true rfl)
    · skip
      refine x_iconst B (pc := 40) 3 dX4_decides_40 (by decide) ?_
      refine x_goto B (pc := 41) 45 dX4_decides_41 (by decide) ?_
      refine x_iastN B (pc := 45) d 1 5 [moW am N tf tt bf bt up op tr tn th, mdW D am (xup (xup (xup S 13 d ((S 13 d) + 0)) 12 d (nI o)) 9 d 3), rbW D am bg] hd (by decide) rfl rfl md_set9 rfl dX4_decides_45 ?_
      refine x_aload_n B (pc := 46) 0 dX4_decides_46 rfl rfl ?_
      refine x_get B (pc := 47) xcl_M 0 0 5 rfl rfl (by decide) tm635 rfl rfl dX4_decides_47 ?_
      refine x_iload_n B (pc := 50) 1 dX4_decides_50 rfl rfl ?_
      refine x_ialdN B (pc := 51) d 1 1 hd (by decide) rfl rfl dX4_decides_51 ?_
      refine x_val B (y := S 5 d) rfl ?_
      refine x_if_eq B (pc := 52) 64 dX4_decides_52 (by decide) (fun h52 => ?_) (fun h52 => ?_)
      · skip
        exact x_vret F (pc := 64) rfl dX4_decides_64 (⟨rfl, bt, bg, Nat.le_succ _, by unfold aOut; rw [if_pos h52]; exact hb9, by unfold aDec; first | (rw [if_pos h8, if_pos h37]; done) | (rw [if_pos h8, if_neg h37]; done) | (rw [if_neg h8, if_pos h37, Int32.add_zero]; done) | (rw [if_neg h8, if_neg h37, Int32.add_zero]; done)⟩) (Nat.le_of_ble_eq_true rfl) (Nat.le_of_ble_eq_true rfl)
      · skip
        refine x_aload_n B (pc := 55) 0 dX4_decides_55 rfl rfl ?_
        refine x_iconst B (pc := 56) 4 dX4_decides_56 (by decide) ?_
        refine x_iload_n B (pc := 57) 1 dX4_decides_57 rfl rfl ?_
        refine x_imul B (pc := 58) dX4_decides_58 ?_
        refine x_iload_n B (pc := 59) 2 dX4_decides_59 rfl rfl ?_
        refine x_iadd B (pc := 60) dX4_decides_60 ?_
        refine x_callV B (pc := 61) (As := [.int ((4 * (nI d)) + (nI o))]) (c_X4_returns hl D e0 htt) xcl_M rfl 0 0 rfl rfl tm742 tm744 ts15 tm7 tm745 md_X4_returns ⟨Nat.le_of_ble_eq_true rfl, Nat.le_of_ble_eq_true rfl⟩ [0, 2] rfl rfl rfl (Nat.le_of_ble_eq_true rfl) (Nat.le_of_ble_eq_true rfl) (Nat.le_of_ble_eq_true rfl) dX4_decides_61 (fun E hE => False.elim hE) (fun v cs1 hp => ?_)
        obtain ⟨rfl, rfl⟩ := hp
        show G 64 [(0, .ref (am 0)), (1, .int (nI d)), (2, .int (nI o))] [] [moW am N tf tt bf (bt + 1) up op tr tn th, mdW D am (xup (xup (xup S 13 d ((S 13 d) + 0)) 12 d (nI o)) 9 d 3), rbW D am (upd bg (bt % 2048) ((4 * (nI d)) + (nI o)))] 0 0
        exact x_vret F (pc := 64) rfl dX4_decides_64 (⟨rfl, _, _, Nat.le_refl _, by unfold aOut; rw [if_neg h52]; exact mg_add hb9 hlb out_e, by unfold aDec; first | (rw [if_pos h8, if_pos h37]; done) | (rw [if_pos h8, if_neg h37]; done) | (rw [if_neg h8, if_pos h37, Int32.add_zero]; done) | (rw [if_neg h8, if_neg h37, Int32.add_zero]; done)⟩) (Nat.le_of_ble_eq_true rfl) (Nat.le_of_ble_eq_true rfl)
  · skip
    refine x_iconst B (pc := 11) 1 dX4_decides_11 (by decide) ?_
    refine x_goto B (pc := 12) 16 dX4_decides_12 (by decide) ?_
    refine x_iadd B (pc := 16) dX4_decides_16 ?_
    refine x_iastN B (pc := 17) d 1 9 [moW am N tf tt bf bt up op tr tn th, mdW D am (xup S 13 d ((S 13 d) + 1)), rbW D am bg] hd (by decide) rfl rfl md_set13 rfl dX4_decides_17 ?_
    refine x_aload_n B (pc := 18) 0 dX4_decides_18 rfl rfl ?_
    refine x_get B (pc := 19) xcl_M 0 0 12 rfl rfl (by decide) tm642 rfl rfl dX4_decides_19 ?_
    refine x_iload_n B (pc := 22) 1 dX4_decides_22 rfl rfl ?_
    refine x_iload_n B (pc := 23) 2 dX4_decides_23 rfl rfl ?_
    refine x_iastN B (pc := 24) d 1 8 [moW am N tf tt bf bt up op tr tn th, mdW D am (xup (xup S 13 d ((S 13 d) + 1)) 12 d (nI o)), rbW D am bg] hd (by decide) rfl rfl md_set12 rfl dX4_decides_24 ?_
    refine x_aload_n B (pc := 25) 0 dX4_decides_25 rfl rfl ?_
    refine x_get B (pc := 26) xcl_M 0 0 9 rfl rfl (by decide) tm639 rfl rfl dX4_decides_26 ?_
    refine x_iload_n B (pc := 29) 1 dX4_decides_29 rfl rfl ?_
    refine x_aload_n B (pc := 30) 0 dX4_decides_30 rfl rfl ?_
    refine x_get B (pc := 31) xcl_M 0 0 5 rfl rfl (by decide) tm635 rfl rfl dX4_decides_31 ?_
    refine x_iload_n B (pc := 34) 1 dX4_decides_34 rfl rfl ?_
    refine x_ialdN B (pc := 35) d 1 1 hd (by decide) rfl rfl dX4_decides_35 ?_
    refine x_val B (y := S 5 d) rfl ?_
    refine x_iconst B (pc := 36) 2 dX4_decides_36 (by decide) ?_
    refine x_icmp_ne B (pc := 37) 44 dX4_decides_37 (by decide) (fun h37 => ?_) (fun h37 => ?_)
    · skip
      refine x_iconst B (pc := 44) 4 dX4_decides_44 (by decide) ?_
      refine x_iastN B (pc := 45) d 1 5 [moW am N tf tt bf bt up op tr tn th, mdW D am (xup (xup (xup S 13 d ((S 13 d) + 1)) 12 d (nI o)) 9 d 4), rbW D am bg] hd (by decide) rfl rfl md_set9 rfl dX4_decides_45 ?_
      refine x_aload_n B (pc := 46) 0 dX4_decides_46 rfl rfl ?_
      refine x_get B (pc := 47) xcl_M 0 0 5 rfl rfl (by decide) tm635 rfl rfl dX4_decides_47 ?_
      refine x_iload_n B (pc := 50) 1 dX4_decides_50 rfl rfl ?_
      refine x_ialdN B (pc := 51) d 1 1 hd (by decide) rfl rfl dX4_decides_51 ?_
      refine x_val B (y := S 5 d) rfl ?_
      refine x_if_eq B (pc := 52) 64 dX4_decides_52 (by decide) (fun h52 => ?_) (fun h52 => ?_)
      · skip
        exact x_vret F (pc := 64) rfl dX4_decides_64 (⟨rfl, bt, bg, Nat.le_succ _, by unfold aOut; rw [if_pos h52]; exact hb9, by unfold aDec; first | (rw [if_pos h8, if_pos h37]; done) | (rw [if_pos h8, if_neg h37]; done) | (rw [if_neg h8, if_pos h37, Int32.add_zero]; done) | (rw [if_neg h8, if_neg h37, Int32.add_zero]; done)⟩) (Nat.le_of_ble_eq_true rfl) (Nat.le_of_ble_eq_true rfl)
      · skip
        refine x_aload_n B (pc := 55) 0 dX4_decides_55 rfl rfl ?_
        refine x_iconst B (pc := 56) 4 dX4_decides_56 (by decide) ?_
        refine x_iload_n B (pc := 57) 1 dX4_decides_57 rfl rfl ?_
        refine x_imul B (pc := 58) dX4_decides_58 ?_
        refine x_iload_n B (pc := 59) 2 dX4_decides_59 rfl rfl ?_
        refine x_iadd B (pc := 60) dX4_decides_60 ?_
        refine x_callV B (pc := 61) (As := [.int ((4 * (nI d)) + (nI o))]) (c_X4_returns hl D e0 htt) xcl_M rfl 0 0 rfl rfl tm742 tm744 ts15 tm7 tm745 md_X4_returns ⟨Nat.le_of_ble_eq_true rfl, Nat.le_of_ble_eq_true rfl⟩ [0, 2] rfl rfl rfl (Nat.le_of_ble_eq_true rfl) (Nat.le_of_ble_eq_true rfl) (Nat.le_of_ble_eq_true rfl) dX4_decides_61 (fun E hE => False.elim hE) (fun v cs1 hp => ?_)
        obtain ⟨rfl, rfl⟩ := hp
        show G 64 [(0, .ref (am 0)), (1, .int (nI d)), (2, .int (nI o))] [] [moW am N tf tt bf (bt + 1) up op tr tn th, mdW D am (xup (xup (xup S 13 d ((S 13 d) + 1)) 12 d (nI o)) 9 d 4), rbW D am (upd bg (bt % 2048) ((4 * (nI d)) + (nI o)))] 0 0
        exact x_vret F (pc := 64) rfl dX4_decides_64 (⟨rfl, _, _, Nat.le_refl _, by unfold aOut; rw [if_neg h52]; exact mg_add hb9 hlb out_e, by unfold aDec; first | (rw [if_pos h8, if_pos h37]; done) | (rw [if_pos h8, if_neg h37]; done) | (rw [if_neg h8, if_pos h37, Int32.add_zero]; done) | (rw [if_neg h8, if_neg h37, Int32.add_zero]; done)⟩) (Nat.le_of_ble_eq_true rfl) (Nat.le_of_ble_eq_true rfl)
    · skip
      refine x_iconst B (pc := 40) 3 dX4_decides_40 (by decide) ?_
      refine x_goto B (pc := 41) 45 dX4_decides_41 (by decide) ?_
      refine x_iastN B (pc := 45) d 1 5 [moW am N tf tt bf bt up op tr tn th, mdW D am (xup (xup (xup S 13 d ((S 13 d) + 1)) 12 d (nI o)) 9 d 3), rbW D am bg] hd (by decide) rfl rfl md_set9 rfl dX4_decides_45 ?_
      refine x_aload_n B (pc := 46) 0 dX4_decides_46 rfl rfl ?_
      refine x_get B (pc := 47) xcl_M 0 0 5 rfl rfl (by decide) tm635 rfl rfl dX4_decides_47 ?_
      refine x_iload_n B (pc := 50) 1 dX4_decides_50 rfl rfl ?_
      refine x_ialdN B (pc := 51) d 1 1 hd (by decide) rfl rfl dX4_decides_51 ?_
      refine x_val B (y := S 5 d) rfl ?_
      refine x_if_eq B (pc := 52) 64 dX4_decides_52 (by decide) (fun h52 => ?_) (fun h52 => ?_)
      · skip
        exact x_vret F (pc := 64) rfl dX4_decides_64 (⟨rfl, bt, bg, Nat.le_succ _, by unfold aOut; rw [if_pos h52]; exact hb9, by unfold aDec; first | (rw [if_pos h8, if_pos h37]; done) | (rw [if_pos h8, if_neg h37]; done) | (rw [if_neg h8, if_pos h37, Int32.add_zero]; done) | (rw [if_neg h8, if_neg h37, Int32.add_zero]; done)⟩) (Nat.le_of_ble_eq_true rfl) (Nat.le_of_ble_eq_true rfl)
      · skip
        refine x_aload_n B (pc := 55) 0 dX4_decides_55 rfl rfl ?_
        refine x_iconst B (pc := 56) 4 dX4_decides_56 (by decide) ?_
        refine x_iload_n B (pc := 57) 1 dX4_decides_57 rfl rfl ?_
        refine x_imul B (pc := 58) dX4_decides_58 ?_
        refine x_iload_n B (pc := 59) 2 dX4_decides_59 rfl rfl ?_
        refine x_iadd B (pc := 60) dX4_decides_60 ?_
        refine x_callV B (pc := 61) (As := [.int ((4 * (nI d)) + (nI o))]) (c_X4_returns hl D e0 htt) xcl_M rfl 0 0 rfl rfl tm742 tm744 ts15 tm7 tm745 md_X4_returns ⟨Nat.le_of_ble_eq_true rfl, Nat.le_of_ble_eq_true rfl⟩ [0, 2] rfl rfl rfl (Nat.le_of_ble_eq_true rfl) (Nat.le_of_ble_eq_true rfl) (Nat.le_of_ble_eq_true rfl) dX4_decides_61 (fun E hE => False.elim hE) (fun v cs1 hp => ?_)
        obtain ⟨rfl, rfl⟩ := hp
        show G 64 [(0, .ref (am 0)), (1, .int (nI d)), (2, .int (nI o))] [] [moW am N tf tt bf (bt + 1) up op tr tn th, mdW D am (xup (xup (xup S 13 d ((S 13 d) + 1)) 12 d (nI o)) 9 d 3), rbW D am (upd bg (bt % 2048) ((4 * (nI d)) + (nI o)))] 0 0
        exact x_vret F (pc := 64) rfl dX4_decides_64 (⟨rfl, _, _, Nat.le_refl _, by unfold aOut; rw [if_neg h52]; exact mg_add hb9 hlb out_e, by unfold aDec; first | (rw [if_pos h8, if_pos h37]; done) | (rw [if_pos h8, if_neg h37]; done) | (rw [if_neg h8, if_pos h37, Int32.add_zero]; done) | (rw [if_neg h8, if_neg h37, Int32.add_zero]; done)⟩) (Nat.le_of_ble_eq_true rfl) (Nat.le_of_ble_eq_true rfl)

set_option maxRecDepth 100000 in
set_option maxHeartbeats 4000000 in
theorem c_X4_decide {l : Launch} (hl : l.stackTraces = false) (D : va_G) (e0 : Nat) {am : Nat → Nat} {N tf tt bf bt : Nat} {up op tr : Int32} {tn : Nat} {th : Int32} {S : xS} {bg : Nat → Int32} {qb : List xFr} {a b : Int32} (hup : up = 0 ∨ up = 1) (hN : N ≤ 60) (hb9 : mgOk encB qb bf bt bg) (hlb : qb.length < 2048) (htt : bt < 2 ^ 30) : xC l yX4_decide (.code yX4_decide cX4_decide 4 (some .int)) ({ frames := 2, cells := 0, slots := 0, locals := 43 } : Room) D e0 [.ref (am 0), .int a, .int b] [moW am N tf tt bf bt up op tr tn th, mdW D am S, rbW D am bg] (fun w cs => (cod (xinD N a) (xinB 0 2 b) (decide (up = 1) && (decide (S 9 (ix a) = 2) && decide (S 14 (ix a) = -1))) = 0 ∧ w = some (.int (aDec S (ix a) b 13 (ix a))) ∧ ∃ bt1 bg1, bt1 ≤ bt + 1 ∧ mgOk encB (aOut S (ix a) (ix b) qb) bf bt1 bg1 ∧ cs = [moW am N tf tt bf bt1 up op tr tn 0, mdW D am (aDec S (ix a) b), rbW D am bg1]) ∨ (cod (xinD N a) (xinB 0 2 b) (decide (up = 1) && (decide (S 9 (ix a) = 2) && decide (S 14 (ix a) = -1))) ≠ 0 ∧ (∃ z, w = some (.int z)) ∧ cs = [moW am N tf tt bf bt up op tr tn (nI (cod (xinD N a) (xinB 0 2 b) (decide (up = 1) && (decide (S 9 (ix a) = 2) && decide (S 14 (ix a) = -1))))), mdW D am S, rbW D am bg])) (fun _ => False) := by
  refine xC_of hl (by decide +kernel) (Nat.le_of_ble_eq_true rfl) (fun G X F => ?_)
  have B : xB l D e0 "CreditLinksModel" cX4_decide 4 (some .int) [] _ G X := F.base
  show G 0 [(0, .ref (am 0)), (1, .int a), (2, .int b)] [] [moW am N tf tt bf bt up op tr tn th, mdW D am S, rbW D am bg] 0 0
  refine x_aload_n B (pc := 0) 0 dX4_decide_0 rfl rfl ?_
  refine x_iload_n B (pc := 1) 1 dX4_decide_1 rfl rfl ?_
  refine x_callV B (pc := 2) (As := [.int a]) (c_X4_isDelivery hl D e0 hN) xcl_M rfl 0 0 rfl rfl tm786 tm788 ts21 tm7 tm789 md_X4_isDelivery ⟨Nat.le_of_ble_eq_true rfl, Nat.le_of_ble_eq_true rfl⟩ [0] rfl rfl rfl (Nat.le_of_ble_eq_true rfl) (Nat.le_of_ble_eq_true rfl) (Nat.le_of_ble_eq_true rfl) dX4_decide_2 (fun E hE => False.elim hE) (fun v cs1 hp => ?_)
  obtain ⟨rfl, rfl⟩ := hp
  show G 5 [(0, .ref (am 0)), (1, .int a), (2, .int b)] [.int (bz (xinD N a))] [moW am N tf tt bf bt up op tr tn th, mdW D am S, rbW D am bg] 0 0
  cases ha : xinD N a
  · skip
    refine x_istore_n B (pc := 5) [(3, .int 0), (0, .ref (am 0)), (1, .int a), (2, .int b)] dX4_decide_5 rfl (by decide) rfl ?_
    refine x_aload_n B (pc := 6) 1 dX4_decide_6 rfl rfl ?_
    refine x_iload_n B (pc := 7) 0 dX4_decide_7 rfl rfl ?_
    refine x_iload_n B (pc := 8) 3 dX4_decide_8 rfl rfl ?_
    refine x_iconst B (pc := 9) 0 dX4_decide_9 (by decide) ?_
    refine x_iconst B (pc := 10) 2 dX4_decide_10 (by decide) ?_
    refine x_callS B (pc := 11) (As := [.int b, .int 0, .int 2]) (c_X4_in hl D e0 ) tm727 tm728 tm7 tm729 md_X4_in ⟨Nat.le_of_ble_eq_true rfl, Nat.le_of_ble_eq_true rfl⟩ [] rfl rfl rfl (Nat.le_of_ble_eq_true rfl) (Nat.le_of_ble_eq_true rfl) (Nat.le_of_ble_eq_true rfl) dX4_decide_11 (fun E hE => False.elim hE) (fun v cs1 hp => ?_)
    obtain ⟨rfl, rfl⟩ := hp
    show G 14 [(3, .int 0), (0, .ref (am 0)), (1, .int a), (2, .int b)] [.int (bz (xinB 0 2 b)), .int 0, .ref (am 0)] [moW am N tf tt bf bt up op tr tn th, mdW D am S, rbW D am bg] 0 0
    refine x_iload_n B (pc := 14) 0 dX4_decide_14 rfl rfl ?_
    refine x_if_eq B (pc := 15) 49 dX4_decide_15 (by decide) (fun h15 => ?_) (fun h15 => absurd (by decide) h15)
    refine x_iconst B (pc := 49) 0 dX4_decide_49 (by decide) ?_
    cases hb : xinB 0 2 b
    · skip
      refine x_callV B (pc := 50) (As := [.int 0, .int 0, .int 0]) (c_X4_asked__ hl D e0 (p := false) (q := false) (r := false)) xcl_M rfl 0 0 rfl rfl tm738 tm740 ts14 tm7 tm741 md_X4_asked__ ⟨Nat.le_of_ble_eq_true rfl, Nat.le_of_ble_eq_true rfl⟩ [0] rfl rfl rfl (Nat.le_of_ble_eq_true rfl) (Nat.le_of_ble_eq_true rfl) (Nat.le_of_ble_eq_true rfl) dX4_decide_50 (fun E hE => False.elim hE) (fun v cs1 hp => ?_)
      obtain ⟨rfl, rfl⟩ := hp
      show G 53 [(3, .int 0), (0, .ref (am 0)), (1, .int a), (2, .int b)] [.int 0] [moW am N tf tt bf bt up op tr tn (nI 1), mdW D am S, rbW D am bg] 0 0
      refine x_if_ne B (pc := 53) 58 dX4_decide_53 (by decide) (fun h53 => absurd (by decide) h53) (fun h53 => ?_)
      refine x_iconst B (pc := 56) 0 dX4_decide_56 (by decide) ?_
      have hc : cod (xinD N a) (xinB 0 2 b) (decide (up = 1) && (decide (S 9 (ix a) = 2) && decide (S 14 (ix a) = -1))) = 1 := by first | (rw [ha]; rfl) | (rw [ha, hb]; rfl) | (rw [ha, hb, ed, und_no (fun e => h32 e.1)]; rfl) | (rw [ha, hb, ed, und_no (fun e => h42 e.2)]; rfl)
      exact x_iret F (pc := 57) rfl dX4_decide_57 (Or.inr ⟨by rw [hc]; decide, ⟨_, rfl⟩, by rw [hc]⟩) (Nat.le_of_ble_eq_true rfl) (Nat.le_of_ble_eq_true rfl)
    · obtain ⟨oo, hoo1, hoo2, rfl⟩ := xinB_t hb (by decide) (by decide)
      have eo : ix (nI oo) = oo := ix_nI (by omega)
      refine x_callV B (pc := 50) (As := [.int 0, .int 1, .int 0]) (c_X4_asked__ hl D e0 (p := false) (q := true) (r := false)) xcl_M rfl 0 0 rfl rfl tm738 tm740 ts14 tm7 tm741 md_X4_asked__ ⟨Nat.le_of_ble_eq_true rfl, Nat.le_of_ble_eq_true rfl⟩ [0] rfl rfl rfl (Nat.le_of_ble_eq_true rfl) (Nat.le_of_ble_eq_true rfl) (Nat.le_of_ble_eq_true rfl) dX4_decide_50 (fun E hE => False.elim hE) (fun v cs1 hp => ?_)
      obtain ⟨rfl, rfl⟩ := hp
      show G 53 [(3, .int 0), (0, .ref (am 0)), (1, .int a), (2, .int (nI oo))] [.int 0] [moW am N tf tt bf bt up op tr tn (nI 1), mdW D am S, rbW D am bg] 0 0
      refine x_if_ne B (pc := 53) 58 dX4_decide_53 (by decide) (fun h53 => absurd (by decide) h53) (fun h53 => ?_)
      refine x_iconst B (pc := 56) 0 dX4_decide_56 (by decide) ?_
      have hc : cod (xinD N a) (xinB 0 2 (nI oo)) (decide (up = 1) && (decide (S 9 (ix a) = 2) && decide (S 14 (ix a) = -1))) = 1 := by first | (rw [ha]; rfl) | (rw [ha, hb]; rfl) | (rw [ha, hb, ed, und_no (fun e => h32 e.1)]; rfl) | (rw [ha, hb, ed, und_no (fun e => h42 e.2)]; rfl)
      exact x_iret F (pc := 57) rfl dX4_decide_57 (Or.inr ⟨by rw [hc]; decide, ⟨_, rfl⟩, by rw [hc]⟩) (Nat.le_of_ble_eq_true rfl) (Nat.le_of_ble_eq_true rfl)
  · obtain ⟨d, hd, rfl⟩ := xinD_t ha (by omega)
    have ed : ix (nI d) = d := ix_nI (by omega)
    have hd6 : d < 60 := by omega
    refine x_istore_n B (pc := 5) [(3, .int 1), (0, .ref (am 0)), (1, .int (nI d)), (2, .int b)] dX4_decide_5 rfl (by decide) rfl ?_
    refine x_aload_n B (pc := 6) 1 dX4_decide_6 rfl rfl ?_
    refine x_iload_n B (pc := 7) 0 dX4_decide_7 rfl rfl ?_
    refine x_iload_n B (pc := 8) 3 dX4_decide_8 rfl rfl ?_
    refine x_iconst B (pc := 9) 0 dX4_decide_9 (by decide) ?_
    refine x_iconst B (pc := 10) 2 dX4_decide_10 (by decide) ?_
    refine x_callS B (pc := 11) (As := [.int b, .int 0, .int 2]) (c_X4_in hl D e0 ) tm727 tm728 tm7 tm729 md_X4_in ⟨Nat.le_of_ble_eq_true rfl, Nat.le_of_ble_eq_true rfl⟩ [] rfl rfl rfl (Nat.le_of_ble_eq_true rfl) (Nat.le_of_ble_eq_true rfl) (Nat.le_of_ble_eq_true rfl) dX4_decide_11 (fun E hE => False.elim hE) (fun v cs1 hp => ?_)
    obtain ⟨rfl, rfl⟩ := hp
    show G 14 [(3, .int 1), (0, .ref (am 0)), (1, .int (nI d)), (2, .int b)] [.int (bz (xinB 0 2 b)), .int 1, .ref (am 0)] [moW am N tf tt bf bt up op tr tn th, mdW D am S, rbW D am bg] 0 0
    refine x_iload_n B (pc := 14) 0 dX4_decide_14 rfl rfl ?_
    refine x_if_eq B (pc := 15) 49 dX4_decide_15 (by decide) (fun h15 => absurd h15 (by decide)) (fun h15 => ?_)
    refine x_aload_n B (pc := 18) 1 dX4_decide_18 rfl rfl ?_
    rcases hup with rfl | rfl
    · skip
      refine x_get B (pc := 19) (v := .int 0) xcl_M 0 0 22 rfl rfl (by decide) tm652 rfl rfl dX4_decide_19 ?_
      refine x_if_eq B (pc := 22) 49 dX4_decide_22 (by decide) (fun h22 => ?_) (fun h22 => absurd (by decide) h22)
      refine x_iconst B (pc := 49) 0 dX4_decide_49 (by decide) ?_
      cases hb : xinB 0 2 b
      · skip
        refine x_callV B (pc := 50) (As := [.int 1, .int 0, .int 0]) (c_X4_asked__ hl D e0 (p := true) (q := false) (r := false)) xcl_M rfl 0 0 rfl rfl tm738 tm740 ts14 tm7 tm741 md_X4_asked__ ⟨Nat.le_of_ble_eq_true rfl, Nat.le_of_ble_eq_true rfl⟩ [0] rfl rfl rfl (Nat.le_of_ble_eq_true rfl) (Nat.le_of_ble_eq_true rfl) (Nat.le_of_ble_eq_true rfl) dX4_decide_50 (fun E hE => False.elim hE) (fun v cs1 hp => ?_)
        obtain ⟨rfl, rfl⟩ := hp
        show G 53 [(3, .int 1), (0, .ref (am 0)), (1, .int (nI d)), (2, .int b)] [.int 0] [moW am N tf tt bf bt 0 op tr tn (nI 2), mdW D am S, rbW D am bg] 0 0
        refine x_if_ne B (pc := 53) 58 dX4_decide_53 (by decide) (fun h53 => absurd (by decide) h53) (fun h53 => ?_)
        refine x_iconst B (pc := 56) 0 dX4_decide_56 (by decide) ?_
        have hc : cod (xinD N (nI d)) (xinB 0 2 b) (decide ((0 : Int32) = 1) && (decide (S 9 (ix (nI d)) = 2) && decide (S 14 (ix (nI d)) = -1))) = 2 := by first | (rw [ha]; rfl) | (rw [ha, hb]; rfl) | (rw [ha, hb, ed, und_no (fun e => h32 e.1)]; rfl) | (rw [ha, hb, ed, und_no (fun e => h42 e.2)]; rfl)
        exact x_iret F (pc := 57) rfl dX4_decide_57 (Or.inr ⟨by rw [hc]; decide, ⟨_, rfl⟩, by rw [hc]⟩) (Nat.le_of_ble_eq_true rfl) (Nat.le_of_ble_eq_true rfl)
      · obtain ⟨oo, hoo1, hoo2, rfl⟩ := xinB_t hb (by decide) (by decide)
        have eo : ix (nI oo) = oo := ix_nI (by omega)
        refine x_callV B (pc := 50) (As := [.int 1, .int 1, .int 0]) (c_X4_asked__ hl D e0 (p := true) (q := true) (r := false)) xcl_M rfl 0 0 rfl rfl tm738 tm740 ts14 tm7 tm741 md_X4_asked__ ⟨Nat.le_of_ble_eq_true rfl, Nat.le_of_ble_eq_true rfl⟩ [0] rfl rfl rfl (Nat.le_of_ble_eq_true rfl) (Nat.le_of_ble_eq_true rfl) (Nat.le_of_ble_eq_true rfl) dX4_decide_50 (fun E hE => False.elim hE) (fun v cs1 hp => ?_)
        obtain ⟨rfl, rfl⟩ := hp
        show G 53 [(3, .int 1), (0, .ref (am 0)), (1, .int (nI d)), (2, .int (nI oo))] [.int 0] [moW am N tf tt bf bt 0 op tr tn (nI 3), mdW D am S, rbW D am bg] 0 0
        refine x_if_ne B (pc := 53) 58 dX4_decide_53 (by decide) (fun h53 => absurd (by decide) h53) (fun h53 => ?_)
        refine x_iconst B (pc := 56) 0 dX4_decide_56 (by decide) ?_
        have hc : cod (xinD N (nI d)) (xinB 0 2 (nI oo)) (decide ((0 : Int32) = 1) && (decide (S 9 (ix (nI d)) = 2) && decide (S 14 (ix (nI d)) = -1))) = 3 := by first | (rw [ha]; rfl) | (rw [ha, hb]; rfl) | (rw [ha, hb, ed, und_no (fun e => h32 e.1)]; rfl) | (rw [ha, hb, ed, und_no (fun e => h42 e.2)]; rfl)
        exact x_iret F (pc := 57) rfl dX4_decide_57 (Or.inr ⟨by rw [hc]; decide, ⟨_, rfl⟩, by rw [hc]⟩) (Nat.le_of_ble_eq_true rfl) (Nat.le_of_ble_eq_true rfl)
    · skip
      refine x_get B (pc := 19) (v := .int 1) xcl_M 0 0 22 rfl rfl (by decide) tm652 rfl rfl dX4_decide_19 ?_
      refine x_if_eq B (pc := 22) 49 dX4_decide_22 (by decide) (fun h22 => absurd h22 (by decide)) (fun h22 => ?_)
      refine x_aload_n B (pc := 25) 1 dX4_decide_25 rfl rfl ?_
      refine x_get B (pc := 26) xcl_M 0 0 9 rfl rfl (by decide) tm639 rfl rfl dX4_decide_26 ?_
      refine x_iload_n B (pc := 29) 2 dX4_decide_29 rfl rfl ?_
      refine x_ialdN B (pc := 30) d 1 5 hd6 (by decide) rfl rfl dX4_decide_30 ?_
      refine x_iconst B (pc := 31) 2 dX4_decide_31 (by decide) ?_
      refine x_icmp_ne B (pc := 32) 49 dX4_decide_32 (by decide) (fun h32 => ?_) (fun h32 => ?_)
      · skip
        refine x_iconst B (pc := 49) 0 dX4_decide_49 (by decide) ?_
        cases hb : xinB 0 2 b
        · skip
          refine x_callV B (pc := 50) (As := [.int 1, .int 0, .int 0]) (c_X4_asked__ hl D e0 (p := true) (q := false) (r := false)) xcl_M rfl 0 0 rfl rfl tm738 tm740 ts14 tm7 tm741 md_X4_asked__ ⟨Nat.le_of_ble_eq_true rfl, Nat.le_of_ble_eq_true rfl⟩ [0] rfl rfl rfl (Nat.le_of_ble_eq_true rfl) (Nat.le_of_ble_eq_true rfl) (Nat.le_of_ble_eq_true rfl) dX4_decide_50 (fun E hE => False.elim hE) (fun v cs1 hp => ?_)
          obtain ⟨rfl, rfl⟩ := hp
          show G 53 [(3, .int 1), (0, .ref (am 0)), (1, .int (nI d)), (2, .int b)] [.int 0] [moW am N tf tt bf bt 1 op tr tn (nI 2), mdW D am S, rbW D am bg] 0 0
          refine x_if_ne B (pc := 53) 58 dX4_decide_53 (by decide) (fun h53 => absurd (by decide) h53) (fun h53 => ?_)
          refine x_iconst B (pc := 56) 0 dX4_decide_56 (by decide) ?_
          have hc : cod (xinD N (nI d)) (xinB 0 2 b) (decide ((1 : Int32) = 1) && (decide (S 9 (ix (nI d)) = 2) && decide (S 14 (ix (nI d)) = -1))) = 2 := by first | (rw [ha]; rfl) | (rw [ha, hb]; rfl) | (rw [ha, hb, ed, und_no (fun e => h32 e.1)]; rfl) | (rw [ha, hb, ed, und_no (fun e => h42 e.2)]; rfl)
          exact x_iret F (pc := 57) rfl dX4_decide_57 (Or.inr ⟨by rw [hc]; decide, ⟨_, rfl⟩, by rw [hc]⟩) (Nat.le_of_ble_eq_true rfl) (Nat.le_of_ble_eq_true rfl)
        · obtain ⟨oo, hoo1, hoo2, rfl⟩ := xinB_t hb (by decide) (by decide)
          have eo : ix (nI oo) = oo := ix_nI (by omega)
          refine x_callV B (pc := 50) (As := [.int 1, .int 1, .int 0]) (c_X4_asked__ hl D e0 (p := true) (q := true) (r := false)) xcl_M rfl 0 0 rfl rfl tm738 tm740 ts14 tm7 tm741 md_X4_asked__ ⟨Nat.le_of_ble_eq_true rfl, Nat.le_of_ble_eq_true rfl⟩ [0] rfl rfl rfl (Nat.le_of_ble_eq_true rfl) (Nat.le_of_ble_eq_true rfl) (Nat.le_of_ble_eq_true rfl) dX4_decide_50 (fun E hE => False.elim hE) (fun v cs1 hp => ?_)
          obtain ⟨rfl, rfl⟩ := hp
          show G 53 [(3, .int 1), (0, .ref (am 0)), (1, .int (nI d)), (2, .int (nI oo))] [.int 0] [moW am N tf tt bf bt 1 op tr tn (nI 3), mdW D am S, rbW D am bg] 0 0
          refine x_if_ne B (pc := 53) 58 dX4_decide_53 (by decide) (fun h53 => absurd (by decide) h53) (fun h53 => ?_)
          refine x_iconst B (pc := 56) 0 dX4_decide_56 (by decide) ?_
          have hc : cod (xinD N (nI d)) (xinB 0 2 (nI oo)) (decide ((1 : Int32) = 1) && (decide (S 9 (ix (nI d)) = 2) && decide (S 14 (ix (nI d)) = -1))) = 3 := by first | (rw [ha]; rfl) | (rw [ha, hb]; rfl) | (rw [ha, hb, ed, und_no (fun e => h32 e.1)]; rfl) | (rw [ha, hb, ed, und_no (fun e => h42 e.2)]; rfl)
          exact x_iret F (pc := 57) rfl dX4_decide_57 (Or.inr ⟨by rw [hc]; decide, ⟨_, rfl⟩, by rw [hc]⟩) (Nat.le_of_ble_eq_true rfl) (Nat.le_of_ble_eq_true rfl)
      · skip
        refine x_aload_n B (pc := 35) 1 dX4_decide_35 rfl rfl ?_
        refine x_get B (pc := 36) xcl_M 0 0 14 rfl rfl (by decide) tm644 rfl rfl dX4_decide_36 ?_
        refine x_iload_n B (pc := 39) 2 dX4_decide_39 rfl rfl ?_
        refine x_ialdN B (pc := 40) d 1 10 hd6 (by decide) rfl rfl dX4_decide_40 ?_
        refine x_iconst B (pc := 41) (-1) dX4_decide_41 (by decide) ?_
        refine x_icmp_ne B (pc := 42) 49 dX4_decide_42 (by decide) (fun h42 => ?_) (fun h42 => ?_)
        · skip
          refine x_iconst B (pc := 49) 0 dX4_decide_49 (by decide) ?_
          cases hb : xinB 0 2 b
          · skip
            refine x_callV B (pc := 50) (As := [.int 1, .int 0, .int 0]) (c_X4_asked__ hl D e0 (p := true) (q := false) (r := false)) xcl_M rfl 0 0 rfl rfl tm738 tm740 ts14 tm7 tm741 md_X4_asked__ ⟨Nat.le_of_ble_eq_true rfl, Nat.le_of_ble_eq_true rfl⟩ [0] rfl rfl rfl (Nat.le_of_ble_eq_true rfl) (Nat.le_of_ble_eq_true rfl) (Nat.le_of_ble_eq_true rfl) dX4_decide_50 (fun E hE => False.elim hE) (fun v cs1 hp => ?_)
            obtain ⟨rfl, rfl⟩ := hp
            show G 53 [(3, .int 1), (0, .ref (am 0)), (1, .int (nI d)), (2, .int b)] [.int 0] [moW am N tf tt bf bt 1 op tr tn (nI 2), mdW D am S, rbW D am bg] 0 0
            refine x_if_ne B (pc := 53) 58 dX4_decide_53 (by decide) (fun h53 => absurd (by decide) h53) (fun h53 => ?_)
            refine x_iconst B (pc := 56) 0 dX4_decide_56 (by decide) ?_
            have hc : cod (xinD N (nI d)) (xinB 0 2 b) (decide ((1 : Int32) = 1) && (decide (S 9 (ix (nI d)) = 2) && decide (S 14 (ix (nI d)) = -1))) = 2 := by first | (rw [ha]; rfl) | (rw [ha, hb]; rfl) | (rw [ha, hb, ed, und_no (fun e => h32 e.1)]; rfl) | (rw [ha, hb, ed, und_no (fun e => h42 e.2)]; rfl)
            exact x_iret F (pc := 57) rfl dX4_decide_57 (Or.inr ⟨by rw [hc]; decide, ⟨_, rfl⟩, by rw [hc]⟩) (Nat.le_of_ble_eq_true rfl) (Nat.le_of_ble_eq_true rfl)
          · obtain ⟨oo, hoo1, hoo2, rfl⟩ := xinB_t hb (by decide) (by decide)
            have eo : ix (nI oo) = oo := ix_nI (by omega)
            refine x_callV B (pc := 50) (As := [.int 1, .int 1, .int 0]) (c_X4_asked__ hl D e0 (p := true) (q := true) (r := false)) xcl_M rfl 0 0 rfl rfl tm738 tm740 ts14 tm7 tm741 md_X4_asked__ ⟨Nat.le_of_ble_eq_true rfl, Nat.le_of_ble_eq_true rfl⟩ [0] rfl rfl rfl (Nat.le_of_ble_eq_true rfl) (Nat.le_of_ble_eq_true rfl) (Nat.le_of_ble_eq_true rfl) dX4_decide_50 (fun E hE => False.elim hE) (fun v cs1 hp => ?_)
            obtain ⟨rfl, rfl⟩ := hp
            show G 53 [(3, .int 1), (0, .ref (am 0)), (1, .int (nI d)), (2, .int (nI oo))] [.int 0] [moW am N tf tt bf bt 1 op tr tn (nI 3), mdW D am S, rbW D am bg] 0 0
            refine x_if_ne B (pc := 53) 58 dX4_decide_53 (by decide) (fun h53 => absurd (by decide) h53) (fun h53 => ?_)
            refine x_iconst B (pc := 56) 0 dX4_decide_56 (by decide) ?_
            have hc : cod (xinD N (nI d)) (xinB 0 2 (nI oo)) (decide ((1 : Int32) = 1) && (decide (S 9 (ix (nI d)) = 2) && decide (S 14 (ix (nI d)) = -1))) = 3 := by first | (rw [ha]; rfl) | (rw [ha, hb]; rfl) | (rw [ha, hb, ed, und_no (fun e => h32 e.1)]; rfl) | (rw [ha, hb, ed, und_no (fun e => h42 e.2)]; rfl)
            exact x_iret F (pc := 57) rfl dX4_decide_57 (Or.inr ⟨by rw [hc]; decide, ⟨_, rfl⟩, by rw [hc]⟩) (Nat.le_of_ble_eq_true rfl) (Nat.le_of_ble_eq_true rfl)
        · skip
          refine x_iconst B (pc := 45) 1 dX4_decide_45 (by decide) ?_
          refine x_goto B (pc := 46) 50 dX4_decide_46 (by decide) ?_
          cases hb : xinB 0 2 b
          · skip
            refine x_callV B (pc := 50) (As := [.int 1, .int 0, .int 1]) (c_X4_asked__ hl D e0 (p := true) (q := false) (r := true)) xcl_M rfl 0 0 rfl rfl tm738 tm740 ts14 tm7 tm741 md_X4_asked__ ⟨Nat.le_of_ble_eq_true rfl, Nat.le_of_ble_eq_true rfl⟩ [0] rfl rfl rfl (Nat.le_of_ble_eq_true rfl) (Nat.le_of_ble_eq_true rfl) (Nat.le_of_ble_eq_true rfl) dX4_decide_50 (fun E hE => False.elim hE) (fun v cs1 hp => ?_)
            obtain ⟨rfl, rfl⟩ := hp
            show G 53 [(3, .int 1), (0, .ref (am 0)), (1, .int (nI d)), (2, .int b)] [.int 0] [moW am N tf tt bf bt 1 op tr tn (nI 2), mdW D am S, rbW D am bg] 0 0
            refine x_if_ne B (pc := 53) 58 dX4_decide_53 (by decide) (fun h53 => absurd (by decide) h53) (fun h53 => ?_)
            refine x_iconst B (pc := 56) 0 dX4_decide_56 (by decide) ?_
            have hc : cod (xinD N (nI d)) (xinB 0 2 b) (decide ((1 : Int32) = 1) && (decide (S 9 (ix (nI d)) = 2) && decide (S 14 (ix (nI d)) = -1))) = 2 := by first | (rw [ha]; rfl) | (rw [ha, hb]; rfl) | (rw [ha, hb, ed, und_no (fun e => h32 e.1)]; rfl) | (rw [ha, hb, ed, und_no (fun e => h42 e.2)]; rfl)
            exact x_iret F (pc := 57) rfl dX4_decide_57 (Or.inr ⟨by rw [hc]; decide, ⟨_, rfl⟩, by rw [hc]⟩) (Nat.le_of_ble_eq_true rfl) (Nat.le_of_ble_eq_true rfl)
          · obtain ⟨oo, hoo1, hoo2, rfl⟩ := xinB_t hb (by decide) (by decide)
            have eo : ix (nI oo) = oo := ix_nI (by omega)
            refine x_callV B (pc := 50) (As := [.int 1, .int 1, .int 1]) (c_X4_asked__ hl D e0 (p := true) (q := true) (r := true)) xcl_M rfl 0 0 rfl rfl tm738 tm740 ts14 tm7 tm741 md_X4_asked__ ⟨Nat.le_of_ble_eq_true rfl, Nat.le_of_ble_eq_true rfl⟩ [0] rfl rfl rfl (Nat.le_of_ble_eq_true rfl) (Nat.le_of_ble_eq_true rfl) (Nat.le_of_ble_eq_true rfl) dX4_decide_50 (fun E hE => False.elim hE) (fun v cs1 hp => ?_)
            obtain ⟨rfl, rfl⟩ := hp
            show G 53 [(3, .int 1), (0, .ref (am 0)), (1, .int (nI d)), (2, .int (nI oo))] [.int 1] [moW am N tf tt bf bt 1 op tr tn 0, mdW D am S, rbW D am bg] 0 0
            refine x_if_ne B (pc := 53) 58 dX4_decide_53 (by decide) (fun h53 => ?_) (fun h53 => absurd h53 (by decide))
            refine x_aload_n B (pc := 58) 1 dX4_decide_58 rfl rfl ?_
            refine x_iload_n B (pc := 59) 2 dX4_decide_59 rfl rfl ?_
            refine x_iload_n B (pc := 60) 3 dX4_decide_60 rfl rfl ?_
            refine x_callV B (pc := 61) (As := [.int (nI d), .int (nI oo)]) (c_X4_decides hl D e0 hd6 (by omega) hb9 hlb htt) xcl_M rfl 0 0 rfl rfl tm790 tm792 ts22 tm7 tm793 md_X4_decides ⟨Nat.le_of_ble_eq_true rfl, Nat.le_of_ble_eq_true rfl⟩ [0, 1, 2] rfl rfl rfl (Nat.le_of_ble_eq_true rfl) (Nat.le_of_ble_eq_true rfl) (Nat.le_of_ble_eq_true rfl) dX4_decide_61 (fun E hE => False.elim hE) (fun v cs1 hp => ?_)
            obtain ⟨rfl, bt1, bg1, hb1, hg1, rfl⟩ := hp
            show G 64 [(3, .int 1), (0, .ref (am 0)), (1, .int (nI d)), (2, .int (nI oo))] [] [moW am N tf tt bf bt1 1 op tr tn 0, mdW D am (aDec S d (nI oo)), rbW D am bg1] 0 0
            refine x_aload_n B (pc := 64) 1 dX4_decide_64 rfl rfl ?_
            refine x_get B (pc := 65) xcl_M 0 0 13 rfl rfl (by decide) tm643 rfl rfl dX4_decide_65 ?_
            refine x_iload_n B (pc := 68) 2 dX4_decide_68 rfl rfl ?_
            refine x_ialdN B (pc := 69) d 1 9 hd6 (by decide) rfl rfl dX4_decide_69 ?_
            exact x_iret F (pc := 70) rfl dX4_decide_70 (Or.inl ⟨by rw [ha, hb, ed, decide_eq_true h32, decide_eq_true h42]; rfl, by rw [ed], bt1, bg1, hb1, by rw [ed, eo]; exact hg1, by rw [ed]⟩) (Nat.le_of_ble_eq_true rfl) (Nat.le_of_ble_eq_true rfl)

set_option maxRecDepth 100000 in
set_option maxHeartbeats 4000000 in
theorem c_X4_deliveries {l : Launch} (hl : l.stackTraces = false) (D : va_G) (e0 : Nat) {am : Nat → Nat} {N tf tt bf bt : Nat} {up op tr : Int32} {tn : Nat} {th : Int32}  : xC l yX4_deliveries (.code yX4_deliveries cX4_deliveries 1 (some .int)) ({ frames := 1, cells := 0, slots := 0, locals := 21 } : Room) D e0 [.ref (am 0)] [moW am N tf tt bf bt up op tr tn th] (fun v cs => v = some (.int (nI N)) ∧ cs = [moW am N tf tt bf bt up op tr tn 0]) (fun _ => False) := by
  refine xC_of hl (by decide +kernel) (Nat.le_of_ble_eq_true rfl) (fun G X F => ?_)
  have B : xB l D e0 "CreditLinksModel" cX4_deliveries 1 (some .int) [] _ G X := F.base
  show G 0 [(0, .ref (am 0))] [] [moW am N tf tt bf bt up op tr tn th] 0 0
  refine x_aload_n B (pc := 0) 0 dX4_deliveries_0 rfl rfl ?_
  refine x_aload_n B (pc := 1) 0 dX4_deliveries_1 rfl rfl ?_
  refine x_get B (pc := 2) (v := .int (nI N)) xcl_M 0 0 15 rfl rfl (by decide) tm645 rfl rfl dX4_deliveries_2 ?_
  refine x_callV B (pc := 5) (As := [.int (nI N)]) (c_X4_tells hl D e0 ) xcl_M rfl 0 0 rfl rfl tm798 tm800 ts23 tm7 tm801 md_X4_tells ⟨Nat.le_of_ble_eq_true rfl, Nat.le_of_ble_eq_true rfl⟩ [0] rfl rfl rfl (Nat.le_of_ble_eq_true rfl) (Nat.le_of_ble_eq_true rfl) (Nat.le_of_ble_eq_true rfl) dX4_deliveries_5 (fun E hE => False.elim hE) (fun v cs1 hp => ?_)
  obtain ⟨rfl, rfl⟩ := hp
  show G 8 [(0, .ref (am 0))] [.int (nI N)] [moW am N tf tt bf bt up op tr tn 0] 0 0
  exact x_iret F (pc := 8) rfl dX4_deliveries_8 (⟨rfl, rfl⟩) (Nat.le_of_ble_eq_true rfl) (Nat.le_of_ble_eq_true rfl)

set_option maxRecDepth 100000 in
set_option maxHeartbeats 4000000 in
theorem c_X4_underWay {l : Launch} (hl : l.stackTraces = false) (D : va_G) (e0 : Nat) {am : Nat → Nat} {N tf tt bf bt : Nat} {up op tr : Int32} {tn : Nat} {th : Int32} (hle : tf ≤ tt) : xC l yX4_underWay (.code yX4_underWay cX4_underWay 1 (some .int)) ({ frames := 1, cells := 0, slots := 0, locals := 21 } : Room) D e0 [.ref (am 0)] [moW am N tf tt bf bt up op tr tn th] (fun v cs => v = some (.int (nI (tt - tf))) ∧ cs = [moW am N tf tt bf bt up op tr tn 0]) (fun _ => False) := by
  refine xC_of hl (by decide +kernel) (Nat.le_of_ble_eq_true rfl) (fun G X F => ?_)
  have B : xB l D e0 "CreditLinksModel" cX4_underWay 1 (some .int) [] _ G X := F.base
  show G 0 [(0, .ref (am 0))] [] [moW am N tf tt bf bt up op tr tn th] 0 0
  refine x_aload_n B (pc := 0) 0 dX4_underWay_0 rfl rfl ?_
  refine x_aload_n B (pc := 1) 0 dX4_underWay_1 rfl rfl ?_
  refine x_get B (pc := 2) (v := .int (nI tt)) xcl_M 0 0 18 rfl rfl (by decide) tm648 rfl rfl dX4_underWay_2 ?_
  refine x_aload_n B (pc := 5) 0 dX4_underWay_5 rfl rfl ?_
  refine x_get B (pc := 6) (v := .int (nI tf)) xcl_M 0 0 17 rfl rfl (by decide) tm647 rfl rfl dX4_underWay_6 ?_
  refine x_isub B (pc := 9) dX4_underWay_9 ?_
  refine x_val B (y := nI (tt - tf)) (pk_sub hle) ?_
  refine x_callV B (pc := 10) (As := [.int (nI (tt - tf))]) (c_X4_tells hl D e0 ) xcl_M rfl 0 0 rfl rfl tm798 tm800 ts23 tm7 tm801 md_X4_tells ⟨Nat.le_of_ble_eq_true rfl, Nat.le_of_ble_eq_true rfl⟩ [0] rfl rfl rfl (Nat.le_of_ble_eq_true rfl) (Nat.le_of_ble_eq_true rfl) (Nat.le_of_ble_eq_true rfl) dX4_underWay_10 (fun E hE => False.elim hE) (fun v cs1 hp => ?_)
  obtain ⟨rfl, rfl⟩ := hp
  show G 13 [(0, .ref (am 0))] [.int (nI (tt - tf))] [moW am N tf tt bf bt up op tr tn 0] 0 0
  exact x_iret F (pc := 13) rfl dX4_underWay_13 (⟨rfl, rfl⟩) (Nat.le_of_ble_eq_true rfl) (Nat.le_of_ble_eq_true rfl)

set_option maxRecDepth 100000 in
set_option maxHeartbeats 4000000 in
theorem c_X4_backUnderWay {l : Launch} (hl : l.stackTraces = false) (D : va_G) (e0 : Nat) {am : Nat → Nat} {N tf tt bf bt : Nat} {up op tr : Int32} {tn : Nat} {th : Int32} (hle : bf ≤ bt) : xC l yX4_backUnderWay (.code yX4_backUnderWay cX4_backUnderWay 1 (some .int)) ({ frames := 1, cells := 0, slots := 0, locals := 21 } : Room) D e0 [.ref (am 0)] [moW am N tf tt bf bt up op tr tn th] (fun v cs => v = some (.int (nI (bt - bf))) ∧ cs = [moW am N tf tt bf bt up op tr tn 0]) (fun _ => False) := by
  refine xC_of hl (by decide +kernel) (Nat.le_of_ble_eq_true rfl) (fun G X F => ?_)
  have B : xB l D e0 "CreditLinksModel" cX4_backUnderWay 1 (some .int) [] _ G X := F.base
  show G 0 [(0, .ref (am 0))] [] [moW am N tf tt bf bt up op tr tn th] 0 0
  refine x_aload_n B (pc := 0) 0 dX4_backUnderWay_0 rfl rfl ?_
  refine x_aload_n B (pc := 1) 0 dX4_backUnderWay_1 rfl rfl ?_
  refine x_get B (pc := 2) (v := .int (nI bt)) xcl_M 0 0 21 rfl rfl (by decide) tm651 rfl rfl dX4_backUnderWay_2 ?_
  refine x_aload_n B (pc := 5) 0 dX4_backUnderWay_5 rfl rfl ?_
  refine x_get B (pc := 6) (v := .int (nI bf)) xcl_M 0 0 20 rfl rfl (by decide) tm650 rfl rfl dX4_backUnderWay_6 ?_
  refine x_isub B (pc := 9) dX4_backUnderWay_9 ?_
  refine x_val B (y := nI (bt - bf)) (pk_sub hle) ?_
  refine x_callV B (pc := 10) (As := [.int (nI (bt - bf))]) (c_X4_tells hl D e0 ) xcl_M rfl 0 0 rfl rfl tm798 tm800 ts23 tm7 tm801 md_X4_tells ⟨Nat.le_of_ble_eq_true rfl, Nat.le_of_ble_eq_true rfl⟩ [0] rfl rfl rfl (Nat.le_of_ble_eq_true rfl) (Nat.le_of_ble_eq_true rfl) (Nat.le_of_ble_eq_true rfl) dX4_backUnderWay_10 (fun E hE => False.elim hE) (fun v cs1 hp => ?_)
  obtain ⟨rfl, rfl⟩ := hp
  show G 13 [(0, .ref (am 0))] [.int (nI (bt - bf))] [moW am N tf tt bf bt up op tr tn 0] 0 0
  exact x_iret F (pc := 13) rfl dX4_backUnderWay_13 (⟨rfl, rfl⟩) (Nat.le_of_ble_eq_true rfl) (Nat.le_of_ble_eq_true rfl)

set_option maxRecDepth 100000 in
set_option maxHeartbeats 4000000 in
theorem c_X4_forSender {l : Launch} (hl : l.stackTraces = false) (D : va_G) (e0 : Nat) {am : Nat → Nat} {N tf tt bf bt : Nat} {up op tr : Int32} {tn : Nat} {th : Int32} {S : xS} {a : Int32} (hN : N ≤ 60) : xC l yX4_forSender (.code yX4_forSender cX4_forSender 2 (some .int)) ({ frames := 2, cells := 0, slots := 0, locals := 43 } : Room) D e0 [.ref (am 0), .int a] [moW am N tf tt bf bt up op tr tn th, mdW D am S] (fun w cs => (cod (xinD N a) true true = 0 ∧ w = some (.int (S 7 (ix a))) ∧ cs = [moW am N tf tt bf bt up op tr tn 0, mdW D am S]) ∨ (cod (xinD N a) true true ≠ 0 ∧ (∃ z, w = some (.int z)) ∧ cs = [moW am N tf tt bf bt up op tr tn (nI (cod (xinD N a) true true)), mdW D am S])) (fun _ => False) := by
  refine xC_of hl (by decide +kernel) (Nat.le_of_ble_eq_true rfl) (fun G X F => ?_)
  have B : xB l D e0 "CreditLinksModel" cX4_forSender 2 (some .int) [] _ G X := F.base
  show G 0 [(0, .ref (am 0)), (1, .int a)] [] [moW am N tf tt bf bt up op tr tn th, mdW D am S] 0 0
  refine x_aload_n B (pc := 0) 0 dX4_forSender_0 rfl rfl ?_
  refine x_aload_n B (pc := 1) 0 dX4_forSender_1 rfl rfl ?_
  refine x_iload_n B (pc := 2) 1 dX4_forSender_2 rfl rfl ?_
  refine x_callV B (pc := 3) (As := [.int a]) (c_X4_isDelivery hl D e0 hN) xcl_M rfl 0 0 rfl rfl tm786 tm788 ts21 tm7 tm789 md_X4_isDelivery ⟨Nat.le_of_ble_eq_true rfl, Nat.le_of_ble_eq_true rfl⟩ [0] rfl rfl rfl (Nat.le_of_ble_eq_true rfl) (Nat.le_of_ble_eq_true rfl) (Nat.le_of_ble_eq_true rfl) dX4_forSender_3 (fun E hE => False.elim hE) (fun v cs1 hp => ?_)
  obtain ⟨rfl, rfl⟩ := hp
  show G 6 [(0, .ref (am 0)), (1, .int a)] [.int (bz (xinD N a)), .ref (am 0)] [moW am N tf tt bf bt up op tr tn th, mdW D am S] 0 0
  cases ha : xinD N a
  · skip
    refine x_callV B (pc := 6) (As := [.int 0]) (c_X4_asked hl D e0 (p := false)) xcl_M rfl 0 0 rfl rfl tm750 tm752 ts16 tm7 tm753 md_X4_asked ⟨Nat.le_of_ble_eq_true rfl, Nat.le_of_ble_eq_true rfl⟩ [0] rfl rfl rfl (Nat.le_of_ble_eq_true rfl) (Nat.le_of_ble_eq_true rfl) (Nat.le_of_ble_eq_true rfl) dX4_forSender_6 (fun E hE => False.elim hE) (fun v cs1 hp => ?_)
    obtain ⟨rfl, rfl⟩ := hp
    show G 9 [(0, .ref (am 0)), (1, .int a)] [.int 0] [moW am N tf tt bf bt up op tr tn (nI 1), mdW D am S] 0 0
    refine x_if_eq B (pc := 9) 21 dX4_forSender_9 (by decide) (fun h9 => ?_) (fun h9 => absurd (by decide) h9)
    refine x_iconst B (pc := 21) 0 dX4_forSender_21 (by decide) ?_
    have hc : cod (xinD N a) true true = 1 := by first | (rw [ha]; rfl)
    exact x_iret F (pc := 22) rfl dX4_forSender_22 (Or.inr ⟨by rw [hc]; decide, ⟨_, rfl⟩, by rw [hc]⟩) (Nat.le_of_ble_eq_true rfl) (Nat.le_of_ble_eq_true rfl)
  · obtain ⟨d, hd, rfl⟩ := xinD_t ha (by omega)
    have ed : ix (nI d) = d := ix_nI (by omega)
    have hd6 : d < 60 := by omega
    refine x_callV B (pc := 6) (As := [.int 1]) (c_X4_asked hl D e0 (p := true)) xcl_M rfl 0 0 rfl rfl tm750 tm752 ts16 tm7 tm753 md_X4_asked ⟨Nat.le_of_ble_eq_true rfl, Nat.le_of_ble_eq_true rfl⟩ [0] rfl rfl rfl (Nat.le_of_ble_eq_true rfl) (Nat.le_of_ble_eq_true rfl) (Nat.le_of_ble_eq_true rfl) dX4_forSender_6 (fun E hE => False.elim hE) (fun v cs1 hp => ?_)
    obtain ⟨rfl, rfl⟩ := hp
    show G 9 [(0, .ref (am 0)), (1, .int (nI d))] [.int 1] [moW am N tf tt bf bt up op tr tn 0, mdW D am S] 0 0
    refine x_if_eq B (pc := 9) 21 dX4_forSender_9 (by decide) (fun h9 => absurd h9 (by decide)) (fun h9 => ?_)
    refine x_aload_n B (pc := 12) 0 dX4_forSender_12 rfl rfl ?_
    refine x_get B (pc := 13) xcl_M 0 0 7 rfl rfl (by decide) tm637 rfl rfl dX4_forSender_13 ?_
    refine x_iload_n B (pc := 16) 1 dX4_forSender_16 rfl rfl ?_
    refine x_ialdN B (pc := 17) d 1 3 hd6 (by decide) rfl rfl dX4_forSender_17 ?_
    refine x_goto B (pc := 18) 22 dX4_forSender_18 (by decide) ?_
    exact x_iret F (pc := 22) rfl dX4_forSender_22 (Or.inl ⟨by rw [ha]; rfl, by rw [ed], rfl⟩) (Nat.le_of_ble_eq_true rfl) (Nat.le_of_ble_eq_true rfl)

set_option maxRecDepth 100000 in
set_option maxHeartbeats 4000000 in
theorem c_X4_heard {l : Launch} (hl : l.stackTraces = false) (D : va_G) (e0 : Nat) {am : Nat → Nat} {N tf tt bf bt : Nat} {up op tr : Int32} {tn : Nat} {th : Int32} {S : xS} {a : Int32} (hN : N ≤ 60) : xC l yX4_heard (.code yX4_heard cX4_heard 2 (some .int)) ({ frames := 2, cells := 0, slots := 0, locals := 43 } : Room) D e0 [.ref (am 0), .int a] [moW am N tf tt bf bt up op tr tn th, mdW D am S] (fun w cs => (cod (xinD N a) true true = 0 ∧ w = some (.int (S 8 (ix a))) ∧ cs = [moW am N tf tt bf bt up op tr tn 0, mdW D am S]) ∨ (cod (xinD N a) true true ≠ 0 ∧ (∃ z, w = some (.int z)) ∧ cs = [moW am N tf tt bf bt up op tr tn (nI (cod (xinD N a) true true)), mdW D am S])) (fun _ => False) := by
  refine xC_of hl (by decide +kernel) (Nat.le_of_ble_eq_true rfl) (fun G X F => ?_)
  have B : xB l D e0 "CreditLinksModel" cX4_heard 2 (some .int) [] _ G X := F.base
  show G 0 [(0, .ref (am 0)), (1, .int a)] [] [moW am N tf tt bf bt up op tr tn th, mdW D am S] 0 0
  refine x_aload_n B (pc := 0) 0 dX4_heard_0 rfl rfl ?_
  refine x_aload_n B (pc := 1) 0 dX4_heard_1 rfl rfl ?_
  refine x_iload_n B (pc := 2) 1 dX4_heard_2 rfl rfl ?_
  refine x_callV B (pc := 3) (As := [.int a]) (c_X4_isDelivery hl D e0 hN) xcl_M rfl 0 0 rfl rfl tm786 tm788 ts21 tm7 tm789 md_X4_isDelivery ⟨Nat.le_of_ble_eq_true rfl, Nat.le_of_ble_eq_true rfl⟩ [0] rfl rfl rfl (Nat.le_of_ble_eq_true rfl) (Nat.le_of_ble_eq_true rfl) (Nat.le_of_ble_eq_true rfl) dX4_heard_3 (fun E hE => False.elim hE) (fun v cs1 hp => ?_)
  obtain ⟨rfl, rfl⟩ := hp
  show G 6 [(0, .ref (am 0)), (1, .int a)] [.int (bz (xinD N a)), .ref (am 0)] [moW am N tf tt bf bt up op tr tn th, mdW D am S] 0 0
  cases ha : xinD N a
  · skip
    refine x_callV B (pc := 6) (As := [.int 0]) (c_X4_asked hl D e0 (p := false)) xcl_M rfl 0 0 rfl rfl tm750 tm752 ts16 tm7 tm753 md_X4_asked ⟨Nat.le_of_ble_eq_true rfl, Nat.le_of_ble_eq_true rfl⟩ [0] rfl rfl rfl (Nat.le_of_ble_eq_true rfl) (Nat.le_of_ble_eq_true rfl) (Nat.le_of_ble_eq_true rfl) dX4_heard_6 (fun E hE => False.elim hE) (fun v cs1 hp => ?_)
    obtain ⟨rfl, rfl⟩ := hp
    show G 9 [(0, .ref (am 0)), (1, .int a)] [.int 0] [moW am N tf tt bf bt up op tr tn (nI 1), mdW D am S] 0 0
    refine x_if_eq B (pc := 9) 21 dX4_heard_9 (by decide) (fun h9 => ?_) (fun h9 => absurd (by decide) h9)
    refine x_iconst B (pc := 21) 0 dX4_heard_21 (by decide) ?_
    have hc : cod (xinD N a) true true = 1 := by first | (rw [ha]; rfl)
    exact x_iret F (pc := 22) rfl dX4_heard_22 (Or.inr ⟨by rw [hc]; decide, ⟨_, rfl⟩, by rw [hc]⟩) (Nat.le_of_ble_eq_true rfl) (Nat.le_of_ble_eq_true rfl)
  · obtain ⟨d, hd, rfl⟩ := xinD_t ha (by omega)
    have ed : ix (nI d) = d := ix_nI (by omega)
    have hd6 : d < 60 := by omega
    refine x_callV B (pc := 6) (As := [.int 1]) (c_X4_asked hl D e0 (p := true)) xcl_M rfl 0 0 rfl rfl tm750 tm752 ts16 tm7 tm753 md_X4_asked ⟨Nat.le_of_ble_eq_true rfl, Nat.le_of_ble_eq_true rfl⟩ [0] rfl rfl rfl (Nat.le_of_ble_eq_true rfl) (Nat.le_of_ble_eq_true rfl) (Nat.le_of_ble_eq_true rfl) dX4_heard_6 (fun E hE => False.elim hE) (fun v cs1 hp => ?_)
    obtain ⟨rfl, rfl⟩ := hp
    show G 9 [(0, .ref (am 0)), (1, .int (nI d))] [.int 1] [moW am N tf tt bf bt up op tr tn 0, mdW D am S] 0 0
    refine x_if_eq B (pc := 9) 21 dX4_heard_9 (by decide) (fun h9 => absurd h9 (by decide)) (fun h9 => ?_)
    refine x_aload_n B (pc := 12) 0 dX4_heard_12 rfl rfl ?_
    refine x_get B (pc := 13) xcl_M 0 0 8 rfl rfl (by decide) tm638 rfl rfl dX4_heard_13 ?_
    refine x_iload_n B (pc := 16) 1 dX4_heard_16 rfl rfl ?_
    refine x_ialdN B (pc := 17) d 1 4 hd6 (by decide) rfl rfl dX4_heard_17 ?_
    refine x_goto B (pc := 18) 22 dX4_heard_18 (by decide) ?_
    exact x_iret F (pc := 22) rfl dX4_heard_22 (Or.inl ⟨by rw [ha]; rfl, by rw [ed], rfl⟩) (Nat.le_of_ble_eq_true rfl) (Nat.le_of_ble_eq_true rfl)

set_option maxRecDepth 100000 in
set_option maxHeartbeats 4000000 in
theorem c_X4_forReceiver {l : Launch} (hl : l.stackTraces = false) (D : va_G) (e0 : Nat) {am : Nat → Nat} {N tf tt bf bt : Nat} {up op tr : Int32} {tn : Nat} {th : Int32} {S : xS} {a : Int32} (hN : N ≤ 60) : xC l yX4_forReceiver (.code yX4_forReceiver cX4_forReceiver 2 (some .int)) ({ frames := 2, cells := 0, slots := 0, locals := 43 } : Room) D e0 [.ref (am 0), .int a] [moW am N tf tt bf bt up op tr tn th, mdW D am S] (fun w cs => (cod (xinD N a) true true = 0 ∧ w = some (.int (S 9 (ix a))) ∧ cs = [moW am N tf tt bf bt up op tr tn 0, mdW D am S]) ∨ (cod (xinD N a) true true ≠ 0 ∧ (∃ z, w = some (.int z)) ∧ cs = [moW am N tf tt bf bt up op tr tn (nI (cod (xinD N a) true true)), mdW D am S])) (fun _ => False) := by
  refine xC_of hl (by decide +kernel) (Nat.le_of_ble_eq_true rfl) (fun G X F => ?_)
  have B : xB l D e0 "CreditLinksModel" cX4_forReceiver 2 (some .int) [] _ G X := F.base
  show G 0 [(0, .ref (am 0)), (1, .int a)] [] [moW am N tf tt bf bt up op tr tn th, mdW D am S] 0 0
  refine x_aload_n B (pc := 0) 0 dX4_forReceiver_0 rfl rfl ?_
  refine x_aload_n B (pc := 1) 0 dX4_forReceiver_1 rfl rfl ?_
  refine x_iload_n B (pc := 2) 1 dX4_forReceiver_2 rfl rfl ?_
  refine x_callV B (pc := 3) (As := [.int a]) (c_X4_isDelivery hl D e0 hN) xcl_M rfl 0 0 rfl rfl tm786 tm788 ts21 tm7 tm789 md_X4_isDelivery ⟨Nat.le_of_ble_eq_true rfl, Nat.le_of_ble_eq_true rfl⟩ [0] rfl rfl rfl (Nat.le_of_ble_eq_true rfl) (Nat.le_of_ble_eq_true rfl) (Nat.le_of_ble_eq_true rfl) dX4_forReceiver_3 (fun E hE => False.elim hE) (fun v cs1 hp => ?_)
  obtain ⟨rfl, rfl⟩ := hp
  show G 6 [(0, .ref (am 0)), (1, .int a)] [.int (bz (xinD N a)), .ref (am 0)] [moW am N tf tt bf bt up op tr tn th, mdW D am S] 0 0
  cases ha : xinD N a
  · skip
    refine x_callV B (pc := 6) (As := [.int 0]) (c_X4_asked hl D e0 (p := false)) xcl_M rfl 0 0 rfl rfl tm750 tm752 ts16 tm7 tm753 md_X4_asked ⟨Nat.le_of_ble_eq_true rfl, Nat.le_of_ble_eq_true rfl⟩ [0] rfl rfl rfl (Nat.le_of_ble_eq_true rfl) (Nat.le_of_ble_eq_true rfl) (Nat.le_of_ble_eq_true rfl) dX4_forReceiver_6 (fun E hE => False.elim hE) (fun v cs1 hp => ?_)
    obtain ⟨rfl, rfl⟩ := hp
    show G 9 [(0, .ref (am 0)), (1, .int a)] [.int 0] [moW am N tf tt bf bt up op tr tn (nI 1), mdW D am S] 0 0
    refine x_if_eq B (pc := 9) 21 dX4_forReceiver_9 (by decide) (fun h9 => ?_) (fun h9 => absurd (by decide) h9)
    refine x_iconst B (pc := 21) 0 dX4_forReceiver_21 (by decide) ?_
    have hc : cod (xinD N a) true true = 1 := by first | (rw [ha]; rfl)
    exact x_iret F (pc := 22) rfl dX4_forReceiver_22 (Or.inr ⟨by rw [hc]; decide, ⟨_, rfl⟩, by rw [hc]⟩) (Nat.le_of_ble_eq_true rfl) (Nat.le_of_ble_eq_true rfl)
  · obtain ⟨d, hd, rfl⟩ := xinD_t ha (by omega)
    have ed : ix (nI d) = d := ix_nI (by omega)
    have hd6 : d < 60 := by omega
    refine x_callV B (pc := 6) (As := [.int 1]) (c_X4_asked hl D e0 (p := true)) xcl_M rfl 0 0 rfl rfl tm750 tm752 ts16 tm7 tm753 md_X4_asked ⟨Nat.le_of_ble_eq_true rfl, Nat.le_of_ble_eq_true rfl⟩ [0] rfl rfl rfl (Nat.le_of_ble_eq_true rfl) (Nat.le_of_ble_eq_true rfl) (Nat.le_of_ble_eq_true rfl) dX4_forReceiver_6 (fun E hE => False.elim hE) (fun v cs1 hp => ?_)
    obtain ⟨rfl, rfl⟩ := hp
    show G 9 [(0, .ref (am 0)), (1, .int (nI d))] [.int 1] [moW am N tf tt bf bt up op tr tn 0, mdW D am S] 0 0
    refine x_if_eq B (pc := 9) 21 dX4_forReceiver_9 (by decide) (fun h9 => absurd h9 (by decide)) (fun h9 => ?_)
    refine x_aload_n B (pc := 12) 0 dX4_forReceiver_12 rfl rfl ?_
    refine x_get B (pc := 13) xcl_M 0 0 9 rfl rfl (by decide) tm639 rfl rfl dX4_forReceiver_13 ?_
    refine x_iload_n B (pc := 16) 1 dX4_forReceiver_16 rfl rfl ?_
    refine x_ialdN B (pc := 17) d 1 5 hd6 (by decide) rfl rfl dX4_forReceiver_17 ?_
    refine x_goto B (pc := 18) 22 dX4_forReceiver_18 (by decide) ?_
    exact x_iret F (pc := 22) rfl dX4_forReceiver_22 (Or.inl ⟨by rw [ha]; rfl, by rw [ed], rfl⟩) (Nat.le_of_ble_eq_true rfl) (Nat.le_of_ble_eq_true rfl)

set_option maxRecDepth 100000 in
set_option maxHeartbeats 4000000 in
theorem c_X4_effects {l : Launch} (hl : l.stackTraces = false) (D : va_G) (e0 : Nat) {am : Nat → Nat} {N tf tt bf bt : Nat} {up op tr : Int32} {tn : Nat} {th : Int32} {S : xS} {a : Int32} (hN : N ≤ 60) : xC l yX4_effects (.code yX4_effects cX4_effects 2 (some .int)) ({ frames := 2, cells := 0, slots := 0, locals := 43 } : Room) D e0 [.ref (am 0), .int a] [moW am N tf tt bf bt up op tr tn th, mdW D am S] (fun w cs => (cod (xinD N a) true true = 0 ∧ w = some (.int (S 13 (ix a))) ∧ cs = [moW am N tf tt bf bt up op tr tn 0, mdW D am S]) ∨ (cod (xinD N a) true true ≠ 0 ∧ (∃ z, w = some (.int z)) ∧ cs = [moW am N tf tt bf bt up op tr tn (nI (cod (xinD N a) true true)), mdW D am S])) (fun _ => False) := by
  refine xC_of hl (by decide +kernel) (Nat.le_of_ble_eq_true rfl) (fun G X F => ?_)
  have B : xB l D e0 "CreditLinksModel" cX4_effects 2 (some .int) [] _ G X := F.base
  show G 0 [(0, .ref (am 0)), (1, .int a)] [] [moW am N tf tt bf bt up op tr tn th, mdW D am S] 0 0
  refine x_aload_n B (pc := 0) 0 dX4_effects_0 rfl rfl ?_
  refine x_aload_n B (pc := 1) 0 dX4_effects_1 rfl rfl ?_
  refine x_iload_n B (pc := 2) 1 dX4_effects_2 rfl rfl ?_
  refine x_callV B (pc := 3) (As := [.int a]) (c_X4_isDelivery hl D e0 hN) xcl_M rfl 0 0 rfl rfl tm786 tm788 ts21 tm7 tm789 md_X4_isDelivery ⟨Nat.le_of_ble_eq_true rfl, Nat.le_of_ble_eq_true rfl⟩ [0] rfl rfl rfl (Nat.le_of_ble_eq_true rfl) (Nat.le_of_ble_eq_true rfl) (Nat.le_of_ble_eq_true rfl) dX4_effects_3 (fun E hE => False.elim hE) (fun v cs1 hp => ?_)
  obtain ⟨rfl, rfl⟩ := hp
  show G 6 [(0, .ref (am 0)), (1, .int a)] [.int (bz (xinD N a)), .ref (am 0)] [moW am N tf tt bf bt up op tr tn th, mdW D am S] 0 0
  cases ha : xinD N a
  · skip
    refine x_callV B (pc := 6) (As := [.int 0]) (c_X4_asked hl D e0 (p := false)) xcl_M rfl 0 0 rfl rfl tm750 tm752 ts16 tm7 tm753 md_X4_asked ⟨Nat.le_of_ble_eq_true rfl, Nat.le_of_ble_eq_true rfl⟩ [0] rfl rfl rfl (Nat.le_of_ble_eq_true rfl) (Nat.le_of_ble_eq_true rfl) (Nat.le_of_ble_eq_true rfl) dX4_effects_6 (fun E hE => False.elim hE) (fun v cs1 hp => ?_)
    obtain ⟨rfl, rfl⟩ := hp
    show G 9 [(0, .ref (am 0)), (1, .int a)] [.int 0] [moW am N tf tt bf bt up op tr tn (nI 1), mdW D am S] 0 0
    refine x_if_eq B (pc := 9) 21 dX4_effects_9 (by decide) (fun h9 => ?_) (fun h9 => absurd (by decide) h9)
    refine x_iconst B (pc := 21) 0 dX4_effects_21 (by decide) ?_
    have hc : cod (xinD N a) true true = 1 := by first | (rw [ha]; rfl)
    exact x_iret F (pc := 22) rfl dX4_effects_22 (Or.inr ⟨by rw [hc]; decide, ⟨_, rfl⟩, by rw [hc]⟩) (Nat.le_of_ble_eq_true rfl) (Nat.le_of_ble_eq_true rfl)
  · obtain ⟨d, hd, rfl⟩ := xinD_t ha (by omega)
    have ed : ix (nI d) = d := ix_nI (by omega)
    have hd6 : d < 60 := by omega
    refine x_callV B (pc := 6) (As := [.int 1]) (c_X4_asked hl D e0 (p := true)) xcl_M rfl 0 0 rfl rfl tm750 tm752 ts16 tm7 tm753 md_X4_asked ⟨Nat.le_of_ble_eq_true rfl, Nat.le_of_ble_eq_true rfl⟩ [0] rfl rfl rfl (Nat.le_of_ble_eq_true rfl) (Nat.le_of_ble_eq_true rfl) (Nat.le_of_ble_eq_true rfl) dX4_effects_6 (fun E hE => False.elim hE) (fun v cs1 hp => ?_)
    obtain ⟨rfl, rfl⟩ := hp
    show G 9 [(0, .ref (am 0)), (1, .int (nI d))] [.int 1] [moW am N tf tt bf bt up op tr tn 0, mdW D am S] 0 0
    refine x_if_eq B (pc := 9) 21 dX4_effects_9 (by decide) (fun h9 => absurd h9 (by decide)) (fun h9 => ?_)
    refine x_aload_n B (pc := 12) 0 dX4_effects_12 rfl rfl ?_
    refine x_get B (pc := 13) xcl_M 0 0 13 rfl rfl (by decide) tm643 rfl rfl dX4_effects_13 ?_
    refine x_iload_n B (pc := 16) 1 dX4_effects_16 rfl rfl ?_
    refine x_ialdN B (pc := 17) d 1 9 hd6 (by decide) rfl rfl dX4_effects_17 ?_
    refine x_goto B (pc := 18) 22 dX4_effects_18 (by decide) ?_
    exact x_iret F (pc := 22) rfl dX4_effects_22 (Or.inl ⟨by rw [ha]; rfl, by rw [ed], rfl⟩) (Nat.le_of_ble_eq_true rfl) (Nat.le_of_ble_eq_true rfl)

set_option maxRecDepth 100000 in
set_option maxHeartbeats 4000000 in
theorem c_X4_drops {l : Launch} (hl : l.stackTraces = false) (D : va_G) (e0 : Nat) {am : Nat → Nat} {N tf tt bf bt : Nat} {up op tr : Int32} {tn : Nat} {th : Int32} {tq : List Nat} {S : xS} {td : Nat → Int32} (hT : tq.length ≤ 60) (hin : ∀ i, i < tq.length → tq.getD i 0 < 60) (htd : ∀ i, i < tq.length → td i = nI (tq.getD i 0)) : xC l yX4_drops (.code yX4_drops cX4_drops 2 none) ({ frames := 0, cells := 0, slots := 0, locals := 0 } : Room) D e0 [.ref (am 0)] [moW am N tf tt bf bt up op tr tq.length th, mdW D am S, tdW D am td] (fun w cs => w = none ∧ cs = [moW am N tf tt bf bt up 0 tr 0 th, mdW D am (clrS S tq), tdW D am td]) (fun _ => False) := by
  refine xC_of hl (by decide +kernel) (Nat.le_of_ble_eq_true rfl) (fun G X F => ?_)
  have B : xB l D e0 "CreditLinksModel" cX4_drops 2 none [] _ G X := F.base
  show G 0 [(0, .ref (am 0))] [] [moW am N tf tt bf bt up op tr tq.length th, mdW D am S, tdW D am td] 0 0
  refine x_iconst B (pc := 0) 0 dX4_drops_0 (by decide) ?_
  refine x_val B (y := nI 0) rfl ?_
  refine x_istore_n B (pc := 1) [(1, .int (nI 0)), (0, .ref (am 0))] dX4_drops_1 rfl (by decide) rfl ?_
  have hloop2 : ∀ (fu : Nat) (i : Nat), i ≤ tq.length → tq.length + 1 ≤ i + fu → G 2 [(1, .int (nI i)), (0, .ref (am 0))] [] [moW am N tf tt bf bt up op tr tq.length th, mdW D am (clrS S (tq.take i)), tdW D am td] 0 0 := by
    intro fu
    induction fu with
    | zero =>
      intro i hi hfu
      omega
    | succ fu ih =>
      intro i hi hfu
      refine x_iload_n B (pc := 2) 0 dX4_drops_2 rfl rfl ?_
      refine x_aload_n B (pc := 3) 1 dX4_drops_3 rfl rfl ?_
      refine x_get B (pc := 4) (v := .int (nI tq.length)) xcl_M 0 0 26 rfl rfl (by decide) tm656 rfl rfl dX4_drops_4 ?_
      refine x_icmp_ge B (pc := 7) 28 dX4_drops_7 (by decide) (fun h10 => ?_) (fun h10 => ?_)
      · skip
        have hge : i = tq.length := by
          have := (nI_leI (by omega) (by omega)).mp h10
          omega
        subst hge
        rw [List.take_length]
        refine x_aload_n B (pc := 28) 1 dX4_drops_28 rfl rfl ?_
        refine x_iconst B (pc := 29) 0 dX4_drops_29 (by decide) ?_
        refine x_put B (pc := 30) xcl_M 0 0 26 [moW am N tf tt bf bt up op tr 0 th, mdW D am (clrS S tq), tdW D am td] rfl rfl (by decide) tm656 rfl rfl rfl rfl rfl (Nat.le_of_ble_eq_true rfl) rfl rfl dX4_drops_30 ?_
        refine x_aload_n B (pc := 33) 1 dX4_drops_33 rfl rfl ?_
        refine x_iconst B (pc := 34) 0 dX4_drops_34 (by decide) ?_
        refine x_put B (pc := 35) xcl_M 0 0 23 [moW am N tf tt bf bt up 0 tr 0 th, mdW D am (clrS S tq), tdW D am td] rfl rfl (by decide) tm653 rfl rfl rfl rfl rfl (Nat.le_of_ble_eq_true rfl) rfl rfl dX4_drops_35 ?_
        exact x_vret F (pc := 38) rfl dX4_drops_38 (⟨rfl, rfl⟩) (Nat.le_of_ble_eq_true rfl) (Nat.le_of_ble_eq_true rfl)
      · skip
        have hlt : i < tq.length := Nat.lt_of_not_le (fun e => h10 (nI_le e (by omega)))
        refine x_aload_n B (pc := 10) 1 dX4_drops_10 rfl rfl ?_
        refine x_get B (pc := 11) xcl_M 0 0 14 rfl rfl (by decide) tm644 rfl rfl dX4_drops_11 ?_
        refine x_aload_n B (pc := 14) 1 dX4_drops_14 rfl rfl ?_
        refine x_get B (pc := 15) xcl_M 0 0 25 rfl rfl (by decide) tm655 rfl rfl dX4_drops_15 ?_
        refine x_iload_n B (pc := 18) 0 dX4_drops_18 rfl rfl ?_
        refine x_ialdN B (pc := 19) i 2 0 (by omega) (by decide) rfl rfl dX4_drops_19 ?_
        refine x_val B (y := nI (tq.getD i 0)) (htd i hlt) ?_
        refine x_iconst B (pc := 20) (-1) dX4_drops_20 (by decide) ?_
        refine x_iastN B (pc := 21) (tq.getD i 0) 1 10 [moW am N tf tt bf bt up op tr tq.length th, mdW D am (xup (clrS S (tq.take i)) 14 (tq.getD i 0) (-1)), tdW D am td] (hin i hlt) (by decide) rfl rfl md_set14 rfl dX4_drops_21 ?_
        refine x_iinc B (pc := 22) 0 (nI (i + 1)) [(1, .int (nI (i + 1))), (0, .ref (am 0))] dX4_drops_22 rfl (nI_1 i) (by decide) rfl ?_
        refine x_goto B (pc := 25) 2 dX4_drops_25 (by decide) ?_
        refine x_lv B [0, 1] [(1, .int (nI (i + 1))), (0, .ref (am 0))] rfl ?_
        have e9 : xup (clrS S (tq.take i)) 14 (tq.getD i 0) (-1) = clrS S (tq.take (i + 1)) := by rw [take_snoc hlt, clrS_snoc]
        rw [e9]
        exact ih (i + 1) (by omega) (by omega)
  refine x_lv B [0, 1] [(1, .int (nI 0)), (0, .ref (am 0))] rfl ?_
  exact hloop2 (tq.length + 1) 0 (Nat.zero_le _) (by omega)

set_option maxRecDepth 100000 in
set_option maxHeartbeats 4000000 in
theorem c_X4_breakOff {l : Launch} (hl : l.stackTraces = false) (D : va_G) (e0 : Nat) {am : Nat → Nat} {N tf tt bf bt : Nat} {up op tr : Int32} {tn : Nat} {th : Int32} {tq : List Nat} {S : xS} {td : Nat → Int32} (hup : up = 0 ∨ up = 1) (hle : tf ≤ tt) (hlb : bf ≤ bt) (hT : tq.length ≤ 60) (hin : ∀ i, i < tq.length → tq.getD i 0 < 60) (htd : ∀ i, i < tq.length → td i = nI (tq.getD i 0)) : xC l yX4_breakOff (.code yX4_breakOff cX4_breakOff 2 (some .int)) ({ frames := 1, cells := 0, slots := 0, locals := 21 } : Room) D e0 [.ref (am 0)] [moW am N tf tt bf bt up op tr tq.length th, mdW D am S, tdW D am td] (fun w cs => (cod (decide (up = 1)) true true = 0 ∧ w = some (.int (nI ((tt - tf) + (bt - bf)))) ∧ cs = [moW am N tt tt bt bt 0 0 tr 0 0, mdW D am (clrS S tq), tdW D am td]) ∨ (cod (decide (up = 1)) true true ≠ 0 ∧ (∃ z, w = some (.int z)) ∧ cs = [moW am N tf tt bf bt up op tr tq.length (nI (cod (decide (up = 1)) true true)), mdW D am S, tdW D am td])) (fun _ => False) := by
  refine xC_of hl (by decide +kernel) (Nat.le_of_ble_eq_true rfl) (fun G X F => ?_)
  have B : xB l D e0 "CreditLinksModel" cX4_breakOff 2 (some .int) [] _ G X := F.base
  show G 0 [(0, .ref (am 0))] [] [moW am N tf tt bf bt up op tr tq.length th, mdW D am S, tdW D am td] 0 0
  rcases hup with rfl | rfl
  · skip
    refine x_aload_n B (pc := 0) 0 dX4_breakOff_0 rfl rfl ?_
    refine x_aload_n B (pc := 1) 0 dX4_breakOff_1 rfl rfl ?_
    refine x_get B (pc := 2) (v := .int 0) xcl_M 0 0 22 rfl rfl (by decide) tm652 rfl rfl dX4_breakOff_2 ?_
    refine x_callV B (pc := 5) (As := [.int 0]) (c_X4_asked hl D e0 (p := false)) xcl_M rfl 0 0 rfl rfl tm750 tm752 ts16 tm7 tm753 md_X4_asked ⟨Nat.le_of_ble_eq_true rfl, Nat.le_of_ble_eq_true rfl⟩ [0] rfl rfl rfl (Nat.le_of_ble_eq_true rfl) (Nat.le_of_ble_eq_true rfl) (Nat.le_of_ble_eq_true rfl) dX4_breakOff_5 (fun E hE => False.elim hE) (fun v cs1 hp => ?_)
    obtain ⟨rfl, rfl⟩ := hp
    show G 8 [(0, .ref (am 0))] [.int 0] [moW am N tf tt bf bt 0 op tr tq.length (nI 1), mdW D am S, tdW D am td] 0 0
    refine x_if_ne B (pc := 8) 13 dX4_breakOff_8 (by decide) (fun h8 => absurd (by decide) h8) (fun h8 => ?_)
    refine x_iconst B (pc := 11) 0 dX4_breakOff_11 (by decide) ?_
    have hc : cod (decide ((0 : Int32) = 1)) true true = 1 := by first | rfl
    exact x_iret F (pc := 12) rfl dX4_breakOff_12 (Or.inr ⟨by rw [hc]; decide, ⟨_, rfl⟩, by rw [hc]⟩) (Nat.le_of_ble_eq_true rfl) (Nat.le_of_ble_eq_true rfl)
  · skip
    refine x_aload_n B (pc := 0) 0 dX4_breakOff_0 rfl rfl ?_
    refine x_aload_n B (pc := 1) 0 dX4_breakOff_1 rfl rfl ?_
    refine x_get B (pc := 2) (v := .int 1) xcl_M 0 0 22 rfl rfl (by decide) tm652 rfl rfl dX4_breakOff_2 ?_
    refine x_callV B (pc := 5) (As := [.int 1]) (c_X4_asked hl D e0 (p := true)) xcl_M rfl 0 0 rfl rfl tm750 tm752 ts16 tm7 tm753 md_X4_asked ⟨Nat.le_of_ble_eq_true rfl, Nat.le_of_ble_eq_true rfl⟩ [0] rfl rfl rfl (Nat.le_of_ble_eq_true rfl) (Nat.le_of_ble_eq_true rfl) (Nat.le_of_ble_eq_true rfl) dX4_breakOff_5 (fun E hE => False.elim hE) (fun v cs1 hp => ?_)
    obtain ⟨rfl, rfl⟩ := hp
    show G 8 [(0, .ref (am 0))] [.int 1] [moW am N tf tt bf bt 1 op tr tq.length 0, mdW D am S, tdW D am td] 0 0
    refine x_if_ne B (pc := 8) 13 dX4_breakOff_8 (by decide) (fun h8 => ?_) (fun h8 => absurd h8 (by decide))
    refine x_aload_n B (pc := 13) 0 dX4_breakOff_13 rfl rfl ?_
    refine x_get B (pc := 14) (v := .int (nI tt)) xcl_M 0 0 18 rfl rfl (by decide) tm648 rfl rfl dX4_breakOff_14 ?_
    refine x_aload_n B (pc := 17) 0 dX4_breakOff_17 rfl rfl ?_
    refine x_get B (pc := 18) (v := .int (nI tf)) xcl_M 0 0 17 rfl rfl (by decide) tm647 rfl rfl dX4_breakOff_18 ?_
    refine x_isub B (pc := 21) dX4_breakOff_21 ?_
    refine x_val B (y := nI (tt - tf)) (pk_sub hle) ?_
    refine x_aload_n B (pc := 22) 0 dX4_breakOff_22 rfl rfl ?_
    refine x_get B (pc := 23) (v := .int (nI bt)) xcl_M 0 0 21 rfl rfl (by decide) tm651 rfl rfl dX4_breakOff_23 ?_
    refine x_iadd B (pc := 26) dX4_breakOff_26 ?_
    refine x_val B (y := nI ((tt - tf) + bt)) (nI_add _ _) ?_
    refine x_aload_n B (pc := 27) 0 dX4_breakOff_27 rfl rfl ?_
    refine x_get B (pc := 28) (v := .int (nI bf)) xcl_M 0 0 20 rfl rfl (by decide) tm650 rfl rfl dX4_breakOff_28 ?_
    refine x_isub B (pc := 31) dX4_breakOff_31 ?_
    refine x_val B (y := nI ((tt - tf) + (bt - bf))) (by rw [pk_sub (show bf ≤ (tt - tf) + bt by omega)]; exact congrArg nI (by omega)) ?_
    refine x_istore_n B (pc := 32) [(1, .int (nI ((tt - tf) + (bt - bf)))), (0, .ref (am 0))] dX4_breakOff_32 rfl (by decide) rfl ?_
    refine x_aload_n B (pc := 33) 1 dX4_breakOff_33 rfl rfl ?_
    refine x_aload_n B (pc := 34) 1 dX4_breakOff_34 rfl rfl ?_
    refine x_get B (pc := 35) (v := .int (nI tt)) xcl_M 0 0 18 rfl rfl (by decide) tm648 rfl rfl dX4_breakOff_35 ?_
    refine x_put B (pc := 38) xcl_M 0 0 17 [moW am N tt tt bf bt 1 op tr tq.length 0, mdW D am S, tdW D am td] rfl rfl (by decide) tm647 rfl rfl rfl rfl rfl (Nat.le_of_ble_eq_true rfl) rfl rfl dX4_breakOff_38 ?_
    refine x_aload_n B (pc := 41) 1 dX4_breakOff_41 rfl rfl ?_
    refine x_aload_n B (pc := 42) 1 dX4_breakOff_42 rfl rfl ?_
    refine x_get B (pc := 43) (v := .int (nI bt)) xcl_M 0 0 21 rfl rfl (by decide) tm651 rfl rfl dX4_breakOff_43 ?_
    refine x_put B (pc := 46) xcl_M 0 0 20 [moW am N tt tt bt bt 1 op tr tq.length 0, mdW D am S, tdW D am td] rfl rfl (by decide) tm650 rfl rfl rfl rfl rfl (Nat.le_of_ble_eq_true rfl) rfl rfl dX4_breakOff_46 ?_
    refine x_aload_n B (pc := 49) 1 dX4_breakOff_49 rfl rfl ?_
    refine x_iconst B (pc := 50) 0 dX4_breakOff_50 (by decide) ?_
    refine x_put B (pc := 51) xcl_M 0 0 22 [moW am N tt tt bt bt 0 op tr tq.length 0, mdW D am S, tdW D am td] rfl rfl (by decide) tm652 rfl rfl rfl rfl rfl (Nat.le_of_ble_eq_true rfl) rfl rfl dX4_breakOff_51 ?_
    refine x_aload_n B (pc := 54) 1 dX4_breakOff_54 rfl rfl ?_
    refine x_callV B (pc := 55) (As := []) (c_X4_drops hl D e0 (tn := 0) hT hin htd) xcl_M rfl 0 0 rfl rfl tm830 tm832 ts24 tm7 tm833 md_X4_drops ⟨Nat.le_of_ble_eq_true rfl, Nat.le_of_ble_eq_true rfl⟩ [0, 1, 2] rfl rfl rfl (Nat.le_of_ble_eq_true rfl) (Nat.le_of_ble_eq_true rfl) (Nat.le_of_ble_eq_true rfl) dX4_breakOff_55 (fun E hE => False.elim hE) (fun v cs1 hp => ?_)
    obtain ⟨rfl, rfl⟩ := hp
    show G 58 [(1, .int (nI ((tt - tf) + (bt - bf)))), (0, .ref (am 0))] [] [moW am N tt tt bt bt 0 0 tr 0 0, mdW D am (clrS S tq), tdW D am td] 0 0
    refine x_iload_n B (pc := 58) 0 dX4_breakOff_58 rfl rfl ?_
    exact x_iret F (pc := 59) rfl dX4_breakOff_59 (Or.inl ⟨rfl, rfl, rfl⟩) (Nat.le_of_ble_eq_true rfl) (Nat.le_of_ble_eq_true rfl)

set_option maxRecDepth 100000 in
set_option maxHeartbeats 4000000 in
theorem c_X4_isSentAnew {l : Launch} (hl : l.stackTraces = false) (D : va_G) (e0 : Nat) {am : Nat → Nat} {N tf tt bf bt : Nat} {up op tr : Int32} {tn : Nat} {th : Int32} {S : xS} {d : Nat} (hd : d < 60) (h9 : (S 9 d = 0 ∨ S 9 d = 1 ∨ S 9 d = 2 ∨ S 9 d = 3 ∨ S 9 d = 4)) : xC l yX4_isSentAnew (.code yX4_isSentAnew cX4_isSentAnew 2 (some .boolean)) ({ frames := 0, cells := 0, slots := 0, locals := 0 } : Room) D e0 [.ref (am 0), .int (nI d)] [moW am N tf tt bf bt up op tr tn th, mdW D am S] (fun v cs => v = some (.int (aAnew S d)) ∧ cs = [moW am N tf tt bf bt up op tr tn th, mdW D am S]) (fun _ => False) := by
  refine xC_of hl (by decide +kernel) (Nat.le_of_ble_eq_true rfl) (fun G X F => ?_)
  have B : xB l D e0 "CreditLinksModel" cX4_isSentAnew 2 (some .boolean) [] _ G X := F.base
  show G 0 [(0, .ref (am 0)), (1, .int (nI d))] [] [moW am N tf tt bf bt up op tr tn th, mdW D am S] 0 0
  refine x_aload_n B (pc := 0) 0 dX4_isSentAnew_0 rfl rfl ?_
  refine x_get B (pc := 1) xcl_M 0 0 7 rfl rfl (by decide) tm637 rfl rfl dX4_isSentAnew_1 ?_
  refine x_iload_n B (pc := 4) 1 dX4_isSentAnew_4 rfl rfl ?_
  refine x_ialdN B (pc := 5) d 1 3 hd (by decide) rfl rfl dX4_isSentAnew_5 ?_
  refine x_if_ne B (pc := 6) 33 dX4_isSentAnew_6 (by decide) (fun h6 => ?_) (fun h6 => ?_)
  · skip
    refine x_iconst B (pc := 33) 0 dX4_isSentAnew_33 (by decide) ?_
    exact x_zret F (pc := 34) rfl rfl dX4_isSentAnew_34 (⟨by unfold aAnew; rw [if_neg (fun e => by first | exact h6 e.1 | (rcases e.2 with h | h | h <;> first | (rw [h16] at h; revert h; decide) | (rw [h26] at h; revert h; decide)))], rfl⟩) (Nat.le_of_ble_eq_true rfl) (Nat.le_of_ble_eq_true rfl)
  · skip
    refine x_aload_n B (pc := 9) 0 dX4_isSentAnew_9 rfl rfl ?_
    refine x_get B (pc := 10) xcl_M 0 0 9 rfl rfl (by decide) tm639 rfl rfl dX4_isSentAnew_10 ?_
    refine x_iload_n B (pc := 13) 1 dX4_isSentAnew_13 rfl rfl ?_
    refine x_ialdN B (pc := 14) d 1 5 hd (by decide) rfl rfl dX4_isSentAnew_14 ?_
    refine x_iconst B (pc := 15) 2 dX4_isSentAnew_15 (by decide) ?_
    refine x_icmp_eq B (pc := 16) 33 dX4_isSentAnew_16 (by decide) (fun h16 => ?_) (fun h16 => ?_)
    · skip
      refine x_iconst B (pc := 33) 0 dX4_isSentAnew_33 (by decide) ?_
      exact x_zret F (pc := 34) rfl rfl dX4_isSentAnew_34 (⟨by unfold aAnew; rw [if_neg (fun e => by first | exact h6 e.1 | (rcases e.2 with h | h | h <;> first | (rw [h16] at h; revert h; decide) | (rw [h26] at h; revert h; decide)))], rfl⟩) (Nat.le_of_ble_eq_true rfl) (Nat.le_of_ble_eq_true rfl)
    · skip
      refine x_aload_n B (pc := 19) 0 dX4_isSentAnew_19 rfl rfl ?_
      refine x_get B (pc := 20) xcl_M 0 0 9 rfl rfl (by decide) tm639 rfl rfl dX4_isSentAnew_20 ?_
      refine x_iload_n B (pc := 23) 1 dX4_isSentAnew_23 rfl rfl ?_
      refine x_ialdN B (pc := 24) d 1 5 hd (by decide) rfl rfl dX4_isSentAnew_24 ?_
      refine x_iconst B (pc := 25) 3 dX4_isSentAnew_25 (by decide) ?_
      refine x_icmp_eq B (pc := 26) 33 dX4_isSentAnew_26 (by decide) (fun h26 => ?_) (fun h26 => ?_)
      · skip
        refine x_iconst B (pc := 33) 0 dX4_isSentAnew_33 (by decide) ?_
        exact x_zret F (pc := 34) rfl rfl dX4_isSentAnew_34 (⟨by unfold aAnew; rw [if_neg (fun e => by first | exact h6 e.1 | (rcases e.2 with h | h | h <;> first | (rw [h16] at h; revert h; decide) | (rw [h26] at h; revert h; decide)))], rfl⟩) (Nat.le_of_ble_eq_true rfl) (Nat.le_of_ble_eq_true rfl)
      · skip
        refine x_iconst B (pc := 29) 1 dX4_isSentAnew_29 (by decide) ?_
        refine x_goto B (pc := 30) 34 dX4_isSentAnew_30 (by decide) ?_
        exact x_zret F (pc := 34) rfl rfl dX4_isSentAnew_34 (⟨by unfold aAnew; rw [if_pos ⟨h6, by rcases h9 with h | h | h | h | h; exact Or.inl h; exact Or.inr (Or.inl h); exact absurd h h16; exact absurd h h26; exact Or.inr (Or.inr h)⟩], rfl⟩) (Nat.le_of_ble_eq_true rfl) (Nat.le_of_ble_eq_true rfl)

set_option maxRecDepth 100000 in
set_option maxHeartbeats 4000000 in
theorem c_X4_wouldResend {l : Launch} (hl : l.stackTraces = false) (D : va_G) (e0 : Nat) {am : Nat → Nat} {N tf tt bf bt : Nat} {up op tr : Int32} {tn : Nat} {th : Int32} {S : xS} (hN : N ≤ 60) (h9 : ∀ d, d < N → (S 9 d = 0 ∨ S 9 d = 1 ∨ S 9 d = 2 ∨ S 9 d = 3 ∨ S 9 d = 4)) : xC l yX4_wouldResend (.code yX4_wouldResend cX4_wouldResend 3 (some .int)) ({ frames := 1, cells := 0, slots := 0, locals := 21 } : Room) D e0 [.ref (am 0)] [moW am N tf tt bf bt up op tr tn th, mdW D am S] (fun v cs => v = some (.int (wrN S N)) ∧ cs = [moW am N tf tt bf bt up op tr tn 0, mdW D am S]) (fun _ => False) := by
  refine xC_of hl (by decide +kernel) (Nat.le_of_ble_eq_true rfl) (fun G X F => ?_)
  have B : xB l D e0 "CreditLinksModel" cX4_wouldResend 3 (some .int) [] _ G X := F.base
  show G 0 [(0, .ref (am 0))] [] [moW am N tf tt bf bt up op tr tn th, mdW D am S] 0 0
  refine x_iconst B (pc := 0) 0 dX4_wouldResend_0 (by decide) ?_
  refine x_istore_n B (pc := 1) [(1, .int 0), (0, .ref (am 0))] dX4_wouldResend_1 rfl (by decide) rfl ?_
  refine x_iconst B (pc := 2) 0 dX4_wouldResend_2 (by decide) ?_
  refine x_val B (y := nI 0) rfl ?_
  refine x_istore_n B (pc := 3) [(2, .int (nI 0)), (1, .int 0), (0, .ref (am 0))] dX4_wouldResend_3 rfl (by decide) rfl ?_
  have hloop4 : ∀ (fu : Nat) (i : Nat), i ≤ N → N + 1 ≤ i + fu → G 4 [(2, .int (nI i)), (1, .int (wrN S i)), (0, .ref (am 0))] [] [moW am N tf tt bf bt up op tr tn th, mdW D am S] 0 0 := by
    intro fu
    induction fu with
    | zero =>
      intro i hi hfu
      omega
    | succ fu ih =>
      intro i hi hfu
      refine x_iload_n B (pc := 4) 0 dX4_wouldResend_4 rfl rfl ?_
      refine x_aload_n B (pc := 5) 2 dX4_wouldResend_5 rfl rfl ?_
      refine x_get B (pc := 6) (v := .int (nI N)) xcl_M 0 0 15 rfl rfl (by decide) tm645 rfl rfl dX4_wouldResend_6 ?_
      refine x_icmp_ge B (pc := 9) 34 dX4_wouldResend_9 (by decide) (fun h12 => ?_) (fun h12 => ?_)
      · skip
        have hge : N = i := by
          have := (nI_leI (by omega) (by omega)).mp h12
          omega
        subst hge
        refine x_aload_n B (pc := 34) 2 dX4_wouldResend_34 rfl rfl ?_
        refine x_iload_n B (pc := 35) 1 dX4_wouldResend_35 rfl rfl ?_
        refine x_callV B (pc := 36) (As := [.int (wrN S N)]) (c_X4_tells hl D e0 ) xcl_M rfl 0 0 rfl rfl tm798 tm800 ts23 tm7 tm801 md_X4_tells ⟨Nat.le_of_ble_eq_true rfl, Nat.le_of_ble_eq_true rfl⟩ [0] rfl rfl rfl (Nat.le_of_ble_eq_true rfl) (Nat.le_of_ble_eq_true rfl) (Nat.le_of_ble_eq_true rfl) dX4_wouldResend_36 (fun E hE => False.elim hE) (fun v cs1 hp => ?_)
        obtain ⟨rfl, rfl⟩ := hp
        show G 39 [(2, .int (nI N)), (1, .int (wrN S N)), (0, .ref (am 0))] [.int (wrN S N)] [moW am N tf tt bf bt up op tr tn 0, mdW D am S] 0 0
        exact x_iret F (pc := 39) rfl dX4_wouldResend_39 (⟨rfl, rfl⟩) (Nat.le_of_ble_eq_true rfl) (Nat.le_of_ble_eq_true rfl)
      · skip
        have hlt : i < N := Nat.lt_of_not_le (fun e => h12 (nI_le e (by omega)))
        refine x_iload_n B (pc := 12) 1 dX4_wouldResend_12 rfl rfl ?_
        refine x_aload_n B (pc := 13) 2 dX4_wouldResend_13 rfl rfl ?_
        refine x_iload_n B (pc := 14) 0 dX4_wouldResend_14 rfl rfl ?_
        refine x_callV B (pc := 15) (As := [.int (nI i)]) (c_X4_isSentAnew hl D e0 (by omega) (h9 i hlt)) xcl_M rfl 0 0 rfl rfl tm838 tm840 ts25 tm7 tm841 md_X4_isSentAnew ⟨Nat.le_of_ble_eq_true rfl, Nat.le_of_ble_eq_true rfl⟩ [0, 1] rfl rfl rfl (Nat.le_of_ble_eq_true rfl) (Nat.le_of_ble_eq_true rfl) (Nat.le_of_ble_eq_true rfl) dX4_wouldResend_15 (fun E hE => False.elim hE) (fun v cs1 hp => ?_)
        obtain ⟨rfl, rfl⟩ := hp
        show G 18 [(2, .int (nI i)), (1, .int (wrN S i)), (0, .ref (am 0))] [.int (aAnew S i), .int (wrN S i)] [moW am N tf tt bf bt up op tr tn th, mdW D am S] 0 0
        refine x_if_eq B (pc := 18) 25 dX4_wouldResend_18 (by decide) (fun h18 => ?_) (fun h18 => ?_)
        · skip
          refine x_iconst B (pc := 25) 0 dX4_wouldResend_25 (by decide) ?_
          refine x_iadd B (pc := 26) dX4_wouldResend_26 ?_
          refine x_istore_n B (pc := 27) [(1, .int ((wrN S i) + 0)), (2, .int (nI i)), (0, .ref (am 0))] dX4_wouldResend_27 rfl (by decide) rfl ?_
          refine x_iinc B (pc := 28) 1 (nI (i + 1)) [(2, .int (nI (i + 1))), (1, .int ((wrN S i) + 0)), (0, .ref (am 0))] dX4_wouldResend_28 rfl (nI_1 i) (by decide) rfl ?_
          refine x_goto B (pc := 31) 4 dX4_wouldResend_31 (by decide) ?_
          refine x_lv B [0, 1, 2] [(2, .int (nI (i + 1))), (1, .int ((wrN S i) + 0)), (0, .ref (am 0))] rfl ?_
          have e9 : wrN S i + 0 = wrN S (i + 1) := by show _ = wrN S i + aAnew S i; rw [h18]
          rw [e9]
          exact ih (i + 1) (by omega) (by omega)
        · skip
          refine x_iconst B (pc := 21) 1 dX4_wouldResend_21 (by decide) ?_
          refine x_goto B (pc := 22) 26 dX4_wouldResend_22 (by decide) ?_
          refine x_iadd B (pc := 26) dX4_wouldResend_26 ?_
          refine x_istore_n B (pc := 27) [(1, .int ((wrN S i) + 1)), (2, .int (nI i)), (0, .ref (am 0))] dX4_wouldResend_27 rfl (by decide) rfl ?_
          refine x_iinc B (pc := 28) 1 (nI (i + 1)) [(2, .int (nI (i + 1))), (1, .int ((wrN S i) + 1)), (0, .ref (am 0))] dX4_wouldResend_28 rfl (nI_1 i) (by decide) rfl ?_
          refine x_goto B (pc := 31) 4 dX4_wouldResend_31 (by decide) ?_
          refine x_lv B [0, 1, 2] [(2, .int (nI (i + 1))), (1, .int ((wrN S i) + 1)), (0, .ref (am 0))] rfl ?_
          have e9 : wrN S i + 1 = wrN S (i + 1) := by show _ = wrN S i + aAnew S i; rw [(aAnew_01 S i).resolve_left h18]
          rw [e9]
          exact ih (i + 1) (by omega) (by omega)
  refine x_lv B [0, 1, 2] [(2, .int (nI 0)), (1, .int 0), (0, .ref (am 0))] rfl ?_
  exact hloop4 (N + 1) 0 (Nat.zero_le _) (by omega)

set_option maxRecDepth 100000 in
set_option maxHeartbeats 4000000 in
theorem c_X4_isUp {l : Launch} (hl : l.stackTraces = false) (D : va_G) (e0 : Nat) {am : Nat → Nat} {N tf tt bf bt : Nat} {up op tr : Int32} {tn : Nat} {th : Int32} (hup : up = 0 ∨ up = 1) : xC l yX4_isUp (.code yX4_isUp cX4_isUp 1 (some .boolean)) ({ frames := 0, cells := 0, slots := 0, locals := 0 } : Room) D e0 [.ref (am 0)] [moW am N tf tt bf bt up op tr tn th] (fun v cs => v = some (.int up) ∧ cs = [moW am N tf tt bf bt up op tr tn 0]) (fun _ => False) := by
  refine xC_of hl (by decide +kernel) (Nat.le_of_ble_eq_true rfl) (fun G X F => ?_)
  have B : xB l D e0 "CreditLinksModel" cX4_isUp 1 (some .boolean) [] _ G X := F.base
  show G 0 [(0, .ref (am 0))] [] [moW am N tf tt bf bt up op tr tn th] 0 0
  refine x_aload_n B (pc := 0) 0 dX4_isUp_0 rfl rfl ?_
  refine x_iconst B (pc := 1) 0 dX4_isUp_1 (by decide) ?_
  refine x_put B (pc := 2) xcl_M 0 0 27 [moW am N tf tt bf bt up op tr tn 0] rfl rfl (by decide) tm657 rfl rfl rfl rfl rfl (Nat.le_of_ble_eq_true rfl) rfl rfl dX4_isUp_2 ?_
  refine x_aload_n B (pc := 5) 0 dX4_isUp_5 rfl rfl ?_
  refine x_get B (pc := 6) (v := .int up) xcl_M 0 0 22 rfl rfl (by decide) tm652 rfl rfl dX4_isUp_6 ?_
  exact x_zret F (pc := 9) rfl (by rcases hup with rfl | rfl <;> rfl) dX4_isUp_9 (⟨rfl, rfl⟩) (Nat.le_of_ble_eq_true rfl) (Nat.le_of_ble_eq_true rfl)

set_option maxRecDepth 100000 in
set_option maxHeartbeats 4000000 in
theorem c_X4_begin {l : Launch} (hl : l.stackTraces = false) (D : va_G) (e0 : Nat) {am : Nat → Nat} {N tf tt bf bt : Nat} {up op tr : Int32} {tn : Nat} {th : Int32} (hup : up = 0 ∨ up = 1) (hop : op = 0 ∨ op = 1) : xC l yX4_begin (.code yX4_begin cX4_begin 1 (some .int)) ({ frames := 1, cells := 0, slots := 0, locals := 21 } : Room) D e0 [.ref (am 0)] [moW am N tf tt bf bt up op tr tn th] (fun w cs => (cod (decide (up = 1) && decide (op = 0)) true true = 0 ∧ w = some (.int (tr + 1)) ∧ cs = [moW am N tf tt bf bt up 1 (tr + 1) tn 0]) ∨ (cod (decide (up = 1) && decide (op = 0)) true true ≠ 0 ∧ (∃ z, w = some (.int z)) ∧ cs = [moW am N tf tt bf bt up op tr tn (nI (cod (decide (up = 1) && decide (op = 0)) true true))])) (fun _ => False) := by
  refine xC_of hl (by decide +kernel) (Nat.le_of_ble_eq_true rfl) (fun G X F => ?_)
  have B : xB l D e0 "CreditLinksModel" cX4_begin 1 (some .int) [] _ G X := F.base
  show G 0 [(0, .ref (am 0))] [] [moW am N tf tt bf bt up op tr tn th] 0 0
  rcases hup with rfl | rfl
  · skip
    refine x_aload_n B (pc := 0) 0 dX4_begin_0 rfl rfl ?_
    refine x_aload_n B (pc := 1) 0 dX4_begin_1 rfl rfl ?_
    refine x_get B (pc := 2) (v := .int 0) xcl_M 0 0 22 rfl rfl (by decide) tm652 rfl rfl dX4_begin_2 ?_
    refine x_if_eq B (pc := 5) 19 dX4_begin_5 (by decide) (fun h5 => ?_) (fun h5 => absurd (by decide) h5)
    refine x_iconst B (pc := 19) 0 dX4_begin_19 (by decide) ?_
    refine x_callV B (pc := 20) (As := [.int 0]) (c_X4_asked hl D e0 (p := false)) xcl_M rfl 0 0 rfl rfl tm750 tm752 ts16 tm7 tm753 md_X4_asked ⟨Nat.le_of_ble_eq_true rfl, Nat.le_of_ble_eq_true rfl⟩ [0] rfl rfl rfl (Nat.le_of_ble_eq_true rfl) (Nat.le_of_ble_eq_true rfl) (Nat.le_of_ble_eq_true rfl) dX4_begin_20 (fun E hE => False.elim hE) (fun v cs1 hp => ?_)
    obtain ⟨rfl, rfl⟩ := hp
    show G 23 [(0, .ref (am 0))] [.int 0] [moW am N tf tt bf bt 0 op tr tn (nI 1)] 0 0
    refine x_if_ne B (pc := 23) 28 dX4_begin_23 (by decide) (fun h23 => absurd (by decide) h23) (fun h23 => ?_)
    refine x_iconst B (pc := 26) 0 dX4_begin_26 (by decide) ?_
    have hc : cod (decide ((0 : Int32) = 1) && decide (op = 0)) true true = 1 := by first | rfl
    exact x_iret F (pc := 27) rfl dX4_begin_27 (Or.inr ⟨by rw [hc]; decide, ⟨_, rfl⟩, by rw [hc]⟩) (Nat.le_of_ble_eq_true rfl) (Nat.le_of_ble_eq_true rfl)
  · skip
    refine x_aload_n B (pc := 0) 0 dX4_begin_0 rfl rfl ?_
    refine x_aload_n B (pc := 1) 0 dX4_begin_1 rfl rfl ?_
    refine x_get B (pc := 2) (v := .int 1) xcl_M 0 0 22 rfl rfl (by decide) tm652 rfl rfl dX4_begin_2 ?_
    refine x_if_eq B (pc := 5) 19 dX4_begin_5 (by decide) (fun h5 => absurd h5 (by decide)) (fun h5 => ?_)
    rcases hop with rfl | rfl
    · skip
      refine x_aload_n B (pc := 8) 0 dX4_begin_8 rfl rfl ?_
      refine x_get B (pc := 9) (v := .int 0) xcl_M 0 0 23 rfl rfl (by decide) tm653 rfl rfl dX4_begin_9 ?_
      refine x_if_ne B (pc := 12) 19 dX4_begin_12 (by decide) (fun h12 => absurd (by decide) h12) (fun h12 => ?_)
      refine x_iconst B (pc := 15) 1 dX4_begin_15 (by decide) ?_
      refine x_goto B (pc := 16) 20 dX4_begin_16 (by decide) ?_
      refine x_callV B (pc := 20) (As := [.int 1]) (c_X4_asked hl D e0 (p := true)) xcl_M rfl 0 0 rfl rfl tm750 tm752 ts16 tm7 tm753 md_X4_asked ⟨Nat.le_of_ble_eq_true rfl, Nat.le_of_ble_eq_true rfl⟩ [0] rfl rfl rfl (Nat.le_of_ble_eq_true rfl) (Nat.le_of_ble_eq_true rfl) (Nat.le_of_ble_eq_true rfl) dX4_begin_20 (fun E hE => False.elim hE) (fun v cs1 hp => ?_)
      obtain ⟨rfl, rfl⟩ := hp
      show G 23 [(0, .ref (am 0))] [.int 1] [moW am N tf tt bf bt 1 0 tr tn 0] 0 0
      refine x_if_ne B (pc := 23) 28 dX4_begin_23 (by decide) (fun h23 => ?_) (fun h23 => absurd h23 (by decide))
      refine x_aload_n B (pc := 28) 0 dX4_begin_28 rfl rfl ?_
      refine x_iconst B (pc := 29) 1 dX4_begin_29 (by decide) ?_
      refine x_put B (pc := 30) xcl_M 0 0 23 [moW am N tf tt bf bt 1 1 tr tn 0] rfl rfl (by decide) tm653 rfl rfl rfl rfl rfl (Nat.le_of_ble_eq_true rfl) rfl rfl dX4_begin_30 ?_
      refine x_aload_n B (pc := 33) 0 dX4_begin_33 rfl rfl ?_
      refine x_dup B (pc := 34) dX4_begin_34 rfl ?_
      refine x_get B (pc := 35) (v := .int tr) xcl_M 0 0 24 rfl rfl (by decide) tm654 rfl rfl dX4_begin_35 ?_
      refine x_iconst B (pc := 38) 1 dX4_begin_38 (by decide) ?_
      refine x_iadd B (pc := 39) dX4_begin_39 ?_
      refine x_put B (pc := 40) xcl_M 0 0 24 [moW am N tf tt bf bt 1 1 (tr + 1) tn 0] rfl rfl (by decide) tm654 rfl rfl rfl rfl rfl (Nat.le_of_ble_eq_true rfl) rfl rfl dX4_begin_40 ?_
      refine x_aload_n B (pc := 43) 0 dX4_begin_43 rfl rfl ?_
      refine x_get B (pc := 44) (v := .int (tr + 1)) xcl_M 0 0 24 rfl rfl (by decide) tm654 rfl rfl dX4_begin_44 ?_
      exact x_iret F (pc := 47) rfl dX4_begin_47 (Or.inl ⟨rfl, rfl, rfl⟩) (Nat.le_of_ble_eq_true rfl) (Nat.le_of_ble_eq_true rfl)
    · skip
      refine x_aload_n B (pc := 8) 0 dX4_begin_8 rfl rfl ?_
      refine x_get B (pc := 9) (v := .int 1) xcl_M 0 0 23 rfl rfl (by decide) tm653 rfl rfl dX4_begin_9 ?_
      refine x_if_ne B (pc := 12) 19 dX4_begin_12 (by decide) (fun h12 => ?_) (fun h12 => absurd h12 (by decide))
      refine x_iconst B (pc := 19) 0 dX4_begin_19 (by decide) ?_
      refine x_callV B (pc := 20) (As := [.int 0]) (c_X4_asked hl D e0 (p := false)) xcl_M rfl 0 0 rfl rfl tm750 tm752 ts16 tm7 tm753 md_X4_asked ⟨Nat.le_of_ble_eq_true rfl, Nat.le_of_ble_eq_true rfl⟩ [0] rfl rfl rfl (Nat.le_of_ble_eq_true rfl) (Nat.le_of_ble_eq_true rfl) (Nat.le_of_ble_eq_true rfl) dX4_begin_20 (fun E hE => False.elim hE) (fun v cs1 hp => ?_)
      obtain ⟨rfl, rfl⟩ := hp
      show G 23 [(0, .ref (am 0))] [.int 0] [moW am N tf tt bf bt 1 1 tr tn (nI 1)] 0 0
      refine x_if_ne B (pc := 23) 28 dX4_begin_23 (by decide) (fun h23 => absurd (by decide) h23) (fun h23 => ?_)
      refine x_iconst B (pc := 26) 0 dX4_begin_26 (by decide) ?_
      have hc : cod (decide ((1 : Int32) = 1) && decide ((1 : Int32) = 0)) true true = 1 := by first | rfl
      exact x_iret F (pc := 27) rfl dX4_begin_27 (Or.inr ⟨by rw [hc]; decide, ⟨_, rfl⟩, by rw [hc]⟩) (Nat.le_of_ble_eq_true rfl) (Nat.le_of_ble_eq_true rfl)

set_option maxRecDepth 100000 in
set_option maxHeartbeats 4000000 in
theorem c_X4_tell {l : Launch} (hl : l.stackTraces = false) (D : va_G) (e0 : Nat) {am : Nat → Nat} {N tf tt bf bt : Nat} {up op tr : Int32} {tn : Nat} {th : Int32} {tq : List Nat} {S : xS} {td : Nat → Int32} {a b : Int32} (hop : op = 0 ∨ op = 1) (hN : N ≤ 60) (hT : cod (xinD N a) (xinB 0 2 b) (decide (op = 1) && (decide (S 9 (ix a) = 2) && decide (S 14 (ix a) = -1))) = 0 → tq.length < 60) (htd : ∀ i, i < tq.length → td i = nI (tq.getD i 0)) : xC l yX4_tell (.code yX4_tell cX4_tell 4 (some .int)) ({ frames := 2, cells := 0, slots := 0, locals := 43 } : Room) D e0 [.ref (am 0), .int a, .int b] [moW am N tf tt bf bt up op tr tq.length th, mdW D am S, tdW D am td] (fun w cs => (cod (xinD N a) (xinB 0 2 b) (decide (op = 1) && (decide (S 9 (ix a) = 2) && decide (S 14 (ix a) = -1))) = 0 ∧ w = some (.int (nI (tq.length + 1))) ∧ ∃ td1, (∀ i, i < (tq ++ [ix a]).length → td1 i = nI ((tq ++ [ix a]).getD i 0)) ∧ cs = [moW am N tf tt bf bt up op tr (tq.length + 1) 0, mdW D am (xup S 14 (ix a) b), tdW D am td1]) ∨ (cod (xinD N a) (xinB 0 2 b) (decide (op = 1) && (decide (S 9 (ix a) = 2) && decide (S 14 (ix a) = -1))) ≠ 0 ∧ (∃ z, w = some (.int z)) ∧ cs = [moW am N tf tt bf bt up op tr tq.length (nI (cod (xinD N a) (xinB 0 2 b) (decide (op = 1) && (decide (S 9 (ix a) = 2) && decide (S 14 (ix a) = -1))))), mdW D am S, tdW D am td])) (fun _ => False) := by
  refine xC_of hl (by decide +kernel) (Nat.le_of_ble_eq_true rfl) (fun G X F => ?_)
  have B : xB l D e0 "CreditLinksModel" cX4_tell 4 (some .int) [] _ G X := F.base
  show G 0 [(0, .ref (am 0)), (1, .int a), (2, .int b)] [] [moW am N tf tt bf bt up op tr tq.length th, mdW D am S, tdW D am td] 0 0
  refine x_aload_n B (pc := 0) 0 dX4_tell_0 rfl rfl ?_
  refine x_iload_n B (pc := 1) 1 dX4_tell_1 rfl rfl ?_
  refine x_callV B (pc := 2) (As := [.int a]) (c_X4_isDelivery hl D e0 hN) xcl_M rfl 0 0 rfl rfl tm786 tm788 ts21 tm7 tm789 md_X4_isDelivery ⟨Nat.le_of_ble_eq_true rfl, Nat.le_of_ble_eq_true rfl⟩ [0] rfl rfl rfl (Nat.le_of_ble_eq_true rfl) (Nat.le_of_ble_eq_true rfl) (Nat.le_of_ble_eq_true rfl) dX4_tell_2 (fun E hE => False.elim hE) (fun v cs1 hp => ?_)
  obtain ⟨rfl, rfl⟩ := hp
  show G 5 [(0, .ref (am 0)), (1, .int a), (2, .int b)] [.int (bz (xinD N a))] [moW am N tf tt bf bt up op tr tq.length th, mdW D am S, tdW D am td] 0 0
  cases ha : xinD N a
  · skip
    refine x_istore_n B (pc := 5) [(3, .int 0), (0, .ref (am 0)), (1, .int a), (2, .int b)] dX4_tell_5 rfl (by decide) rfl ?_
    refine x_aload_n B (pc := 6) 1 dX4_tell_6 rfl rfl ?_
    refine x_iload_n B (pc := 7) 0 dX4_tell_7 rfl rfl ?_
    refine x_iload_n B (pc := 8) 3 dX4_tell_8 rfl rfl ?_
    refine x_iconst B (pc := 9) 0 dX4_tell_9 (by decide) ?_
    refine x_iconst B (pc := 10) 2 dX4_tell_10 (by decide) ?_
    refine x_callS B (pc := 11) (As := [.int b, .int 0, .int 2]) (c_X4_in hl D e0 ) tm727 tm728 tm7 tm729 md_X4_in ⟨Nat.le_of_ble_eq_true rfl, Nat.le_of_ble_eq_true rfl⟩ [] rfl rfl rfl (Nat.le_of_ble_eq_true rfl) (Nat.le_of_ble_eq_true rfl) (Nat.le_of_ble_eq_true rfl) dX4_tell_11 (fun E hE => False.elim hE) (fun v cs1 hp => ?_)
    obtain ⟨rfl, rfl⟩ := hp
    show G 14 [(3, .int 0), (0, .ref (am 0)), (1, .int a), (2, .int b)] [.int (bz (xinB 0 2 b)), .int 0, .ref (am 0)] [moW am N tf tt bf bt up op tr tq.length th, mdW D am S, tdW D am td] 0 0
    refine x_iload_n B (pc := 14) 0 dX4_tell_14 rfl rfl ?_
    refine x_if_eq B (pc := 15) 49 dX4_tell_15 (by decide) (fun h15 => ?_) (fun h15 => absurd (by decide) h15)
    refine x_iconst B (pc := 49) 0 dX4_tell_49 (by decide) ?_
    cases hb : xinB 0 2 b
    · skip
      refine x_callV B (pc := 50) (As := [.int 0, .int 0, .int 0]) (c_X4_asked__ hl D e0 (p := false) (q := false) (r := false)) xcl_M rfl 0 0 rfl rfl tm738 tm740 ts14 tm7 tm741 md_X4_asked__ ⟨Nat.le_of_ble_eq_true rfl, Nat.le_of_ble_eq_true rfl⟩ [0] rfl rfl rfl (Nat.le_of_ble_eq_true rfl) (Nat.le_of_ble_eq_true rfl) (Nat.le_of_ble_eq_true rfl) dX4_tell_50 (fun E hE => False.elim hE) (fun v cs1 hp => ?_)
      obtain ⟨rfl, rfl⟩ := hp
      show G 53 [(3, .int 0), (0, .ref (am 0)), (1, .int a), (2, .int b)] [.int 0] [moW am N tf tt bf bt up op tr tq.length (nI 1), mdW D am S, tdW D am td] 0 0
      refine x_if_ne B (pc := 53) 58 dX4_tell_53 (by decide) (fun h53 => absurd (by decide) h53) (fun h53 => ?_)
      refine x_iconst B (pc := 56) 0 dX4_tell_56 (by decide) ?_
      have hc : cod (xinD N a) (xinB 0 2 b) (decide (op = 1) && (decide (S 9 (ix a) = 2) && decide (S 14 (ix a) = -1))) = 1 := by first | (rw [ha]; rfl) | (rw [ha, hb]; rfl) | (rw [ha, hb, ed, und_no (fun e => h32 e.1)]; rfl) | (rw [ha, hb, ed, und_no (fun e => h42 e.2)]; rfl)
      exact x_iret F (pc := 57) rfl dX4_tell_57 (Or.inr ⟨by rw [hc]; decide, ⟨_, rfl⟩, by rw [hc]⟩) (Nat.le_of_ble_eq_true rfl) (Nat.le_of_ble_eq_true rfl)
    · obtain ⟨oo, hoo1, hoo2, rfl⟩ := xinB_t hb (by decide) (by decide)
      have eo : ix (nI oo) = oo := ix_nI (by omega)
      refine x_callV B (pc := 50) (As := [.int 0, .int 1, .int 0]) (c_X4_asked__ hl D e0 (p := false) (q := true) (r := false)) xcl_M rfl 0 0 rfl rfl tm738 tm740 ts14 tm7 tm741 md_X4_asked__ ⟨Nat.le_of_ble_eq_true rfl, Nat.le_of_ble_eq_true rfl⟩ [0] rfl rfl rfl (Nat.le_of_ble_eq_true rfl) (Nat.le_of_ble_eq_true rfl) (Nat.le_of_ble_eq_true rfl) dX4_tell_50 (fun E hE => False.elim hE) (fun v cs1 hp => ?_)
      obtain ⟨rfl, rfl⟩ := hp
      show G 53 [(3, .int 0), (0, .ref (am 0)), (1, .int a), (2, .int (nI oo))] [.int 0] [moW am N tf tt bf bt up op tr tq.length (nI 1), mdW D am S, tdW D am td] 0 0
      refine x_if_ne B (pc := 53) 58 dX4_tell_53 (by decide) (fun h53 => absurd (by decide) h53) (fun h53 => ?_)
      refine x_iconst B (pc := 56) 0 dX4_tell_56 (by decide) ?_
      have hc : cod (xinD N a) (xinB 0 2 (nI oo)) (decide (op = 1) && (decide (S 9 (ix a) = 2) && decide (S 14 (ix a) = -1))) = 1 := by first | (rw [ha]; rfl) | (rw [ha, hb]; rfl) | (rw [ha, hb, ed, und_no (fun e => h32 e.1)]; rfl) | (rw [ha, hb, ed, und_no (fun e => h42 e.2)]; rfl)
      exact x_iret F (pc := 57) rfl dX4_tell_57 (Or.inr ⟨by rw [hc]; decide, ⟨_, rfl⟩, by rw [hc]⟩) (Nat.le_of_ble_eq_true rfl) (Nat.le_of_ble_eq_true rfl)
  · obtain ⟨d, hd, rfl⟩ := xinD_t ha (by omega)
    have ed : ix (nI d) = d := ix_nI (by omega)
    have hd6 : d < 60 := by omega
    refine x_istore_n B (pc := 5) [(3, .int 1), (0, .ref (am 0)), (1, .int (nI d)), (2, .int b)] dX4_tell_5 rfl (by decide) rfl ?_
    refine x_aload_n B (pc := 6) 1 dX4_tell_6 rfl rfl ?_
    refine x_iload_n B (pc := 7) 0 dX4_tell_7 rfl rfl ?_
    refine x_iload_n B (pc := 8) 3 dX4_tell_8 rfl rfl ?_
    refine x_iconst B (pc := 9) 0 dX4_tell_9 (by decide) ?_
    refine x_iconst B (pc := 10) 2 dX4_tell_10 (by decide) ?_
    refine x_callS B (pc := 11) (As := [.int b, .int 0, .int 2]) (c_X4_in hl D e0 ) tm727 tm728 tm7 tm729 md_X4_in ⟨Nat.le_of_ble_eq_true rfl, Nat.le_of_ble_eq_true rfl⟩ [] rfl rfl rfl (Nat.le_of_ble_eq_true rfl) (Nat.le_of_ble_eq_true rfl) (Nat.le_of_ble_eq_true rfl) dX4_tell_11 (fun E hE => False.elim hE) (fun v cs1 hp => ?_)
    obtain ⟨rfl, rfl⟩ := hp
    show G 14 [(3, .int 1), (0, .ref (am 0)), (1, .int (nI d)), (2, .int b)] [.int (bz (xinB 0 2 b)), .int 1, .ref (am 0)] [moW am N tf tt bf bt up op tr tq.length th, mdW D am S, tdW D am td] 0 0
    refine x_iload_n B (pc := 14) 0 dX4_tell_14 rfl rfl ?_
    refine x_if_eq B (pc := 15) 49 dX4_tell_15 (by decide) (fun h15 => absurd h15 (by decide)) (fun h15 => ?_)
    refine x_aload_n B (pc := 18) 1 dX4_tell_18 rfl rfl ?_
    rcases hop with rfl | rfl
    · skip
      refine x_get B (pc := 19) (v := .int 0) xcl_M 0 0 23 rfl rfl (by decide) tm653 rfl rfl dX4_tell_19 ?_
      refine x_if_eq B (pc := 22) 49 dX4_tell_22 (by decide) (fun h22 => ?_) (fun h22 => absurd (by decide) h22)
      refine x_iconst B (pc := 49) 0 dX4_tell_49 (by decide) ?_
      cases hb : xinB 0 2 b
      · skip
        refine x_callV B (pc := 50) (As := [.int 1, .int 0, .int 0]) (c_X4_asked__ hl D e0 (p := true) (q := false) (r := false)) xcl_M rfl 0 0 rfl rfl tm738 tm740 ts14 tm7 tm741 md_X4_asked__ ⟨Nat.le_of_ble_eq_true rfl, Nat.le_of_ble_eq_true rfl⟩ [0] rfl rfl rfl (Nat.le_of_ble_eq_true rfl) (Nat.le_of_ble_eq_true rfl) (Nat.le_of_ble_eq_true rfl) dX4_tell_50 (fun E hE => False.elim hE) (fun v cs1 hp => ?_)
        obtain ⟨rfl, rfl⟩ := hp
        show G 53 [(3, .int 1), (0, .ref (am 0)), (1, .int (nI d)), (2, .int b)] [.int 0] [moW am N tf tt bf bt up 0 tr tq.length (nI 2), mdW D am S, tdW D am td] 0 0
        refine x_if_ne B (pc := 53) 58 dX4_tell_53 (by decide) (fun h53 => absurd (by decide) h53) (fun h53 => ?_)
        refine x_iconst B (pc := 56) 0 dX4_tell_56 (by decide) ?_
        have hc : cod (xinD N (nI d)) (xinB 0 2 b) (decide ((0 : Int32) = 1) && (decide (S 9 (ix (nI d)) = 2) && decide (S 14 (ix (nI d)) = -1))) = 2 := by first | (rw [ha]; rfl) | (rw [ha, hb]; rfl) | (rw [ha, hb, ed, und_no (fun e => h32 e.1)]; rfl) | (rw [ha, hb, ed, und_no (fun e => h42 e.2)]; rfl)
        exact x_iret F (pc := 57) rfl dX4_tell_57 (Or.inr ⟨by rw [hc]; decide, ⟨_, rfl⟩, by rw [hc]⟩) (Nat.le_of_ble_eq_true rfl) (Nat.le_of_ble_eq_true rfl)
      · obtain ⟨oo, hoo1, hoo2, rfl⟩ := xinB_t hb (by decide) (by decide)
        have eo : ix (nI oo) = oo := ix_nI (by omega)
        refine x_callV B (pc := 50) (As := [.int 1, .int 1, .int 0]) (c_X4_asked__ hl D e0 (p := true) (q := true) (r := false)) xcl_M rfl 0 0 rfl rfl tm738 tm740 ts14 tm7 tm741 md_X4_asked__ ⟨Nat.le_of_ble_eq_true rfl, Nat.le_of_ble_eq_true rfl⟩ [0] rfl rfl rfl (Nat.le_of_ble_eq_true rfl) (Nat.le_of_ble_eq_true rfl) (Nat.le_of_ble_eq_true rfl) dX4_tell_50 (fun E hE => False.elim hE) (fun v cs1 hp => ?_)
        obtain ⟨rfl, rfl⟩ := hp
        show G 53 [(3, .int 1), (0, .ref (am 0)), (1, .int (nI d)), (2, .int (nI oo))] [.int 0] [moW am N tf tt bf bt up 0 tr tq.length (nI 3), mdW D am S, tdW D am td] 0 0
        refine x_if_ne B (pc := 53) 58 dX4_tell_53 (by decide) (fun h53 => absurd (by decide) h53) (fun h53 => ?_)
        refine x_iconst B (pc := 56) 0 dX4_tell_56 (by decide) ?_
        have hc : cod (xinD N (nI d)) (xinB 0 2 (nI oo)) (decide ((0 : Int32) = 1) && (decide (S 9 (ix (nI d)) = 2) && decide (S 14 (ix (nI d)) = -1))) = 3 := by first | (rw [ha]; rfl) | (rw [ha, hb]; rfl) | (rw [ha, hb, ed, und_no (fun e => h32 e.1)]; rfl) | (rw [ha, hb, ed, und_no (fun e => h42 e.2)]; rfl)
        exact x_iret F (pc := 57) rfl dX4_tell_57 (Or.inr ⟨by rw [hc]; decide, ⟨_, rfl⟩, by rw [hc]⟩) (Nat.le_of_ble_eq_true rfl) (Nat.le_of_ble_eq_true rfl)
    · skip
      refine x_get B (pc := 19) (v := .int 1) xcl_M 0 0 23 rfl rfl (by decide) tm653 rfl rfl dX4_tell_19 ?_
      refine x_if_eq B (pc := 22) 49 dX4_tell_22 (by decide) (fun h22 => absurd h22 (by decide)) (fun h22 => ?_)
      refine x_aload_n B (pc := 25) 1 dX4_tell_25 rfl rfl ?_
      refine x_get B (pc := 26) xcl_M 0 0 9 rfl rfl (by decide) tm639 rfl rfl dX4_tell_26 ?_
      refine x_iload_n B (pc := 29) 2 dX4_tell_29 rfl rfl ?_
      refine x_ialdN B (pc := 30) d 1 5 hd6 (by decide) rfl rfl dX4_tell_30 ?_
      refine x_iconst B (pc := 31) 2 dX4_tell_31 (by decide) ?_
      refine x_icmp_ne B (pc := 32) 49 dX4_tell_32 (by decide) (fun h32 => ?_) (fun h32 => ?_)
      · skip
        refine x_iconst B (pc := 49) 0 dX4_tell_49 (by decide) ?_
        cases hb : xinB 0 2 b
        · skip
          refine x_callV B (pc := 50) (As := [.int 1, .int 0, .int 0]) (c_X4_asked__ hl D e0 (p := true) (q := false) (r := false)) xcl_M rfl 0 0 rfl rfl tm738 tm740 ts14 tm7 tm741 md_X4_asked__ ⟨Nat.le_of_ble_eq_true rfl, Nat.le_of_ble_eq_true rfl⟩ [0] rfl rfl rfl (Nat.le_of_ble_eq_true rfl) (Nat.le_of_ble_eq_true rfl) (Nat.le_of_ble_eq_true rfl) dX4_tell_50 (fun E hE => False.elim hE) (fun v cs1 hp => ?_)
          obtain ⟨rfl, rfl⟩ := hp
          show G 53 [(3, .int 1), (0, .ref (am 0)), (1, .int (nI d)), (2, .int b)] [.int 0] [moW am N tf tt bf bt up 1 tr tq.length (nI 2), mdW D am S, tdW D am td] 0 0
          refine x_if_ne B (pc := 53) 58 dX4_tell_53 (by decide) (fun h53 => absurd (by decide) h53) (fun h53 => ?_)
          refine x_iconst B (pc := 56) 0 dX4_tell_56 (by decide) ?_
          have hc : cod (xinD N (nI d)) (xinB 0 2 b) (decide ((1 : Int32) = 1) && (decide (S 9 (ix (nI d)) = 2) && decide (S 14 (ix (nI d)) = -1))) = 2 := by first | (rw [ha]; rfl) | (rw [ha, hb]; rfl) | (rw [ha, hb, ed, und_no (fun e => h32 e.1)]; rfl) | (rw [ha, hb, ed, und_no (fun e => h42 e.2)]; rfl)
          exact x_iret F (pc := 57) rfl dX4_tell_57 (Or.inr ⟨by rw [hc]; decide, ⟨_, rfl⟩, by rw [hc]⟩) (Nat.le_of_ble_eq_true rfl) (Nat.le_of_ble_eq_true rfl)
        · obtain ⟨oo, hoo1, hoo2, rfl⟩ := xinB_t hb (by decide) (by decide)
          have eo : ix (nI oo) = oo := ix_nI (by omega)
          refine x_callV B (pc := 50) (As := [.int 1, .int 1, .int 0]) (c_X4_asked__ hl D e0 (p := true) (q := true) (r := false)) xcl_M rfl 0 0 rfl rfl tm738 tm740 ts14 tm7 tm741 md_X4_asked__ ⟨Nat.le_of_ble_eq_true rfl, Nat.le_of_ble_eq_true rfl⟩ [0] rfl rfl rfl (Nat.le_of_ble_eq_true rfl) (Nat.le_of_ble_eq_true rfl) (Nat.le_of_ble_eq_true rfl) dX4_tell_50 (fun E hE => False.elim hE) (fun v cs1 hp => ?_)
          obtain ⟨rfl, rfl⟩ := hp
          show G 53 [(3, .int 1), (0, .ref (am 0)), (1, .int (nI d)), (2, .int (nI oo))] [.int 0] [moW am N tf tt bf bt up 1 tr tq.length (nI 3), mdW D am S, tdW D am td] 0 0
          refine x_if_ne B (pc := 53) 58 dX4_tell_53 (by decide) (fun h53 => absurd (by decide) h53) (fun h53 => ?_)
          refine x_iconst B (pc := 56) 0 dX4_tell_56 (by decide) ?_
          have hc : cod (xinD N (nI d)) (xinB 0 2 (nI oo)) (decide ((1 : Int32) = 1) && (decide (S 9 (ix (nI d)) = 2) && decide (S 14 (ix (nI d)) = -1))) = 3 := by first | (rw [ha]; rfl) | (rw [ha, hb]; rfl) | (rw [ha, hb, ed, und_no (fun e => h32 e.1)]; rfl) | (rw [ha, hb, ed, und_no (fun e => h42 e.2)]; rfl)
          exact x_iret F (pc := 57) rfl dX4_tell_57 (Or.inr ⟨by rw [hc]; decide, ⟨_, rfl⟩, by rw [hc]⟩) (Nat.le_of_ble_eq_true rfl) (Nat.le_of_ble_eq_true rfl)
      · skip
        refine x_aload_n B (pc := 35) 1 dX4_tell_35 rfl rfl ?_
        refine x_get B (pc := 36) xcl_M 0 0 14 rfl rfl (by decide) tm644 rfl rfl dX4_tell_36 ?_
        refine x_iload_n B (pc := 39) 2 dX4_tell_39 rfl rfl ?_
        refine x_ialdN B (pc := 40) d 1 10 hd6 (by decide) rfl rfl dX4_tell_40 ?_
        refine x_iconst B (pc := 41) (-1) dX4_tell_41 (by decide) ?_
        refine x_icmp_ne B (pc := 42) 49 dX4_tell_42 (by decide) (fun h42 => ?_) (fun h42 => ?_)
        · skip
          refine x_iconst B (pc := 49) 0 dX4_tell_49 (by decide) ?_
          cases hb : xinB 0 2 b
          · skip
            refine x_callV B (pc := 50) (As := [.int 1, .int 0, .int 0]) (c_X4_asked__ hl D e0 (p := true) (q := false) (r := false)) xcl_M rfl 0 0 rfl rfl tm738 tm740 ts14 tm7 tm741 md_X4_asked__ ⟨Nat.le_of_ble_eq_true rfl, Nat.le_of_ble_eq_true rfl⟩ [0] rfl rfl rfl (Nat.le_of_ble_eq_true rfl) (Nat.le_of_ble_eq_true rfl) (Nat.le_of_ble_eq_true rfl) dX4_tell_50 (fun E hE => False.elim hE) (fun v cs1 hp => ?_)
            obtain ⟨rfl, rfl⟩ := hp
            show G 53 [(3, .int 1), (0, .ref (am 0)), (1, .int (nI d)), (2, .int b)] [.int 0] [moW am N tf tt bf bt up 1 tr tq.length (nI 2), mdW D am S, tdW D am td] 0 0
            refine x_if_ne B (pc := 53) 58 dX4_tell_53 (by decide) (fun h53 => absurd (by decide) h53) (fun h53 => ?_)
            refine x_iconst B (pc := 56) 0 dX4_tell_56 (by decide) ?_
            have hc : cod (xinD N (nI d)) (xinB 0 2 b) (decide ((1 : Int32) = 1) && (decide (S 9 (ix (nI d)) = 2) && decide (S 14 (ix (nI d)) = -1))) = 2 := by first | (rw [ha]; rfl) | (rw [ha, hb]; rfl) | (rw [ha, hb, ed, und_no (fun e => h32 e.1)]; rfl) | (rw [ha, hb, ed, und_no (fun e => h42 e.2)]; rfl)
            exact x_iret F (pc := 57) rfl dX4_tell_57 (Or.inr ⟨by rw [hc]; decide, ⟨_, rfl⟩, by rw [hc]⟩) (Nat.le_of_ble_eq_true rfl) (Nat.le_of_ble_eq_true rfl)
          · obtain ⟨oo, hoo1, hoo2, rfl⟩ := xinB_t hb (by decide) (by decide)
            have eo : ix (nI oo) = oo := ix_nI (by omega)
            refine x_callV B (pc := 50) (As := [.int 1, .int 1, .int 0]) (c_X4_asked__ hl D e0 (p := true) (q := true) (r := false)) xcl_M rfl 0 0 rfl rfl tm738 tm740 ts14 tm7 tm741 md_X4_asked__ ⟨Nat.le_of_ble_eq_true rfl, Nat.le_of_ble_eq_true rfl⟩ [0] rfl rfl rfl (Nat.le_of_ble_eq_true rfl) (Nat.le_of_ble_eq_true rfl) (Nat.le_of_ble_eq_true rfl) dX4_tell_50 (fun E hE => False.elim hE) (fun v cs1 hp => ?_)
            obtain ⟨rfl, rfl⟩ := hp
            show G 53 [(3, .int 1), (0, .ref (am 0)), (1, .int (nI d)), (2, .int (nI oo))] [.int 0] [moW am N tf tt bf bt up 1 tr tq.length (nI 3), mdW D am S, tdW D am td] 0 0
            refine x_if_ne B (pc := 53) 58 dX4_tell_53 (by decide) (fun h53 => absurd (by decide) h53) (fun h53 => ?_)
            refine x_iconst B (pc := 56) 0 dX4_tell_56 (by decide) ?_
            have hc : cod (xinD N (nI d)) (xinB 0 2 (nI oo)) (decide ((1 : Int32) = 1) && (decide (S 9 (ix (nI d)) = 2) && decide (S 14 (ix (nI d)) = -1))) = 3 := by first | (rw [ha]; rfl) | (rw [ha, hb]; rfl) | (rw [ha, hb, ed, und_no (fun e => h32 e.1)]; rfl) | (rw [ha, hb, ed, und_no (fun e => h42 e.2)]; rfl)
            exact x_iret F (pc := 57) rfl dX4_tell_57 (Or.inr ⟨by rw [hc]; decide, ⟨_, rfl⟩, by rw [hc]⟩) (Nat.le_of_ble_eq_true rfl) (Nat.le_of_ble_eq_true rfl)
        · skip
          refine x_iconst B (pc := 45) 1 dX4_tell_45 (by decide) ?_
          refine x_goto B (pc := 46) 50 dX4_tell_46 (by decide) ?_
          cases hb : xinB 0 2 b
          · skip
            refine x_callV B (pc := 50) (As := [.int 1, .int 0, .int 1]) (c_X4_asked__ hl D e0 (p := true) (q := false) (r := true)) xcl_M rfl 0 0 rfl rfl tm738 tm740 ts14 tm7 tm741 md_X4_asked__ ⟨Nat.le_of_ble_eq_true rfl, Nat.le_of_ble_eq_true rfl⟩ [0] rfl rfl rfl (Nat.le_of_ble_eq_true rfl) (Nat.le_of_ble_eq_true rfl) (Nat.le_of_ble_eq_true rfl) dX4_tell_50 (fun E hE => False.elim hE) (fun v cs1 hp => ?_)
            obtain ⟨rfl, rfl⟩ := hp
            show G 53 [(3, .int 1), (0, .ref (am 0)), (1, .int (nI d)), (2, .int b)] [.int 0] [moW am N tf tt bf bt up 1 tr tq.length (nI 2), mdW D am S, tdW D am td] 0 0
            refine x_if_ne B (pc := 53) 58 dX4_tell_53 (by decide) (fun h53 => absurd (by decide) h53) (fun h53 => ?_)
            refine x_iconst B (pc := 56) 0 dX4_tell_56 (by decide) ?_
            have hc : cod (xinD N (nI d)) (xinB 0 2 b) (decide ((1 : Int32) = 1) && (decide (S 9 (ix (nI d)) = 2) && decide (S 14 (ix (nI d)) = -1))) = 2 := by first | (rw [ha]; rfl) | (rw [ha, hb]; rfl) | (rw [ha, hb, ed, und_no (fun e => h32 e.1)]; rfl) | (rw [ha, hb, ed, und_no (fun e => h42 e.2)]; rfl)
            exact x_iret F (pc := 57) rfl dX4_tell_57 (Or.inr ⟨by rw [hc]; decide, ⟨_, rfl⟩, by rw [hc]⟩) (Nat.le_of_ble_eq_true rfl) (Nat.le_of_ble_eq_true rfl)
          · obtain ⟨oo, hoo1, hoo2, rfl⟩ := xinB_t hb (by decide) (by decide)
            have eo : ix (nI oo) = oo := ix_nI (by omega)
            refine x_callV B (pc := 50) (As := [.int 1, .int 1, .int 1]) (c_X4_asked__ hl D e0 (p := true) (q := true) (r := true)) xcl_M rfl 0 0 rfl rfl tm738 tm740 ts14 tm7 tm741 md_X4_asked__ ⟨Nat.le_of_ble_eq_true rfl, Nat.le_of_ble_eq_true rfl⟩ [0] rfl rfl rfl (Nat.le_of_ble_eq_true rfl) (Nat.le_of_ble_eq_true rfl) (Nat.le_of_ble_eq_true rfl) dX4_tell_50 (fun E hE => False.elim hE) (fun v cs1 hp => ?_)
            obtain ⟨rfl, rfl⟩ := hp
            show G 53 [(3, .int 1), (0, .ref (am 0)), (1, .int (nI d)), (2, .int (nI oo))] [.int 1] [moW am N tf tt bf bt up 1 tr tq.length 0, mdW D am S, tdW D am td] 0 0
            refine x_if_ne B (pc := 53) 58 dX4_tell_53 (by decide) (fun h53 => ?_) (fun h53 => absurd h53 (by decide))
            have hc : cod (xinD N (nI d)) (xinB 0 2 (nI oo)) (decide ((1 : Int32) = 1) && (decide (S 9 (ix (nI d)) = 2) && decide (S 14 (ix (nI d)) = -1))) = 0 := by rw [ha, hb, ed, decide_eq_true h32, decide_eq_true h42]; rfl
            have hT6 := hT hc
            refine x_aload_n B (pc := 58) 1 dX4_tell_58 rfl rfl ?_
            refine x_get B (pc := 59) xcl_M 0 0 14 rfl rfl (by decide) tm644 rfl rfl dX4_tell_59 ?_
            refine x_iload_n B (pc := 62) 2 dX4_tell_62 rfl rfl ?_
            refine x_iload_n B (pc := 63) 3 dX4_tell_63 rfl rfl ?_
            refine x_iastN B (pc := 64) d 1 10 [moW am N tf tt bf bt up 1 tr tq.length 0, mdW D am (xup S 14 d (nI oo)), tdW D am td] hd6 (by decide) rfl rfl md_set14 rfl dX4_tell_64 ?_
            refine x_aload_n B (pc := 65) 1 dX4_tell_65 rfl rfl ?_
            refine x_get B (pc := 66) xcl_M 0 0 25 rfl rfl (by decide) tm655 rfl rfl dX4_tell_66 ?_
            refine x_aload_n B (pc := 69) 1 dX4_tell_69 rfl rfl ?_
            refine x_get B (pc := 70) (v := .int (nI tq.length)) xcl_M 0 0 26 rfl rfl (by decide) tm656 rfl rfl dX4_tell_70 ?_
            refine x_iload_n B (pc := 73) 2 dX4_tell_73 rfl rfl ?_
            refine x_iastN B (pc := 74) tq.length 2 0 [moW am N tf tt bf bt up 1 tr tq.length 0, mdW D am (xup S 14 d (nI oo)), tdW D am (upd td tq.length (nI d))] hT6 (by decide) rfl rfl rfl rfl dX4_tell_74 ?_
            refine x_aload_n B (pc := 75) 1 dX4_tell_75 rfl rfl ?_
            refine x_dup B (pc := 76) dX4_tell_76 rfl ?_
            refine x_get B (pc := 77) (v := .int (nI tq.length)) xcl_M 0 0 26 rfl rfl (by decide) tm656 rfl rfl dX4_tell_77 ?_
            refine x_iconst B (pc := 80) 1 dX4_tell_80 (by decide) ?_
            refine x_iadd B (pc := 81) dX4_tell_81 ?_
            refine x_val B (y := nI (tq.length + 1)) (nI_1 _) ?_
            refine x_put B (pc := 82) xcl_M 0 0 26 [moW am N tf tt bf bt up 1 tr (tq.length + 1) 0, mdW D am (xup S 14 d (nI oo)), tdW D am (upd td tq.length (nI d))] rfl rfl (by decide) tm656 rfl rfl rfl rfl rfl (Nat.le_of_ble_eq_true rfl) rfl rfl dX4_tell_82 ?_
            refine x_aload_n B (pc := 85) 1 dX4_tell_85 rfl rfl ?_
            refine x_get B (pc := 86) (v := .int (nI (tq.length + 1))) xcl_M 0 0 26 rfl rfl (by decide) tm656 rfl rfl dX4_tell_86 ?_
            exact x_iret F (pc := 89) rfl dX4_tell_89 (Or.inl ⟨hc, rfl, _, by rw [ed]; exact td_add htd, by rw [ed]⟩) (Nat.le_of_ble_eq_true rfl) (Nat.le_of_ble_eq_true rfl)
