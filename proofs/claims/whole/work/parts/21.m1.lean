/-! the reference's world -/
def bz (p : Bool) : Int32 := bif p then 1 else 0
theorem bz_01 (p : Bool) : bz p = 0 ∨ bz p = 1 := by cases p <;> decide
def moW (am : Nat → Nat) (N tf tt bf bt : Nat) (up op tr : Int32) (tn : Nat) (th : Int32) : va_W := [(am 0, .inr (5, [.ref (am 1), .ref (am 2), .ref (am 3), .ref (am 4), .ref (am 5), .ref (am 6), .ref (am 7), .ref (am 8), .ref (am 9), .ref (am 10), .ref (am 11), .ref (am 12), .ref (am 13), .ref (am 14), .ref (am 15), .int (nI N), .ref (am 17), .int (nI tf), .int (nI tt), .ref (am 20), .int (nI bf), .int (nI bt), .int up, .int op, .int tr, .ref (am 26), .int (nI tn), .int th]))]
def mlW (D : va_G) (am : Nat → Nat) (L : xS) : va_W := [(am 1, .inl (D.1 10, 4, .inl (L 0))), (am 2, .inl (D.1 10, 4, .inl (L 1))), (am 3, .inl (D.1 10, 4, .inl (L 2))), (am 4, .inl (D.1 10, 4, .inl (L 3)))]
def mdW (D : va_G) (am : Nat → Nat) (S : xS) : va_W := [(am 5, .inl (D.1 10, 60, .inl (S 4))), (am 6, .inl (D.1 10, 60, .inl (S 5))), (am 7, .inl (D.1 10, 60, .inl (S 6))), (am 8, .inl (D.1 10, 60, .inl (S 7))), (am 9, .inl (D.1 10, 60, .inl (S 8))), (am 10, .inl (D.1 10, 60, .inl (S 9))), (am 11, .inl (D.1 10, 60, .inl (S 10))), (am 12, .inl (D.1 11, 60, .inl (S 11))), (am 13, .inl (D.1 10, 60, .inl (S 12))), (am 14, .inl (D.1 10, 60, .inl (S 13))), (am 15, .inl (D.1 10, 60, .inl (S 14)))]
def rtW (D : va_G) (am : Nat → Nat) (tg : Nat → Int32) : va_W := [(am 17, .inl (D.1 10, 2048, .inl tg))]
def rbW (D : va_G) (am : Nat → Nat) (bg : Nat → Int32) : va_W := [(am 20, .inl (D.1 10, 2048, .inl bg))]
def tdW (D : va_G) (am : Nat → Nat) (td : Nat → Int32) : va_W := [(am 26, .inl (D.1 10, 60, .inl td))]
theorem ml_set0 {D : va_G} {am : Nat → Nat} {L : xS} {j : Nat} {v : Int32} : (mlW D am L).set 0 (am 1, .inl (D.1 10, 4, .inl (upd (L 0) j v))) = mlW D am (xup L 0 j v) := rfl
theorem ml_set1 {D : va_G} {am : Nat → Nat} {L : xS} {j : Nat} {v : Int32} : (mlW D am L).set 1 (am 2, .inl (D.1 10, 4, .inl (upd (L 1) j v))) = mlW D am (xup L 1 j v) := rfl
theorem ml_set2 {D : va_G} {am : Nat → Nat} {L : xS} {j : Nat} {v : Int32} : (mlW D am L).set 2 (am 3, .inl (D.1 10, 4, .inl (upd (L 2) j v))) = mlW D am (xup L 2 j v) := rfl
theorem ml_set3 {D : va_G} {am : Nat → Nat} {L : xS} {j : Nat} {v : Int32} : (mlW D am L).set 3 (am 4, .inl (D.1 10, 4, .inl (upd (L 3) j v))) = mlW D am (xup L 3 j v) := rfl
theorem md_set4 {D : va_G} {am : Nat → Nat} {S : xS} {j : Nat} {v : Int32} : (mdW D am S).set 0 (am 5, .inl (D.1 10, 60, .inl (upd (S 4) j v))) = mdW D am (xup S 4 j v) := rfl
theorem md_set5 {D : va_G} {am : Nat → Nat} {S : xS} {j : Nat} {v : Int32} : (mdW D am S).set 1 (am 6, .inl (D.1 10, 60, .inl (upd (S 5) j v))) = mdW D am (xup S 5 j v) := rfl
theorem md_set6 {D : va_G} {am : Nat → Nat} {S : xS} {j : Nat} {v : Int32} : (mdW D am S).set 2 (am 7, .inl (D.1 10, 60, .inl (upd (S 6) j v))) = mdW D am (xup S 6 j v) := rfl
theorem md_set7 {D : va_G} {am : Nat → Nat} {S : xS} {j : Nat} {v : Int32} : (mdW D am S).set 3 (am 8, .inl (D.1 10, 60, .inl (upd (S 7) j v))) = mdW D am (xup S 7 j v) := rfl
theorem md_set8 {D : va_G} {am : Nat → Nat} {S : xS} {j : Nat} {v : Int32} : (mdW D am S).set 4 (am 9, .inl (D.1 10, 60, .inl (upd (S 8) j v))) = mdW D am (xup S 8 j v) := rfl
theorem md_set9 {D : va_G} {am : Nat → Nat} {S : xS} {j : Nat} {v : Int32} : (mdW D am S).set 5 (am 10, .inl (D.1 10, 60, .inl (upd (S 9) j v))) = mdW D am (xup S 9 j v) := rfl
theorem md_set10 {D : va_G} {am : Nat → Nat} {S : xS} {j : Nat} {v : Int32} : (mdW D am S).set 6 (am 11, .inl (D.1 10, 60, .inl (upd (S 10) j v))) = mdW D am (xup S 10 j v) := rfl
theorem md_set11 {D : va_G} {am : Nat → Nat} {S : xS} {j : Nat} {v : Int32} : (mdW D am S).set 7 (am 12, .inl (D.1 11, 60, .inl (upd (S 11) j v))) = mdW D am (xup S 11 j v) := rfl
theorem md_set12 {D : va_G} {am : Nat → Nat} {S : xS} {j : Nat} {v : Int32} : (mdW D am S).set 8 (am 13, .inl (D.1 10, 60, .inl (upd (S 12) j v))) = mdW D am (xup S 12 j v) := rfl
theorem md_set13 {D : va_G} {am : Nat → Nat} {S : xS} {j : Nat} {v : Int32} : (mdW D am S).set 9 (am 14, .inl (D.1 10, 60, .inl (upd (S 13) j v))) = mdW D am (xup S 13 j v) := rfl
theorem md_set14 {D : va_G} {am : Nat → Nat} {S : xS} {j : Nat} {v : Int32} : (mdW D am S).set 10 (am 15, .inl (D.1 10, 60, .inl (upd (S 14) j v))) = mdW D am (xup S 14 j v) := rfl
def encF (x : xFr) : Int32 := if x.1 = 2 then -1 - nI x.2.1 else nI (16 * x.2.1 + 2 * x.2.2 + x.1)
def encB (x : xFr) : Int32 := if x.1 = 3 then -1 - nI (16 * x.2.1 + x.2.2) else nI (4 * x.2.1 + x.2.2)
def mgOk (enc : xFr → Int32) (q : List xFr) (tf tt : Nat) (tg : Nat → Int32) : Prop := tt = tf + q.length ∧ q.length ≤ 2048 ∧ ∀ (i : Nat) (x : xFr), q[i]? = some x → tg ((tf + i) % 2048) = enc x
theorem mg_nil {enc : xFr → Int32} {tf : Nat} {tg : Nat → Int32} : mgOk enc [] tf tf tg := ⟨rfl, by show (0 : Nat) ≤ 2048; decide, fun i x h => by simp at h⟩
theorem mg_hd {enc : xFr → Int32} {x : xFr} {q : List xFr} {tf tt : Nat} {tg : Nat → Int32} (h : mgOk enc (x :: q) tf tt tg) : tg (tf % 2048) = enc x := h.2.2 0 x rfl
theorem mg_tl {enc : xFr → Int32} {x : xFr} {q : List xFr} {tf tt : Nat} {tg : Nat → Int32} (h : mgOk enc (x :: q) tf tt tg) : mgOk enc q (tf + 1) tt tg := by
  obtain ⟨h1, h2, h3⟩ := h
  rw [List.length_cons] at h1 h2
  refine ⟨by omega, by omega, fun i y hy => ?_⟩
  have := h3 (i + 1) y (by simpa using hy)
  rw [show tf + 1 + i = tf + (i + 1) by omega]
  exact this
theorem mg_add {enc : xFr → Int32} {x : xFr} {v : Int32} {q : List xFr} {tf tt : Nat} {tg : Nat → Int32} (h : mgOk enc q tf tt tg) (hl : q.length < 2048) (hv : v = enc x) : mgOk enc (q ++ [x]) tf (tt + 1) (upd tg (tt % 2048) v) := by
  obtain ⟨h1, h2, h3⟩ := h
  subst hv
  refine ⟨by rw [List.length_append]; show _ = tf + (q.length + 1); omega, by rw [List.length_append]; show q.length + 1 ≤ _; omega, fun i y hy => ?_⟩
  by_cases hi : i = q.length
  · subst hi
    rw [List.getElem?_append_right (Nat.le_refl _), Nat.sub_self] at hy
    cases Option.some.inj hy
    rw [← h1]
    simp [upd]
  · have hlt : i < q.length := by
      have := (List.getElem?_eq_some_iff.mp hy).1
      rw [List.length_append] at this
      have h9 : ([x] : List xFr).length = 1 := rfl
      omega
    rw [List.getElem?_append_left hlt] at hy
    rw [← h3 i y hy]
    have hne : (tf + i) % 2048 ≠ tt % 2048 := by omega
    simp [upd, hne]
theorem neg_lt {n : Nat} (h : n < 2 ^ 29) : (-1 - nI n) < 0 := by
  apply Int32.lt_iff_toInt_lt.mpr
  have h0 := pk_sub_toInt (a := 0) (b := n + 1) (by decide) (by omega)
  have e : (-1 : Int32) - nI n = nI 0 - nI (n + 1) := by
    rw [nI_succ]
    have : nI 0 = 0 := rfl
    rw [this]
    grind
  rw [e, h0]
  show ((0 : Nat) : Int) - ((n + 1 : Nat) : Int) < (0 : Int32).toInt
  have h9 : (0 : Int32).toInt = 0 := rfl
  omega
theorem neg_neg (x : Int32) : -1 - (-1 - x) = x := by grind
theorem crd_m {a b : Nat} (ha : a < 16) (hb : b < 16) : (nI a - nI b + 16) - (nI a - nI b + 16) / 16 * 16 = (nI a - nI b) &&& 15 := by
  have h : ∀ a : Fin 16, ∀ b : Fin 16, (nI a.val - nI b.val + 16) - (nI a.val - nI b.val + 16) / 16 * 16 = (nI a.val - nI b.val) &&& 15 := by decide +kernel
  exact h ⟨a, ha⟩ ⟨b, hb⟩
theorem crd_p {a b : Nat} (ha : a < 16) (hb : b < 16) : ((nI a - nI b) &&& 15 ≤ 0) ↔ ((nI a - nI b) &&& 15 = 0) := by
  have h : ∀ a : Fin 16, ∀ b : Fin 16, ((nI a.val - nI b.val) &&& 15 ≤ 0) ↔ ((nI a.val - nI b.val) &&& 15 = 0) := by decide +kernel
  exact h ⟨a, ha⟩ ⟨b, hb⟩
theorem inc_m {a : Nat} (ha : a < 16) : (nI a + 1) - (nI a + 1) / 16 * 16 = (nI a + 1) &&& 15 := by
  have h : ∀ a : Fin 16, (nI a.val + 1) - (nI a.val + 1) / 16 * 16 = (nI a.val + 1) &&& 15 := by decide +kernel
  exact h ⟨a, ha⟩
theorem gr_m {a b : Nat} (ha : a < 16) (hb : b < 16) : (nI a + nI b) - (nI a + nI b) / 16 * 16 = nI ((a + b) % 16) ∧ (nI a + nI b) &&& 15 = nI ((a + b) % 16) := by
  have e : nI a + nI b = nI (a + b) := nI_add a b
  rw [e]
  exact ⟨pk_rem (d := 16) (by omega) (by decide) (by decide), w15_nI (by omega)⟩
theorem xinD_m {N : Nat} {v : Int32} (hN : N ≤ 60) : (decide ((0 : Int32) ≤ v) && decide (v ≤ nI N - 1)) = xinD N v := by
  unfold xinD
  congr 1
  apply decide_eq_decide.mpr
  have e1 : (nI N).toInt = (N : Int) := nI_toInt (by omega)
  have e2 := pk_sub_toInt (a := N) (b := 1) (by omega) (by decide)
  rw [Int32.le_iff_toInt_le, Int32.lt_iff_toInt_lt, e1]
  rw [show (nI N - 1).toInt = (N : Int) - ((1 : Nat) : Int) from e2]
  omega
theorem encF_lt {d p kd : Nat} (hd : d < 60) (hp : p < 4) (hk : kd < 2) : encF (kd, d, p) = nI (16 * d + 2 * p + kd) := by
  unfold encF
  rw [if_neg (show kd ≠ 2 by omega)]
theorem encF_2 {d p : Nat} : encF (2, d, p) = -1 - nI d := by
  unfold encF
  rw [if_pos rfl]
theorem encB_3 {s v : Nat} : encB (3, s, v) = -1 - nI (16 * s + v) := by
  unfold encB
  rw [if_pos rfl]
theorem encB_4 {s v : Nat} : encB (4, s, v) = nI (4 * s + v) := by
  unfold encB
  rw [if_neg (show ¬ (4 : Nat) = 3 by decide)]
theorem grant_e {j v : Nat} : (-1 : Int32) - 16 * nI j - nI v = encB (3, j, v) := by
  have e : nI (16 * j + v) = 16 * nI j + nI v := by rw [← nI_add, ← pk_mul]; rfl
  rw [encB_3, e]
  grind
theorem part_e {d k kd : Nat} (hk : kd < 2) : (16 : Int32) * nI d + 2 * nI k + nI kd = encF (kd, d, k) := by
  unfold encF
  rw [if_neg (show kd ≠ 2 by omega)]
  show _ = nI (16 * d + 2 * k + kd)
  rw [← nI_add, ← nI_add, ← pk_mul, ← pk_mul]
  rfl
theorem out_e {d o : Nat} : (4 : Int32) * nI d + nI o = encB (4, d, o) := by
  rw [encB_4, ← nI_add, ← pk_mul]
  rfl
def mV (am : Nat → Nat) : Prop := True
/-- each of a link's counts is one of 16 numbers -/
def l16 (L : xS) : Prop := ∀ k j, k ≠ 0 → k < 4 → j < 4 → ∃ v, v < 16 ∧ L k j = nI v
set_option maxRecDepth 100000 in
set_option maxHeartbeats 4000000 in
theorem c_X4_thrown {l : Launch} (hl : l.stackTraces = false) (D : va_G) (e0 : Nat) {am : Nat → Nat} {N tf tt bf bt : Nat} {up op tr : Int32} {tn : Nat} {th : Int32}  : xC l yX4_thrown (.code yX4_thrown cX4_thrown 1 (some .int)) ({ frames := 0, cells := 0, slots := 0, locals := 0 } : Room) D e0 [.ref (am 0)] [moW am N tf tt bf bt up op tr tn th] (fun v cs => v = some (.int th) ∧ cs = [moW am N tf tt bf bt up op tr tn th]) (fun _ => False) := by
  refine xC_of hl (by decide +kernel) (Nat.le_of_ble_eq_true rfl) (fun G X F => ?_)
  have B : xB l D e0 "CreditLinksModel" cX4_thrown 1 (some .int) [] _ G X := F.base
  show G 0 [(0, .ref (am 0))] [] [moW am N tf tt bf bt up op tr tn th] 0 0
  refine x_aload_n B (pc := 0) 0 dX4_thrown_0 rfl rfl ?_
  refine x_get B (pc := 1) (v := .int th) xcl_M 0 0 27 rfl rfl (by decide) tm657 rfl rfl dX4_thrown_1 ?_
  exact x_iret F (pc := 4) rfl dX4_thrown_4 (⟨rfl, rfl⟩) (Nat.le_of_ble_eq_true rfl) (Nat.le_of_ble_eq_true rfl)

set_option maxRecDepth 100000 in
set_option maxHeartbeats 4000000 in
theorem c_X4_in {l : Launch} (hl : l.stackTraces = false) (D : va_G) (e0 : Nat) {v lo hi : Int32}  : xC l yX4_in (.code yX4_in cX4_in 3 (some .boolean)) ({ frames := 0, cells := 0, slots := 0, locals := 0 } : Room) D e0 [.int v, .int lo, .int hi] [] (fun w cs => w = some (.int (bz (decide (lo ≤ v) && decide (v ≤ hi)))) ∧ cs = []) (fun _ => False) := by
  refine xC_of hl (by decide +kernel) (Nat.le_of_ble_eq_true rfl) (fun G X F => ?_)
  have B : xB l D e0 "CreditLinksModel" cX4_in 3 (some .boolean) [] _ G X := F.base
  show G 0 [(0, .int v), (1, .int lo), (2, .int hi)] [] [] 0 0
  refine x_iload_n B (pc := 0) 0 dX4_in_0 rfl rfl ?_
  refine x_iload_n B (pc := 1) 1 dX4_in_1 rfl rfl ?_
  refine x_icmp_lt B (pc := 2) 14 dX4_in_2 (by decide) (fun h2 => ?_) (fun h2 => ?_)
  · skip
    refine x_iconst B (pc := 14) 0 dX4_in_14 (by decide) ?_
    exact x_zret F (pc := 15) rfl rfl dX4_in_15 (⟨by rw [(show (decide (lo ≤ v) && decide (v ≤ hi)) = false from by first | (rw [decide_eq_false (Int32.not_le.mpr h2)]; rfl) | (rw [decide_eq_false (Int32.not_le.mpr h7), Bool.and_false]))]; rfl, rfl⟩) (Nat.le_of_ble_eq_true rfl) (Nat.le_of_ble_eq_true rfl)
  · skip
    refine x_iload_n B (pc := 5) 0 dX4_in_5 rfl rfl ?_
    refine x_iload_n B (pc := 6) 2 dX4_in_6 rfl rfl ?_
    refine x_icmp_gt B (pc := 7) 14 dX4_in_7 (by decide) (fun h7 => ?_) (fun h7 => ?_)
    · skip
      refine x_iconst B (pc := 14) 0 dX4_in_14 (by decide) ?_
      exact x_zret F (pc := 15) rfl rfl dX4_in_15 (⟨by rw [(show (decide (lo ≤ v) && decide (v ≤ hi)) = false from by first | (rw [decide_eq_false (Int32.not_le.mpr h2)]; rfl) | (rw [decide_eq_false (Int32.not_le.mpr h7), Bool.and_false]))]; rfl, rfl⟩) (Nat.le_of_ble_eq_true rfl) (Nat.le_of_ble_eq_true rfl)
    · skip
      refine x_iconst B (pc := 10) 1 dX4_in_10 (by decide) ?_
      refine x_goto B (pc := 11) 15 dX4_in_11 (by decide) ?_
      exact x_zret F (pc := 15) rfl rfl dX4_in_15 (⟨by rw [decide_eq_true (Int32.not_lt.mp h2), decide_eq_true (Int32.not_lt.mp h7)]; rfl, rfl⟩) (Nat.le_of_ble_eq_true rfl) (Nat.le_of_ble_eq_true rfl)

set_option maxRecDepth 100000 in
set_option maxHeartbeats 4000000 in
theorem c_X4_asked {l : Launch} (hl : l.stackTraces = false) (D : va_G) (e0 : Nat) {am : Nat → Nat} {N tf tt bf bt : Nat} {up op tr : Int32} {tn : Nat} {th : Int32} {p : Bool}  : xC l yX4_asked (.code yX4_asked cX4_asked 2 (some .boolean)) ({ frames := 0, cells := 0, slots := 0, locals := 0 } : Room) D e0 [.ref (am 0), .int (bz p)] [moW am N tf tt bf bt up op tr tn th] (fun w cs => w = some (.int (bz p)) ∧ cs = [moW am N tf tt bf bt up op tr tn (nI (cod p true true))]) (fun _ => False) := by
  refine xC_of hl (by decide +kernel) (Nat.le_of_ble_eq_true rfl) (fun G X F => ?_)
  have B : xB l D e0 "CreditLinksModel" cX4_asked 2 (some .boolean) [] _ G X := F.base
  show G 0 [(0, .ref (am 0)), (1, .int (bz p))] [] [moW am N tf tt bf bt up op tr tn th] 0 0
  cases p
  · skip
    refine x_aload_n B (pc := 0) 0 dX4_asked_0 rfl rfl ?_
    refine x_iload_n B (pc := 1) 1 dX4_asked_1 rfl rfl ?_
    refine x_if_eq B (pc := 2) 9 dX4_asked_2 (by decide) (fun h2 => ?_) (fun h2 => absurd (by decide) h2)
    refine x_iconst B (pc := 9) 1 dX4_asked_9 (by decide) ?_
    refine x_put B (pc := 10) xcl_M 0 0 27 [moW am N tf tt bf bt up op tr tn 1] rfl rfl (by decide) tm657 rfl rfl rfl rfl rfl (Nat.le_of_ble_eq_true rfl) rfl rfl dX4_asked_10 ?_
    refine x_iload_n B (pc := 13) 1 dX4_asked_13 rfl rfl ?_
    exact x_zret F (pc := 14) rfl rfl dX4_asked_14 (⟨rfl, rfl⟩) (Nat.le_of_ble_eq_true rfl) (Nat.le_of_ble_eq_true rfl)
  · skip
    refine x_aload_n B (pc := 0) 0 dX4_asked_0 rfl rfl ?_
    refine x_iload_n B (pc := 1) 1 dX4_asked_1 rfl rfl ?_
    refine x_if_eq B (pc := 2) 9 dX4_asked_2 (by decide) (fun h2 => absurd h2 (by decide)) (fun h2 => ?_)
    refine x_iconst B (pc := 5) 0 dX4_asked_5 (by decide) ?_
    refine x_goto B (pc := 6) 10 dX4_asked_6 (by decide) ?_
    refine x_put B (pc := 10) xcl_M 0 0 27 [moW am N tf tt bf bt up op tr tn 0] rfl rfl (by decide) tm657 rfl rfl rfl rfl rfl (Nat.le_of_ble_eq_true rfl) rfl rfl dX4_asked_10 ?_
    refine x_iload_n B (pc := 13) 1 dX4_asked_13 rfl rfl ?_
    exact x_zret F (pc := 14) rfl rfl dX4_asked_14 (⟨rfl, rfl⟩) (Nat.le_of_ble_eq_true rfl) (Nat.le_of_ble_eq_true rfl)

set_option maxRecDepth 100000 in
set_option maxHeartbeats 4000000 in
theorem c_X4_asked_ {l : Launch} (hl : l.stackTraces = false) (D : va_G) (e0 : Nat) {am : Nat → Nat} {N tf tt bf bt : Nat} {up op tr : Int32} {tn : Nat} {th : Int32} {p q : Bool}  : xC l yX4_asked_ (.code yX4_asked_ cX4_asked_ 3 (some .boolean)) ({ frames := 0, cells := 0, slots := 0, locals := 0 } : Room) D e0 [.ref (am 0), .int (bz p), .int (bz q)] [moW am N tf tt bf bt up op tr tn th] (fun w cs => w = some (.int (bz (p && q))) ∧ cs = [moW am N tf tt bf bt up op tr tn (nI (cod p q true))]) (fun _ => False) := by
  refine xC_of hl (by decide +kernel) (Nat.le_of_ble_eq_true rfl) (fun G X F => ?_)
  have B : xB l D e0 "CreditLinksModel" cX4_asked_ 3 (some .boolean) [] _ G X := F.base
  show G 0 [(0, .ref (am 0)), (1, .int (bz p)), (2, .int (bz q))] [] [moW am N tf tt bf bt up op tr tn th] 0 0
  cases p
  · skip
    refine x_aload_n B (pc := 0) 0 dX4_asked__0 rfl rfl ?_
    refine x_iload_n B (pc := 1) 1 dX4_asked__1 rfl rfl ?_
    refine x_if_ne B (pc := 2) 9 dX4_asked__2 (by decide) (fun h2 => absurd (by decide) h2) (fun h2 => ?_)
    refine x_iconst B (pc := 5) 1 dX4_asked__5 (by decide) ?_
    refine x_goto B (pc := 6) 18 dX4_asked__6 (by decide) ?_
    refine x_put B (pc := 18) xcl_M 0 0 27 [moW am N tf tt bf bt up op tr tn 1] rfl rfl (by decide) tm657 rfl rfl rfl rfl rfl (Nat.le_of_ble_eq_true rfl) rfl rfl dX4_asked__18 ?_
    refine x_aload_n B (pc := 21) 0 dX4_asked__21 rfl rfl ?_
    refine x_get B (pc := 22) (v := .int 1) xcl_M 0 0 27 rfl rfl (by decide) tm657 rfl rfl dX4_asked__22 ?_
    refine x_if_ne B (pc := 25) 32 dX4_asked__25 (by decide) (fun h25 => ?_) (fun h25 => absurd h25 (by decide))
    refine x_iconst B (pc := 32) 0 dX4_asked__32 (by decide) ?_
    exact x_zret F (pc := 33) rfl rfl dX4_asked__33 (⟨rfl, rfl⟩) (Nat.le_of_ble_eq_true rfl) (Nat.le_of_ble_eq_true rfl)
  · skip
    refine x_aload_n B (pc := 0) 0 dX4_asked__0 rfl rfl ?_
    refine x_iload_n B (pc := 1) 1 dX4_asked__1 rfl rfl ?_
    refine x_if_ne B (pc := 2) 9 dX4_asked__2 (by decide) (fun h2 => ?_) (fun h2 => absurd h2 (by decide))
    cases q
    · skip
      refine x_iload_n B (pc := 9) 2 dX4_asked__9 rfl rfl ?_
      refine x_if_eq B (pc := 10) 17 dX4_asked__10 (by decide) (fun h10 => ?_) (fun h10 => absurd (by decide) h10)
      refine x_iconst B (pc := 17) 2 dX4_asked__17 (by decide) ?_
      refine x_put B (pc := 18) xcl_M 0 0 27 [moW am N tf tt bf bt up op tr tn 2] rfl rfl (by decide) tm657 rfl rfl rfl rfl rfl (Nat.le_of_ble_eq_true rfl) rfl rfl dX4_asked__18 ?_
      refine x_aload_n B (pc := 21) 0 dX4_asked__21 rfl rfl ?_
      refine x_get B (pc := 22) (v := .int 2) xcl_M 0 0 27 rfl rfl (by decide) tm657 rfl rfl dX4_asked__22 ?_
      refine x_if_ne B (pc := 25) 32 dX4_asked__25 (by decide) (fun h25 => ?_) (fun h25 => absurd h25 (by decide))
      refine x_iconst B (pc := 32) 0 dX4_asked__32 (by decide) ?_
      exact x_zret F (pc := 33) rfl rfl dX4_asked__33 (⟨rfl, rfl⟩) (Nat.le_of_ble_eq_true rfl) (Nat.le_of_ble_eq_true rfl)
    · skip
      refine x_iload_n B (pc := 9) 2 dX4_asked__9 rfl rfl ?_
      refine x_if_eq B (pc := 10) 17 dX4_asked__10 (by decide) (fun h10 => absurd h10 (by decide)) (fun h10 => ?_)
      refine x_iconst B (pc := 13) 0 dX4_asked__13 (by decide) ?_
      refine x_goto B (pc := 14) 18 dX4_asked__14 (by decide) ?_
      refine x_put B (pc := 18) xcl_M 0 0 27 [moW am N tf tt bf bt up op tr tn 0] rfl rfl (by decide) tm657 rfl rfl rfl rfl rfl (Nat.le_of_ble_eq_true rfl) rfl rfl dX4_asked__18 ?_
      refine x_aload_n B (pc := 21) 0 dX4_asked__21 rfl rfl ?_
      refine x_get B (pc := 22) (v := .int 0) xcl_M 0 0 27 rfl rfl (by decide) tm657 rfl rfl dX4_asked__22 ?_
      refine x_if_ne B (pc := 25) 32 dX4_asked__25 (by decide) (fun h25 => absurd (by decide) h25) (fun h25 => ?_)
      refine x_iconst B (pc := 28) 1 dX4_asked__28 (by decide) ?_
      refine x_goto B (pc := 29) 33 dX4_asked__29 (by decide) ?_
      exact x_zret F (pc := 33) rfl rfl dX4_asked__33 (⟨rfl, rfl⟩) (Nat.le_of_ble_eq_true rfl) (Nat.le_of_ble_eq_true rfl)

set_option maxRecDepth 100000 in
set_option maxHeartbeats 4000000 in
theorem c_X4_asked__ {l : Launch} (hl : l.stackTraces = false) (D : va_G) (e0 : Nat) {am : Nat → Nat} {N tf tt bf bt : Nat} {up op tr : Int32} {tn : Nat} {th : Int32} {p q r : Bool}  : xC l yX4_asked__ (.code yX4_asked__ cX4_asked__ 4 (some .boolean)) ({ frames := 0, cells := 0, slots := 0, locals := 0 } : Room) D e0 [.ref (am 0), .int (bz p), .int (bz q), .int (bz r)] [moW am N tf tt bf bt up op tr tn th] (fun w cs => w = some (.int (bz (p && (q && r)))) ∧ cs = [moW am N tf tt bf bt up op tr tn (nI (cod p q r))]) (fun _ => False) := by
  refine xC_of hl (by decide +kernel) (Nat.le_of_ble_eq_true rfl) (fun G X F => ?_)
  have B : xB l D e0 "CreditLinksModel" cX4_asked__ 4 (some .boolean) [] _ G X := F.base
  show G 0 [(0, .ref (am 0)), (1, .int (bz p)), (2, .int (bz q)), (3, .int (bz r))] [] [moW am N tf tt bf bt up op tr tn th] 0 0
  cases p
  · skip
    refine x_aload_n B (pc := 0) 0 dX4_asked___0 rfl rfl ?_
    refine x_iload_n B (pc := 1) 1 dX4_asked___1 rfl rfl ?_
    refine x_if_ne B (pc := 2) 9 dX4_asked___2 (by decide) (fun h2 => absurd (by decide) h2) (fun h2 => ?_)
    refine x_iconst B (pc := 5) 1 dX4_asked___5 (by decide) ?_
    refine x_goto B (pc := 6) 26 dX4_asked___6 (by decide) ?_
    refine x_put B (pc := 26) xcl_M 0 0 27 [moW am N tf tt bf bt up op tr tn 1] rfl rfl (by decide) tm657 rfl rfl rfl rfl rfl (Nat.le_of_ble_eq_true rfl) rfl rfl dX4_asked___26 ?_
    refine x_aload_n B (pc := 29) 0 dX4_asked___29 rfl rfl ?_
    refine x_get B (pc := 30) (v := .int 1) xcl_M 0 0 27 rfl rfl (by decide) tm657 rfl rfl dX4_asked___30 ?_
    refine x_if_ne B (pc := 33) 40 dX4_asked___33 (by decide) (fun h33 => ?_) (fun h33 => absurd h33 (by decide))
    refine x_iconst B (pc := 40) 0 dX4_asked___40 (by decide) ?_
    exact x_zret F (pc := 41) rfl rfl dX4_asked___41 (⟨rfl, rfl⟩) (Nat.le_of_ble_eq_true rfl) (Nat.le_of_ble_eq_true rfl)
  · skip
    refine x_aload_n B (pc := 0) 0 dX4_asked___0 rfl rfl ?_
    refine x_iload_n B (pc := 1) 1 dX4_asked___1 rfl rfl ?_
    refine x_if_ne B (pc := 2) 9 dX4_asked___2 (by decide) (fun h2 => ?_) (fun h2 => absurd h2 (by decide))
    cases q
    · skip
      refine x_iload_n B (pc := 9) 2 dX4_asked___9 rfl rfl ?_
      refine x_if_ne B (pc := 10) 17 dX4_asked___10 (by decide) (fun h10 => absurd (by decide) h10) (fun h10 => ?_)
      refine x_iconst B (pc := 13) 2 dX4_asked___13 (by decide) ?_
      refine x_goto B (pc := 14) 26 dX4_asked___14 (by decide) ?_
      refine x_put B (pc := 26) xcl_M 0 0 27 [moW am N tf tt bf bt up op tr tn 2] rfl rfl (by decide) tm657 rfl rfl rfl rfl rfl (Nat.le_of_ble_eq_true rfl) rfl rfl dX4_asked___26 ?_
      refine x_aload_n B (pc := 29) 0 dX4_asked___29 rfl rfl ?_
      refine x_get B (pc := 30) (v := .int 2) xcl_M 0 0 27 rfl rfl (by decide) tm657 rfl rfl dX4_asked___30 ?_
      refine x_if_ne B (pc := 33) 40 dX4_asked___33 (by decide) (fun h33 => ?_) (fun h33 => absurd h33 (by decide))
      refine x_iconst B (pc := 40) 0 dX4_asked___40 (by decide) ?_
      exact x_zret F (pc := 41) rfl rfl dX4_asked___41 (⟨rfl, rfl⟩) (Nat.le_of_ble_eq_true rfl) (Nat.le_of_ble_eq_true rfl)
    · skip
      refine x_iload_n B (pc := 9) 2 dX4_asked___9 rfl rfl ?_
      refine x_if_ne B (pc := 10) 17 dX4_asked___10 (by decide) (fun h10 => ?_) (fun h10 => absurd h10 (by decide))
      cases r
      · skip
        refine x_iload_n B (pc := 17) 3 dX4_asked___17 rfl rfl ?_
        refine x_if_eq B (pc := 18) 25 dX4_asked___18 (by decide) (fun h18 => ?_) (fun h18 => absurd (by decide) h18)
        refine x_iconst B (pc := 25) 3 dX4_asked___25 (by decide) ?_
        refine x_put B (pc := 26) xcl_M 0 0 27 [moW am N tf tt bf bt up op tr tn 3] rfl rfl (by decide) tm657 rfl rfl rfl rfl rfl (Nat.le_of_ble_eq_true rfl) rfl rfl dX4_asked___26 ?_
        refine x_aload_n B (pc := 29) 0 dX4_asked___29 rfl rfl ?_
        refine x_get B (pc := 30) (v := .int 3) xcl_M 0 0 27 rfl rfl (by decide) tm657 rfl rfl dX4_asked___30 ?_
        refine x_if_ne B (pc := 33) 40 dX4_asked___33 (by decide) (fun h33 => ?_) (fun h33 => absurd h33 (by decide))
        refine x_iconst B (pc := 40) 0 dX4_asked___40 (by decide) ?_
        exact x_zret F (pc := 41) rfl rfl dX4_asked___41 (⟨rfl, rfl⟩) (Nat.le_of_ble_eq_true rfl) (Nat.le_of_ble_eq_true rfl)
      · skip
        refine x_iload_n B (pc := 17) 3 dX4_asked___17 rfl rfl ?_
        refine x_if_eq B (pc := 18) 25 dX4_asked___18 (by decide) (fun h18 => absurd h18 (by decide)) (fun h18 => ?_)
        refine x_iconst B (pc := 21) 0 dX4_asked___21 (by decide) ?_
        refine x_goto B (pc := 22) 26 dX4_asked___22 (by decide) ?_
        refine x_put B (pc := 26) xcl_M 0 0 27 [moW am N tf tt bf bt up op tr tn 0] rfl rfl (by decide) tm657 rfl rfl rfl rfl rfl (Nat.le_of_ble_eq_true rfl) rfl rfl dX4_asked___26 ?_
        refine x_aload_n B (pc := 29) 0 dX4_asked___29 rfl rfl ?_
        refine x_get B (pc := 30) (v := .int 0) xcl_M 0 0 27 rfl rfl (by decide) tm657 rfl rfl dX4_asked___30 ?_
        refine x_if_ne B (pc := 33) 40 dX4_asked___33 (by decide) (fun h33 => absurd (by decide) h33) (fun h33 => ?_)
        refine x_iconst B (pc := 36) 1 dX4_asked___36 (by decide) ?_
        refine x_goto B (pc := 37) 41 dX4_asked___37 (by decide) ?_
        exact x_zret F (pc := 41) rfl rfl dX4_asked___41 (⟨rfl, rfl⟩) (Nat.le_of_ble_eq_true rfl) (Nat.le_of_ble_eq_true rfl)

set_option maxRecDepth 100000 in
set_option maxHeartbeats 4000000 in
theorem c_X4_tells {l : Launch} (hl : l.stackTraces = false) (D : va_G) (e0 : Nat) {am : Nat → Nat} {N tf tt bf bt : Nat} {up op tr : Int32} {tn : Nat} {th : Int32} {z : Int32}  : xC l yX4_tells (.code yX4_tells cX4_tells 2 (some .int)) ({ frames := 0, cells := 0, slots := 0, locals := 0 } : Room) D e0 [.ref (am 0), .int z] [moW am N tf tt bf bt up op tr tn th] (fun v cs => v = some (.int z) ∧ cs = [moW am N tf tt bf bt up op tr tn 0]) (fun _ => False) := by
  refine xC_of hl (by decide +kernel) (Nat.le_of_ble_eq_true rfl) (fun G X F => ?_)
  have B : xB l D e0 "CreditLinksModel" cX4_tells 2 (some .int) [] _ G X := F.base
  show G 0 [(0, .ref (am 0)), (1, .int z)] [] [moW am N tf tt bf bt up op tr tn th] 0 0
  refine x_aload_n B (pc := 0) 0 dX4_tells_0 rfl rfl ?_
  refine x_iconst B (pc := 1) 0 dX4_tells_1 (by decide) ?_
  refine x_put B (pc := 2) xcl_M 0 0 27 [moW am N tf tt bf bt up op tr tn 0] rfl rfl (by decide) tm657 rfl rfl rfl rfl rfl (Nat.le_of_ble_eq_true rfl) rfl rfl dX4_tells_2 ?_
  refine x_iload_n B (pc := 5) 1 dX4_tells_5 rfl rfl ?_
  exact x_iret F (pc := 6) rfl dX4_tells_6 (⟨rfl, rfl⟩) (Nat.le_of_ble_eq_true rfl) (Nat.le_of_ble_eq_true rfl)

set_option maxRecDepth 100000 in
set_option maxHeartbeats 4000000 in
theorem c_X4_isLink {l : Launch} (hl : l.stackTraces = false) (D : va_G) (e0 : Nat) {v : Int32}  : xC l yX4_isLink (.code yX4_isLink cX4_isLink 1 (some .boolean)) ({ frames := 1, cells := 0, slots := 0, locals := 22 } : Room) D e0 [.int v] [] (fun w cs => w = some (.int (bz (xinB 0 3 v))) ∧ cs = []) (fun _ => False) := by
  refine xC_of hl (by decide +kernel) (Nat.le_of_ble_eq_true rfl) (fun G X F => ?_)
  have B : xB l D e0 "CreditLinksModel" cX4_isLink 1 (some .boolean) [] _ G X := F.base
  show G 0 [(0, .int v)] [] [] 0 0
  refine x_iload_n B (pc := 0) 0 dX4_isLink_0 rfl rfl ?_
  refine x_iconst B (pc := 1) 0 dX4_isLink_1 (by decide) ?_
  refine x_iconst B (pc := 2) 3 dX4_isLink_2 (by decide) ?_
  refine x_callS B (pc := 3) (As := [.int v, .int 0, .int 3]) (c_X4_in hl D e0 ) tm727 tm728 tm7 tm729 md_X4_in ⟨Nat.le_of_ble_eq_true rfl, Nat.le_of_ble_eq_true rfl⟩ [] rfl rfl rfl (Nat.le_of_ble_eq_true rfl) (Nat.le_of_ble_eq_true rfl) (Nat.le_of_ble_eq_true rfl) dX4_isLink_3 (fun E hE => False.elim hE) (fun v cs1 hp => ?_)
  obtain ⟨rfl, rfl⟩ := hp
  show G 6 [(0, .int v)] [.int (bz (xinB 0 3 v))] [] 0 0
  exact x_zret F (pc := 6) rfl (by rcases bz_01 (xinB 0 3 v) with h | h <;> rw [h] <;> rfl) dX4_isLink_6 (⟨rfl, rfl⟩) (Nat.le_of_ble_eq_true rfl) (Nat.le_of_ble_eq_true rfl)

set_option maxRecDepth 100000 in
set_option maxHeartbeats 4000000 in
theorem c_X4_isDelivery {l : Launch} (hl : l.stackTraces = false) (D : va_G) (e0 : Nat) {am : Nat → Nat} {N tf tt bf bt : Nat} {up op tr : Int32} {tn : Nat} {th : Int32} {v : Int32} (hN : N ≤ 60) : xC l yX4_isDelivery (.code yX4_isDelivery cX4_isDelivery 2 (some .boolean)) ({ frames := 1, cells := 0, slots := 0, locals := 22 } : Room) D e0 [.ref (am 0), .int v] [moW am N tf tt bf bt up op tr tn th] (fun w cs => w = some (.int (bz (xinD N v))) ∧ cs = [moW am N tf tt bf bt up op tr tn th]) (fun _ => False) := by
  refine xC_of hl (by decide +kernel) (Nat.le_of_ble_eq_true rfl) (fun G X F => ?_)
  have B : xB l D e0 "CreditLinksModel" cX4_isDelivery 2 (some .boolean) [] _ G X := F.base
  show G 0 [(0, .ref (am 0)), (1, .int v)] [] [moW am N tf tt bf bt up op tr tn th] 0 0
  refine x_iload_n B (pc := 0) 1 dX4_isDelivery_0 rfl rfl ?_
  refine x_iconst B (pc := 1) 0 dX4_isDelivery_1 (by decide) ?_
  refine x_aload_n B (pc := 2) 0 dX4_isDelivery_2 rfl rfl ?_
  refine x_get B (pc := 3) (v := .int (nI N)) xcl_M 0 0 15 rfl rfl (by decide) tm645 rfl rfl dX4_isDelivery_3 ?_
  refine x_iconst B (pc := 6) 1 dX4_isDelivery_6 (by decide) ?_
  refine x_isub B (pc := 7) dX4_isDelivery_7 ?_
  refine x_callS B (pc := 8) (As := [.int v, .int 0, .int ((nI N) - 1)]) (c_X4_in hl D e0 ) tm727 tm728 tm7 tm729 md_X4_in ⟨Nat.le_of_ble_eq_true rfl, Nat.le_of_ble_eq_true rfl⟩ [] rfl rfl rfl (Nat.le_of_ble_eq_true rfl) (Nat.le_of_ble_eq_true rfl) (Nat.le_of_ble_eq_true rfl) dX4_isDelivery_8 (fun E hE => False.elim hE) (fun v cs1 hp => ?_)
  obtain ⟨rfl, rfl⟩ := hp
  rw [xinD_m hN]
  show G 11 [(0, .ref (am 0)), (1, .int v)] [.int (bz (xinD N v))] [moW am N tf tt bf bt up op tr tn th] 0 0
  exact x_zret F (pc := 11) rfl (by rcases bz_01 (xinD N v) with h | h <;> rw [h] <;> rfl) dX4_isDelivery_11 (⟨rfl, rfl⟩) (Nat.le_of_ble_eq_true rfl) (Nat.le_of_ble_eq_true rfl)

set_option maxRecDepth 100000 in
set_option maxHeartbeats 4000000 in
theorem c_X4_goes {l : Launch} (hl : l.stackTraces = false) (D : va_G) (e0 : Nat) {am : Nat → Nat} {N tf tt bf bt : Nat} {up op tr : Int32} {tn : Nat} {th : Int32} {tg : Nat → Int32} {x : Int32} (htt : tt < 2 ^ 30) : xC l yX4_goes (.code yX4_goes cX4_goes 2 none) ({ frames := 0, cells := 0, slots := 0, locals := 0 } : Room) D e0 [.ref (am 0), .int x] [moW am N tf tt bf bt up op tr tn th, rtW D am tg] (fun w cs => w = none ∧ cs = [moW am N tf (tt + 1) bf bt up op tr tn th, rtW D am (upd tg (tt % 2048) x)]) (fun _ => False) := by
  refine xC_of hl (by decide +kernel) (Nat.le_of_ble_eq_true rfl) (fun G X F => ?_)
  have B : xB l D e0 "CreditLinksModel" cX4_goes 2 none [] _ G X := F.base
  show G 0 [(0, .ref (am 0)), (1, .int x)] [] [moW am N tf tt bf bt up op tr tn th, rtW D am tg] 0 0
  refine x_aload_n B (pc := 0) 0 dX4_goes_0 rfl rfl ?_
  refine x_get B (pc := 1) xcl_M 0 0 16 rfl rfl (by decide) tm646 rfl rfl dX4_goes_1 ?_
  refine x_aload_n B (pc := 4) 0 dX4_goes_4 rfl rfl ?_
  refine x_get B (pc := 5) (v := .int (nI tt)) xcl_M 0 0 18 rfl rfl (by decide) tm648 rfl rfl dX4_goes_5 ?_
  refine x_sipush B (pc := 8) 2048 dX4_goes_8 (by decide) ?_
  refine x_irem B (pc := 11) dX4_goes_11 (by decide) ?_
  refine x_val B (y := nI (tt % 2048)) (pk_rem (d := 2048) (by omega) (by decide) (by decide)) ?_
  refine x_iload_n B (pc := 12) 1 dX4_goes_12 rfl rfl ?_
  refine x_iastN B (pc := 13) (tt % 2048) 1 0 [moW am N tf tt bf bt up op tr tn th, rtW D am (upd tg (tt % 2048) x)] (Nat.mod_lt _ (by decide)) (by decide) rfl rfl rfl rfl dX4_goes_13 ?_
  refine x_aload_n B (pc := 14) 0 dX4_goes_14 rfl rfl ?_
  refine x_dup B (pc := 15) dX4_goes_15 rfl ?_
  refine x_get B (pc := 16) (v := .int (nI tt)) xcl_M 0 0 18 rfl rfl (by decide) tm648 rfl rfl dX4_goes_16 ?_
  refine x_iconst B (pc := 19) 1 dX4_goes_19 (by decide) ?_
  refine x_iadd B (pc := 20) dX4_goes_20 ?_
  refine x_val B (y := nI (tt + 1)) (nI_1 _) ?_
  refine x_put B (pc := 21) xcl_M 0 0 18 [moW am N tf (tt + 1) bf bt up op tr tn th, rtW D am (upd tg (tt % 2048) x)] rfl rfl (by decide) tm648 rfl rfl rfl rfl rfl (Nat.le_of_ble_eq_true rfl) rfl rfl dX4_goes_21 ?_
  exact x_vret F (pc := 24) rfl dX4_goes_24 (⟨rfl, rfl⟩) (Nat.le_of_ble_eq_true rfl) (Nat.le_of_ble_eq_true rfl)

set_option maxRecDepth 100000 in
set_option maxHeartbeats 4000000 in
theorem c_X4_returns {l : Launch} (hl : l.stackTraces = false) (D : va_G) (e0 : Nat) {am : Nat → Nat} {N tf tt bf bt : Nat} {up op tr : Int32} {tn : Nat} {th : Int32} {bg : Nat → Int32} {x : Int32} (htt : bt < 2 ^ 30) : xC l yX4_returns (.code yX4_returns cX4_returns 2 none) ({ frames := 0, cells := 0, slots := 0, locals := 0 } : Room) D e0 [.ref (am 0), .int x] [moW am N tf tt bf bt up op tr tn th, rbW D am bg] (fun w cs => w = none ∧ cs = [moW am N tf tt bf (bt + 1) up op tr tn th, rbW D am (upd bg (bt % 2048) x)]) (fun _ => False) := by
  refine xC_of hl (by decide +kernel) (Nat.le_of_ble_eq_true rfl) (fun G X F => ?_)
  have B : xB l D e0 "CreditLinksModel" cX4_returns 2 none [] _ G X := F.base
  show G 0 [(0, .ref (am 0)), (1, .int x)] [] [moW am N tf tt bf bt up op tr tn th, rbW D am bg] 0 0
  refine x_aload_n B (pc := 0) 0 dX4_returns_0 rfl rfl ?_
  refine x_get B (pc := 1) xcl_M 0 0 19 rfl rfl (by decide) tm649 rfl rfl dX4_returns_1 ?_
  refine x_aload_n B (pc := 4) 0 dX4_returns_4 rfl rfl ?_
  refine x_get B (pc := 5) (v := .int (nI bt)) xcl_M 0 0 21 rfl rfl (by decide) tm651 rfl rfl dX4_returns_5 ?_
  refine x_sipush B (pc := 8) 2048 dX4_returns_8 (by decide) ?_
  refine x_irem B (pc := 11) dX4_returns_11 (by decide) ?_
  refine x_val B (y := nI (bt % 2048)) (pk_rem (d := 2048) (by omega) (by decide) (by decide)) ?_
  refine x_iload_n B (pc := 12) 1 dX4_returns_12 rfl rfl ?_
  refine x_iastN B (pc := 13) (bt % 2048) 1 0 [moW am N tf tt bf bt up op tr tn th, rbW D am (upd bg (bt % 2048) x)] (Nat.mod_lt _ (by decide)) (by decide) rfl rfl rfl rfl dX4_returns_13 ?_
  refine x_aload_n B (pc := 14) 0 dX4_returns_14 rfl rfl ?_
  refine x_dup B (pc := 15) dX4_returns_15 rfl ?_
  refine x_get B (pc := 16) (v := .int (nI bt)) xcl_M 0 0 21 rfl rfl (by decide) tm651 rfl rfl dX4_returns_16 ?_
  refine x_iconst B (pc := 19) 1 dX4_returns_19 (by decide) ?_
  refine x_iadd B (pc := 20) dX4_returns_20 ?_
  refine x_val B (y := nI (bt + 1)) (nI_1 _) ?_
  refine x_put B (pc := 21) xcl_M 0 0 21 [moW am N tf tt bf (bt + 1) up op tr tn th, rbW D am (upd bg (bt % 2048) x)] rfl rfl (by decide) tm651 rfl rfl rfl rfl rfl (Nat.le_of_ble_eq_true rfl) rfl rfl dX4_returns_21 ?_
  exact x_vret F (pc := 24) rfl dX4_returns_24 (⟨rfl, rfl⟩) (Nat.le_of_ble_eq_true rfl) (Nat.le_of_ble_eq_true rfl)
