/-! constructors -/
theorem arrV_cong (cA : ClassId) {n : Nat} {f g : Nat → Value} (h : ∀ i, i < n → f i = g i) : arrV cA n f = arrV cA n g := by
  unfold arrV
  congr 1
  exact congrArg Array.ofFn (funext fun i => h i.val i.isLt)
/-- what lies behind the end of an array is of no account -/
theorem x_congK {l : Launch} {D : va_G} {e0 : Nat} {own : String} {cc : ByteArray} {nL : Nat} {ret : Option FieldType} {hh : List (Nat × Nat × Nat × Nat)} {R : Room} {G : xGt} {X : xXt} (B : xB l D e0 own cc nL ret hh R G X) {pc : Nat} {lv : List (Nat × Value)} {st : List Value} {cs : List va_W} {k n : Nat} {a m0 : Nat} {cA : ClassId} {f g : Nat → Option Nat} {ch ch2 : va_W} (i j : Nat) (cs1 : List va_W) (hi : cs[i]? = some ch) (hj : ch[j]? = some (a, .inl (cA, m0, xqs f))) (hfg : ∀ i, i < m0 → f i = g i) (hs : ch.set j (a, .inl (cA, m0, xqs g)) = ch2) (hcs : cs.set i ch2 = cs1) (kk : G pc lv st cs1 k n) : G pc lv st cs k n := by
  subst hs
  subst hcs
  obtain ⟨p, e, s, m, args, below, meth, c, A, Q, rfl, rfl, hx, hb, hml, hown, hts, hret, htab, hZ, hA, hlk, htr⟩ := B
  intro H locs ls hP hD hS hL
  obtain ⟨q0, hq, hset⟩ := xfl_at hi hj
  have h0 := hP q0 _ hq
  have h1 : va_at D vwCl (a, .inl (cA, m0, xqs g)) H := by
    show H[a]? = some (arrV cA m0 (fun j => va_rf (g j)))
    rw [show H[a]? = some (arrV cA m0 (fun j => va_rf (f j))) from h0]
    exact congrArg some (arrV_cong cA fun i hi => by rw [hfg i hi])
  have hP1 := hP.set hD hq h1 (fun _ _ => rfl)
  have hD1 : va_D _ (cs.flatten.set q0 (a, .inl (cA, m0, xqs g))) := hD.set hq
  rw [hset] at hP1 hD1
  exact kk H locs ls hP1 hD1 hS hL
theorem x_congI {l : Launch} {D : va_G} {e0 : Nat} {own : String} {cc : ByteArray} {nL : Nat} {ret : Option FieldType} {hh : List (Nat × Nat × Nat × Nat)} {R : Room} {G : xGt} {X : xXt} (B : xB l D e0 own cc nL ret hh R G X) {pc : Nat} {lv : List (Nat × Value)} {st : List Value} {cs : List va_W} {k n : Nat} {a m0 : Nat} {cA : ClassId} {f g : Nat → Int32} {ch ch2 : va_W} (i j : Nat) (cs1 : List va_W) (hi : cs[i]? = some ch) (hj : ch[j]? = some (a, .inl (cA, m0, .inl f))) (hfg : ∀ i, i < m0 → f i = g i) (hs : ch.set j (a, .inl (cA, m0, .inl g)) = ch2) (hcs : cs.set i ch2 = cs1) (kk : G pc lv st cs1 k n) : G pc lv st cs k n := by
  subst hs
  subst hcs
  obtain ⟨p, e, s, m, args, below, meth, c, A, Q, rfl, rfl, hx, hb, hml, hown, hts, hret, htab, hZ, hA, hlk, htr⟩ := B
  intro H locs ls hP hD hS hL
  obtain ⟨q0, hq, hset⟩ := xfl_at hi hj
  have h0 := hP q0 _ hq
  have h1 : va_at D vwCl (a, .inl (cA, m0, .inl g)) H := by
    show H[a]? = some (arrV cA m0 (fun j => .int (g j)))
    rw [show H[a]? = some (arrV cA m0 (fun j => .int (f j))) from h0]
    exact congrArg some (arrV_cong cA fun i hi => by rw [hfg i hi])
  have hP1 := hP.set hD hq h1 (fun _ _ => rfl)
  have hD1 : va_D _ (cs.flatten.set q0 (a, .inl (cA, m0, .inl g))) := hD.set hq
  rw [hset] at hP1 hD1
  exact kk H locs ls hP1 hD1 hS hL
def adOf (x q1 q2 q3 q4 q5 k0 k1 k2 k3 a1 a2 a3 b1 b2 b3 : Nat) : Nat → Nat
  | 0 => x
  | 1 => q1
  | 2 => q2
  | 3 => q3
  | 4 => q4
  | 5 => q5
  | 6 => k0
  | 7 => k1
  | 8 => k2
  | 9 => k3
  | 10 => a1
  | 11 => a2
  | 12 => a3
  | 13 => b1
  | 14 => b2
  | _ => b3
def xg0 : xRg := (0, fun _ => 0, fun _ => 0, fun _ => 0)
set_option maxRecDepth 100000 in
set_option maxHeartbeats 4000000 in
theorem c_X1_init {l : Launch} (hl : l.stackTraces = false) (D : va_G) (e0 : Nat) {q : Nat}  : xC l yX1_init (.code yX1_init cX1_init 1 none) ({ frames := 1, cells := 0, slots := 0, locals := 12 } : Room) D e0 [.ref q] [[(q, .inr (2, [.int 0, .int 0, .int 0, .int 0]))]] (fun v cs => v = none ∧ cs = [[(q, .inr (2, [.int 0, .int 0, .int 0, .int 0]))]]) (fun _ => False) := by
  refine xC_of hl (by decide +kernel) (Nat.le_of_ble_eq_true rfl) (fun G X F => ?_)
  have B : xB l D e0 "CreditLinks$Link" cX1_init 1 none [] _ G X := F.base
  show G 0 [(0, .ref q)] [] [[(q, .inr (2, [.int 0, .int 0, .int 0, .int 0]))]] 0 0
  refine x_aload_n B (pc := 0) 0 dX1_init_0 rfl rfl ?_
  refine x_objInit B (pc := 1) tm83 tm26 tm27 (Nat.le_of_ble_eq_true rfl) (Nat.le_of_ble_eq_true rfl) dX1_init_1 ?_
  refine x_aload_n B (pc := 4) 0 dX1_init_4 rfl rfl ?_
  refine x_iconst B (pc := 5) 0 dX1_init_5 (by decide) ?_
  refine x_put B (pc := 6) xcl_L 0 0 0 [[(q, .inr (2, [.int 0, .int 0, .int 0, .int 0]))]] rfl rfl (by decide) tm84 rfl rfl rfl rfl rfl (Nat.le_of_ble_eq_true rfl) rfl rfl dX1_init_6 ?_
  refine x_aload_n B (pc := 9) 0 dX1_init_9 rfl rfl ?_
  refine x_iconst B (pc := 10) 0 dX1_init_10 (by decide) ?_
  refine x_put B (pc := 11) xcl_L 0 0 1 [[(q, .inr (2, [.int 0, .int 0, .int 0, .int 0]))]] rfl rfl (by decide) tm86 rfl rfl rfl rfl rfl (Nat.le_of_ble_eq_true rfl) rfl rfl dX1_init_11 ?_
  refine x_aload_n B (pc := 14) 0 dX1_init_14 rfl rfl ?_
  refine x_iconst B (pc := 15) 0 dX1_init_15 (by decide) ?_
  refine x_put B (pc := 16) xcl_L 0 0 2 [[(q, .inr (2, [.int 0, .int 0, .int 0, .int 0]))]] rfl rfl (by decide) tm87 rfl rfl rfl rfl rfl (Nat.le_of_ble_eq_true rfl) rfl rfl dX1_init_16 ?_
  refine x_aload_n B (pc := 19) 0 dX1_init_19 rfl rfl ?_
  refine x_iconst B (pc := 20) 0 dX1_init_20 (by decide) ?_
  refine x_put B (pc := 21) xcl_L 0 0 3 [[(q, .inr (2, [.int 0, .int 0, .int 0, .int 0]))]] rfl rfl (by decide) tm89 rfl rfl rfl rfl rfl (Nat.le_of_ble_eq_true rfl) rfl rfl dX1_init_21 ?_
  exact x_vret F (pc := 24) rfl dX1_init_24 (⟨rfl, rfl⟩) (Nat.le_of_ble_eq_true rfl) (Nat.le_of_ble_eq_true rfl)

set_option maxRecDepth 100000 in
set_option maxHeartbeats 4000000 in
theorem c_X2_init {l : Launch} (hl : l.stackTraces = false) (D : va_G) (e0 : Nat) {r : Nat}  : xC l yX2_init (.code yX2_init cX2_init 1 none) ({ frames := 1, cells := 3, slots := 1536, locals := 12 } : Room) D e0 [.ref r] [[(r, .inr (3, [.null, .null, .null, .int 0, .int 0]))]] (fun v cs => v = none ∧ ∃ ka sa va, cs = [rwW D r ka sa va xg0 0]) (fun _ => False) := by
  refine xC_of hl (by decide +kernel) (Nat.le_of_ble_eq_true rfl) (fun G X F => ?_)
  have B : xB l D e0 "CreditLinks$Row" cX2_init 1 none [] _ G X := F.base
  show G 0 [(0, .ref r)] [] [[(r, .inr (3, [.null, .null, .null, .int 0, .int 0]))]] 0 0
  refine x_aload_n B (pc := 0) 0 dX2_init_0 rfl rfl ?_
  refine x_objInit B (pc := 1) tm61 tm26 tm27 (Nat.le_of_ble_eq_true rfl) (Nat.le_of_ble_eq_true rfl) dX2_init_1 ?_
  refine x_aload_n B (pc := 4) 0 dX2_init_4 rfl rfl ?_
  refine x_sipush B (pc := 5) 512 dX2_init_5 (by decide) ?_
  refine x_val B (y := nI 512) rfl ?_
  refine x_newI B (pc := 8) 512 tm78 (by decide) (by decide) (by decide) (Nat.le_of_ble_eq_true rfl) (Nat.le_of_ble_eq_true rfl) dX2_init_8 (fun ka => ?_)
  show G 10 [(0, .ref r)] [.ref ka, .ref r] [[(r, .inr (3, [.null, .null, .null, .int 0, .int 0]))], [(ka, .inl (D.1 10, 512, .inl (fun _ => 0)))]] 1 512
  refine x_putF F (pc := 10) xcl_R 0 0 0 [[(r, .inr (3, [.ref ka, .null, .null, .int 0, .int 0]))], [(ka, .inl (D.1 10, 512, .inl (fun _ => 0)))]] rfl rfl (by decide) tm62 rfl rfl rfl rfl rfl rfl rfl (Nat.le_of_ble_eq_true rfl) rfl rfl dX2_init_10 ?_
  refine x_aload_n B (pc := 13) 0 dX2_init_13 rfl rfl ?_
  refine x_sipush B (pc := 14) 512 dX2_init_14 (by decide) ?_
  refine x_val B (y := nI 512) rfl ?_
  refine x_newI B (pc := 17) 512 tm78 (by decide) (by decide) (by decide) (Nat.le_of_ble_eq_true rfl) (Nat.le_of_ble_eq_true rfl) dX2_init_17 (fun sa => ?_)
  show G 19 [(0, .ref r)] [.ref sa, .ref r] [[(r, .inr (3, [.ref ka, .null, .null, .int 0, .int 0]))], [(ka, .inl (D.1 10, 512, .inl (fun _ => 0)))], [(sa, .inl (D.1 10, 512, .inl (fun _ => 0)))]] 2 1024
  refine x_putF F (pc := 19) xcl_R 0 0 1 [[(r, .inr (3, [.ref ka, .ref sa, .null, .int 0, .int 0]))], [(ka, .inl (D.1 10, 512, .inl (fun _ => 0)))], [(sa, .inl (D.1 10, 512, .inl (fun _ => 0)))]] rfl rfl (by decide) tm63 rfl rfl rfl rfl rfl rfl rfl (Nat.le_of_ble_eq_true rfl) rfl rfl dX2_init_19 ?_
  refine x_aload_n B (pc := 22) 0 dX2_init_22 rfl rfl ?_
  refine x_sipush B (pc := 23) 512 dX2_init_23 (by decide) ?_
  refine x_val B (y := nI 512) rfl ?_
  refine x_newI B (pc := 26) 512 tm78 (by decide) (by decide) (by decide) (Nat.le_of_ble_eq_true rfl) (Nat.le_of_ble_eq_true rfl) dX2_init_26 (fun va => ?_)
  show G 28 [(0, .ref r)] [.ref va, .ref r] [[(r, .inr (3, [.ref ka, .ref sa, .null, .int 0, .int 0]))], [(ka, .inl (D.1 10, 512, .inl (fun _ => 0)))], [(sa, .inl (D.1 10, 512, .inl (fun _ => 0)))], [(va, .inl (D.1 10, 512, .inl (fun _ => 0)))]] 3 1536
  refine x_putF F (pc := 28) xcl_R 0 0 2 [[(r, .inr (3, [.ref ka, .ref sa, .ref va, .int 0, .int 0]))], [(ka, .inl (D.1 10, 512, .inl (fun _ => 0)))], [(sa, .inl (D.1 10, 512, .inl (fun _ => 0)))], [(va, .inl (D.1 10, 512, .inl (fun _ => 0)))]] rfl rfl (by decide) tm64 rfl rfl rfl rfl rfl rfl rfl (Nat.le_of_ble_eq_true rfl) rfl rfl dX2_init_28 ?_
  refine x_aload_n B (pc := 31) 0 dX2_init_31 rfl rfl ?_
  refine x_iconst B (pc := 32) 0 dX2_init_32 (by decide) ?_
  refine x_put B (pc := 33) xcl_R 0 0 3 [[(r, .inr (3, [.ref ka, .ref sa, .ref va, .int 0, .int 0]))], [(ka, .inl (D.1 10, 512, .inl (fun _ => 0)))], [(sa, .inl (D.1 10, 512, .inl (fun _ => 0)))], [(va, .inl (D.1 10, 512, .inl (fun _ => 0)))]] rfl rfl (by decide) tm65 rfl rfl rfl rfl rfl (Nat.le_of_ble_eq_true rfl) rfl rfl dX2_init_33 ?_
  refine x_aload_n B (pc := 36) 0 dX2_init_36 rfl rfl ?_
  refine x_iconst B (pc := 37) 0 dX2_init_37 (by decide) ?_
  refine x_put B (pc := 38) xcl_R 0 0 4 [[(r, .inr (3, [.ref ka, .ref sa, .ref va, .int 0, .int 0]))], [(ka, .inl (D.1 10, 512, .inl (fun _ => 0)))], [(sa, .inl (D.1 10, 512, .inl (fun _ => 0)))], [(va, .inl (D.1 10, 512, .inl (fun _ => 0)))]] rfl rfl (by decide) tm66 rfl rfl rfl rfl rfl (Nat.le_of_ble_eq_true rfl) rfl rfl dX2_init_38 ?_
  refine x_flat B (cs1 := [rwW D r ka sa va xg0 0]) rfl ?_
  exact x_vret F (pc := 41) rfl dX2_init_41 (⟨rfl, ka, sa, va, rfl⟩) (Nat.le_of_ble_eq_true rfl) (Nat.le_of_ble_eq_true rfl)

set_option maxRecDepth 100000 in
set_option maxHeartbeats 4000000 in
theorem c_X3_init {l : Launch} (hl : l.stackTraces = false) (D : va_G) (e0 : Nat) {x : Nat}  : xC l yX3_init (.code yX3_init cX3_init 2 none) ({ frames := 4, cells := 15, slots := 3108, locals := 72 } : Room) D e0 [.ref x] [[(x, .inr (4, [.null, .null, .null, .null, .null, .int 0, .int 0, .int 0]))]] (fun v cs => v = none ∧ ∃ ad : Nat → Nat, ad 0 = x ∧ cs = [xoW ad 1 0 0, lkW D ad (fun _ _ => 0), alW D e0 (ad 2) (0, none) 0, rwW D (ad 3) (ad 10) (ad 11) (ad 12) xg0 0, rwW D (ad 4) (ad 13) (ad 14) (ad 15) xg0 0, alW D e0 (ad 5) (0, none) 0]) (fun _ => False) := by
  refine xC_of hl (by decide +kernel) (Nat.le_of_ble_eq_true rfl) (fun G X F => ?_)
  have B : xB l D e0 "CreditLinks" cX3_init 2 none [] _ G X := F.base
  show G 0 [(0, .ref x)] [] [[(x, .inr (4, [.null, .null, .null, .null, .null, .int 0, .int 0, .int 0]))]] 0 0
  refine x_aload_n B (pc := 0) 0 dX3_init_0 rfl rfl ?_
  refine x_objInit B (pc := 1) tm25 tm26 tm27 (Nat.le_of_ble_eq_true rfl) (Nat.le_of_ble_eq_true rfl) dX3_init_1 ?_
  refine x_aload_n B (pc := 4) 0 dX3_init_4 rfl rfl ?_
  refine x_iconst B (pc := 5) 4 dX3_init_5 (by decide) ?_
  refine x_val B (y := nI 4) rfl ?_
  refine x_newK B (pc := 6) 4 tm28 (by decide) (by decide) (by decide) (Nat.le_of_ble_eq_true rfl) (Nat.le_of_ble_eq_true rfl) dX3_init_6 (fun q1 => ?_)
  show G 9 [(0, .ref x)] [.ref q1, .ref x] [[(x, .inr (4, [.null, .null, .null, .null, .null, .int 0, .int 0, .int 0]))], [(q1, .inl (D.1 13, 4, xqs (fun _ => none)))]] 1 4
  refine x_putF F (pc := 9) xcl_X 0 0 0 [[(x, .inr (4, [.ref q1, .null, .null, .null, .null, .int 0, .int 0, .int 0]))], [(q1, .inl (D.1 13, 4, xqs (fun _ => none)))]] rfl rfl (by decide) tm100 rfl rfl rfl rfl rfl rfl rfl (Nat.le_of_ble_eq_true rfl) rfl rfl dX3_init_9 ?_
  refine x_aload_n B (pc := 12) 0 dX3_init_12 rfl rfl ?_
  refine x_new B (pc := 13) (fs := [.int 0, .null, .int 0]) xcl_A tm30 tm31 tm4 (fun j hj => by rcases (show j = 0 ∨ j = 1 ∨ j = 2 by omega) with rfl | rfl | rfl <;> rfl) (Nat.le_of_ble_eq_true rfl) (Nat.le_of_ble_eq_true rfl) dX3_init_13 (fun q2 => ?_)
  show G 16 [(0, .ref x)] [.ref q2, .ref x] [[(x, .inr (4, [.ref q1, .null, .null, .null, .null, .int 0, .int 0, .int 0]))], [(q1, .inl (D.1 13, 4, xqs (fun _ => none)))], [(q2, .inr (0, [.int 0, .null, .int 0]))]] 2 7
  refine x_dup B (pc := 16) dX3_init_16 rfl ?_
  refine x_callI B (pc := 17) (As := []) (c_Jx4a65c_init_da8c8 hl D e0 ) rfl tm32 tm33 tm4 tm34 md_Jx4a65c_init_da8c8 ⟨Nat.le_of_ble_eq_true rfl, Nat.le_of_ble_eq_true rfl⟩ [2] rfl rfl rfl (Nat.le_of_ble_eq_true rfl) (Nat.le_of_ble_eq_true rfl) (Nat.le_of_ble_eq_true rfl) dX3_init_17 (fun E hE => False.elim hE) (fun v cs1 hp => ?_)
  obtain ⟨rfl, rfl⟩ := hp
  show G 20 [(0, .ref x)] [.ref q2, .ref x] [[(x, .inr (4, [.ref q1, .null, .null, .null, .null, .int 0, .int 0, .int 0]))], [(q1, .inl (D.1 13, 4, xqs (fun _ => none)))], alW D e0 q2 (0, none) 0] 2 7
  refine x_putF F (pc := 20) xcl_X 0 0 1 [[(x, .inr (4, [.ref q1, .ref q2, .null, .null, .null, .int 0, .int 0, .int 0]))], [(q1, .inl (D.1 13, 4, xqs (fun _ => none)))], alW D e0 q2 (0, none) 0] rfl rfl (by decide) tm101 rfl rfl rfl rfl rfl rfl rfl (Nat.le_of_ble_eq_true rfl) rfl rfl dX3_init_20 ?_
  refine x_aload_n B (pc := 23) 0 dX3_init_23 rfl rfl ?_
  refine x_new B (pc := 24) (fs := [.null, .null, .null, .int 0, .int 0]) xcl_R tm56 tm57 tm5 (fun j hj => by rcases (show j = 0 ∨ j = 1 ∨ j = 2 ∨ j = 3 ∨ j = 4 by omega) with rfl | rfl | rfl | rfl | rfl <;> rfl) (Nat.le_of_ble_eq_true rfl) (Nat.le_of_ble_eq_true rfl) dX3_init_24 (fun q3 => ?_)
  show G 27 [(0, .ref x)] [.ref q3, .ref x] [[(x, .inr (4, [.ref q1, .ref q2, .null, .null, .null, .int 0, .int 0, .int 0]))], [(q1, .inl (D.1 13, 4, xqs (fun _ => none)))], alW D e0 q2 (0, none) 0, [(q3, .inr (3, [.null, .null, .null, .int 0, .int 0]))]] 3 12
  refine x_dup B (pc := 27) dX3_init_27 rfl ?_
  refine x_callIN B (pc := 28) (host := "CreditLinks") (As := []) (c_X2_init hl D e0 ) rfl (by decide +kernel) tm59 tm5 tm60 md_X2_init ⟨Nat.le_of_ble_eq_true rfl, Nat.le_of_ble_eq_true rfl⟩ [3] rfl rfl rfl (Nat.le_of_ble_eq_true rfl) (Nat.le_of_ble_eq_true rfl) (Nat.le_of_ble_eq_true rfl) dX3_init_28 (fun E hE => False.elim hE) (fun v cs1 hp => ?_)
  obtain ⟨rfl, a3, b3, c3, rfl⟩ := hp
  show G 31 [(0, .ref x)] [.ref q3, .ref x] [[(x, .inr (4, [.ref q1, .ref q2, .null, .null, .null, .int 0, .int 0, .int 0]))], [(q1, .inl (D.1 13, 4, xqs (fun _ => none)))], alW D e0 q2 (0, none) 0, rwW D q3 a3 b3 c3 xg0 0] 6 1548
  refine x_putF F (pc := 31) xcl_X 0 0 2 [[(x, .inr (4, [.ref q1, .ref q2, .ref q3, .null, .null, .int 0, .int 0, .int 0]))], [(q1, .inl (D.1 13, 4, xqs (fun _ => none)))], alW D e0 q2 (0, none) 0, rwW D q3 a3 b3 c3 xg0 0] rfl rfl (by decide) tm102 rfl rfl rfl rfl rfl rfl rfl (Nat.le_of_ble_eq_true rfl) rfl rfl dX3_init_31 ?_
  refine x_aload_n B (pc := 34) 0 dX3_init_34 rfl rfl ?_
  refine x_new B (pc := 35) (fs := [.null, .null, .null, .int 0, .int 0]) xcl_R tm56 tm57 tm5 (fun j hj => by rcases (show j = 0 ∨ j = 1 ∨ j = 2 ∨ j = 3 ∨ j = 4 by omega) with rfl | rfl | rfl | rfl | rfl <;> rfl) (Nat.le_of_ble_eq_true rfl) (Nat.le_of_ble_eq_true rfl) dX3_init_35 (fun q4 => ?_)
  show G 38 [(0, .ref x)] [.ref q4, .ref x] [[(x, .inr (4, [.ref q1, .ref q2, .ref q3, .null, .null, .int 0, .int 0, .int 0]))], [(q1, .inl (D.1 13, 4, xqs (fun _ => none)))], alW D e0 q2 (0, none) 0, rwW D q3 a3 b3 c3 xg0 0, [(q4, .inr (3, [.null, .null, .null, .int 0, .int 0]))]] 7 1553
  refine x_dup B (pc := 38) dX3_init_38 rfl ?_
  refine x_callIN B (pc := 39) (host := "CreditLinks") (As := []) (c_X2_init hl D e0 ) rfl (by decide +kernel) tm59 tm5 tm60 md_X2_init ⟨Nat.le_of_ble_eq_true rfl, Nat.le_of_ble_eq_true rfl⟩ [4] rfl rfl rfl (Nat.le_of_ble_eq_true rfl) (Nat.le_of_ble_eq_true rfl) (Nat.le_of_ble_eq_true rfl) dX3_init_39 (fun E hE => False.elim hE) (fun v cs1 hp => ?_)
  obtain ⟨rfl, a4, b4, c4, rfl⟩ := hp
  show G 42 [(0, .ref x)] [.ref q4, .ref x] [[(x, .inr (4, [.ref q1, .ref q2, .ref q3, .null, .null, .int 0, .int 0, .int 0]))], [(q1, .inl (D.1 13, 4, xqs (fun _ => none)))], alW D e0 q2 (0, none) 0, rwW D q3 a3 b3 c3 xg0 0, rwW D q4 a4 b4 c4 xg0 0] 10 3089
  refine x_putF F (pc := 42) xcl_X 0 0 3 [[(x, .inr (4, [.ref q1, .ref q2, .ref q3, .ref q4, .null, .int 0, .int 0, .int 0]))], [(q1, .inl (D.1 13, 4, xqs (fun _ => none)))], alW D e0 q2 (0, none) 0, rwW D q3 a3 b3 c3 xg0 0, rwW D q4 a4 b4 c4 xg0 0] rfl rfl (by decide) tm103 rfl rfl rfl rfl rfl rfl rfl (Nat.le_of_ble_eq_true rfl) rfl rfl dX3_init_42 ?_
  refine x_aload_n B (pc := 45) 0 dX3_init_45 rfl rfl ?_
  refine x_new B (pc := 46) (fs := [.int 0, .null, .int 0]) xcl_A tm30 tm31 tm4 (fun j hj => by rcases (show j = 0 ∨ j = 1 ∨ j = 2 by omega) with rfl | rfl | rfl <;> rfl) (Nat.le_of_ble_eq_true rfl) (Nat.le_of_ble_eq_true rfl) dX3_init_46 (fun q5 => ?_)
  show G 49 [(0, .ref x)] [.ref q5, .ref x] [[(x, .inr (4, [.ref q1, .ref q2, .ref q3, .ref q4, .null, .int 0, .int 0, .int 0]))], [(q1, .inl (D.1 13, 4, xqs (fun _ => none)))], alW D e0 q2 (0, none) 0, rwW D q3 a3 b3 c3 xg0 0, rwW D q4 a4 b4 c4 xg0 0, [(q5, .inr (0, [.int 0, .null, .int 0]))]] 11 3092
  refine x_dup B (pc := 49) dX3_init_49 rfl ?_
  refine x_callI B (pc := 50) (As := []) (c_Jx4a65c_init_da8c8 hl D e0 ) rfl tm32 tm33 tm4 tm34 md_Jx4a65c_init_da8c8 ⟨Nat.le_of_ble_eq_true rfl, Nat.le_of_ble_eq_true rfl⟩ [5] rfl rfl rfl (Nat.le_of_ble_eq_true rfl) (Nat.le_of_ble_eq_true rfl) (Nat.le_of_ble_eq_true rfl) dX3_init_50 (fun E hE => False.elim hE) (fun v cs1 hp => ?_)
  obtain ⟨rfl, rfl⟩ := hp
  show G 53 [(0, .ref x)] [.ref q5, .ref x] [[(x, .inr (4, [.ref q1, .ref q2, .ref q3, .ref q4, .null, .int 0, .int 0, .int 0]))], [(q1, .inl (D.1 13, 4, xqs (fun _ => none)))], alW D e0 q2 (0, none) 0, rwW D q3 a3 b3 c3 xg0 0, rwW D q4 a4 b4 c4 xg0 0, alW D e0 q5 (0, none) 0] 11 3092
  refine x_putF F (pc := 53) xcl_X 0 0 4 [[(x, .inr (4, [.ref q1, .ref q2, .ref q3, .ref q4, .ref q5, .int 0, .int 0, .int 0]))], [(q1, .inl (D.1 13, 4, xqs (fun _ => none)))], alW D e0 q2 (0, none) 0, rwW D q3 a3 b3 c3 xg0 0, rwW D q4 a4 b4 c4 xg0 0, alW D e0 q5 (0, none) 0] rfl rfl (by decide) tm104 rfl rfl rfl rfl rfl rfl rfl (Nat.le_of_ble_eq_true rfl) rfl rfl dX3_init_53 ?_
  refine x_aload_n B (pc := 56) 0 dX3_init_56 rfl rfl ?_
  refine x_iconst B (pc := 57) 1 dX3_init_57 (by decide) ?_
  refine x_put B (pc := 58) xcl_X 0 0 5 [[(x, .inr (4, [.ref q1, .ref q2, .ref q3, .ref q4, .ref q5, .int 1, .int 0, .int 0]))], [(q1, .inl (D.1 13, 4, xqs (fun _ => none)))], alW D e0 q2 (0, none) 0, rwW D q3 a3 b3 c3 xg0 0, rwW D q4 a4 b4 c4 xg0 0, alW D e0 q5 (0, none) 0] rfl rfl (by decide) tm105 rfl rfl rfl rfl rfl (Nat.le_of_ble_eq_true rfl) rfl rfl dX3_init_58 ?_
  refine x_aload_n B (pc := 61) 0 dX3_init_61 rfl rfl ?_
  refine x_iconst B (pc := 62) 0 dX3_init_62 (by decide) ?_
  refine x_put B (pc := 63) xcl_X 0 0 6 [[(x, .inr (4, [.ref q1, .ref q2, .ref q3, .ref q4, .ref q5, .int 1, .int 0, .int 0]))], [(q1, .inl (D.1 13, 4, xqs (fun _ => none)))], alW D e0 q2 (0, none) 0, rwW D q3 a3 b3 c3 xg0 0, rwW D q4 a4 b4 c4 xg0 0, alW D e0 q5 (0, none) 0] rfl rfl (by decide) tm106 rfl rfl rfl rfl rfl (Nat.le_of_ble_eq_true rfl) rfl rfl dX3_init_63 ?_
  refine x_aload_n B (pc := 66) 0 dX3_init_66 rfl rfl ?_
  refine x_iconst B (pc := 67) 0 dX3_init_67 (by decide) ?_
  refine x_put B (pc := 68) xcl_X 0 0 7 [[(x, .inr (4, [.ref q1, .ref q2, .ref q3, .ref q4, .ref q5, .int 1, .int 0, .int 0]))], [(q1, .inl (D.1 13, 4, xqs (fun _ => none)))], alW D e0 q2 (0, none) 0, rwW D q3 a3 b3 c3 xg0 0, rwW D q4 a4 b4 c4 xg0 0, alW D e0 q5 (0, none) 0] rfl rfl (by decide) tm107 rfl rfl rfl rfl rfl (Nat.le_of_ble_eq_true rfl) rfl rfl dX3_init_68 ?_
  refine x_iconst B (pc := 71) 0 dX3_init_71 (by decide) ?_
  refine x_val B (y := nI 0) rfl ?_
  refine x_istore_n B (pc := 72) [(1, .int (nI 0)), (0, .ref x)] dX3_init_72 rfl (by decide) rfl ?_
  refine x_iload_n B (pc := 73) 0 dX3_init_73 rfl rfl ?_
  refine x_iconst B (pc := 74) 4 dX3_init_74 (by decide) ?_
  refine x_icmp_ge B (pc := 75) 97 dX3_init_75 (by decide) (fun h75 => absurd h75 (by decide)) (fun h75 => ?_)
  refine x_aload_n B (pc := 78) 1 dX3_init_78 rfl rfl ?_
  refine x_get B (pc := 79) xcl_X 0 0 0 rfl rfl (by decide) tm100 rfl rfl dX3_init_79 ?_
  refine x_iload_n B (pc := 82) 0 dX3_init_82 rfl rfl ?_
  refine x_new B (pc := 83) (fs := [.int 0, .int 0, .int 0, .int 0]) xcl_L tm28 tm79 tm6 (fun j hj => by rcases (show j = 0 ∨ j = 1 ∨ j = 2 ∨ j = 3 by omega) with rfl | rfl | rfl | rfl <;> rfl) (Nat.le_of_ble_eq_true rfl) (Nat.le_of_ble_eq_true rfl) dX3_init_83 (fun k0 => ?_)
  show G 86 [(1, .int (nI 0)), (0, .ref x)] [.ref k0, .int (nI 0), .ref q1] [[(x, .inr (4, [.ref q1, .ref q2, .ref q3, .ref q4, .ref q5, .int 1, .int 0, .int 0]))], [(q1, .inl (D.1 13, 4, xqs (fun _ => none)))], alW D e0 q2 (0, none) 0, rwW D q3 a3 b3 c3 xg0 0, rwW D q4 a4 b4 c4 xg0 0, alW D e0 q5 (0, none) 0, [(k0, .inr (2, [.int 0, .int 0, .int 0, .int 0]))]] 12 3096
  refine x_dup B (pc := 86) dX3_init_86 rfl ?_
  refine x_callIN B (pc := 87) (host := "CreditLinks") (As := []) (c_X1_init hl D e0 ) rfl (by decide +kernel) tm81 tm6 tm82 md_X1_init ⟨Nat.le_of_ble_eq_true rfl, Nat.le_of_ble_eq_true rfl⟩ [6] rfl rfl rfl (Nat.le_of_ble_eq_true rfl) (Nat.le_of_ble_eq_true rfl) (Nat.le_of_ble_eq_true rfl) dX3_init_87 (fun E hE => False.elim hE) (fun v cs1 hp => ?_)
  obtain ⟨rfl, rfl⟩ := hp
  show G 90 [(1, .int (nI 0)), (0, .ref x)] [.ref k0, .int (nI 0), .ref q1] [[(x, .inr (4, [.ref q1, .ref q2, .ref q3, .ref q4, .ref q5, .int 1, .int 0, .int 0]))], [(q1, .inl (D.1 13, 4, xqs (fun _ => none)))], alW D e0 q2 (0, none) 0, rwW D q3 a3 b3 c3 xg0 0, rwW D q4 a4 b4 c4 xg0 0, alW D e0 q5 (0, none) 0, [(k0, .inr (2, [.int 0, .int 0, .int 0, .int 0]))]] 12 3096
  refine x_kastN B (pc := 90) 0 1 0 6 0 [[(x, .inr (4, [.ref q1, .ref q2, .ref q3, .ref q4, .ref q5, .int 1, .int 0, .int 0]))], [(q1, .inl (D.1 13, 4, xqs (va_up (fun _ => none) 0 (some k0))))], alW D e0 q2 (0, none) 0, rwW D q3 a3 b3 c3 xg0 0, rwW D q4 a4 b4 c4 xg0 0, alW D e0 q5 (0, none) 0, [(k0, .inr (2, [.int 0, .int 0, .int 0, .int 0]))]] (by decide) (by decide) rfl rfl rfl rfl rfl rfl dX3_init_90 ?_
  refine x_iinc B (pc := 91) 0 (nI 1) [(1, .int (nI 1)), (0, .ref x)] dX3_init_91 rfl (nI_1 0) (by decide) rfl ?_
  refine x_goto B (pc := 94) 73 dX3_init_94 (by decide) ?_
  refine x_iload_n B (pc := 73) 0 dX3_init_73 rfl rfl ?_
  refine x_iconst B (pc := 74) 4 dX3_init_74 (by decide) ?_
  refine x_icmp_ge B (pc := 75) 97 dX3_init_75 (by decide) (fun h75 => absurd h75 (by decide)) (fun h75 => ?_)
  refine x_aload_n B (pc := 78) 1 dX3_init_78 rfl rfl ?_
  refine x_get B (pc := 79) xcl_X 0 0 0 rfl rfl (by decide) tm100 rfl rfl dX3_init_79 ?_
  refine x_iload_n B (pc := 82) 0 dX3_init_82 rfl rfl ?_
  refine x_new B (pc := 83) (fs := [.int 0, .int 0, .int 0, .int 0]) xcl_L tm28 tm79 tm6 (fun j hj => by rcases (show j = 0 ∨ j = 1 ∨ j = 2 ∨ j = 3 by omega) with rfl | rfl | rfl | rfl <;> rfl) (Nat.le_of_ble_eq_true rfl) (Nat.le_of_ble_eq_true rfl) dX3_init_83 (fun k1 => ?_)
  show G 86 [(1, .int (nI 1)), (0, .ref x)] [.ref k1, .int (nI 1), .ref q1] [[(x, .inr (4, [.ref q1, .ref q2, .ref q3, .ref q4, .ref q5, .int 1, .int 0, .int 0]))], [(q1, .inl (D.1 13, 4, xqs (va_up (fun _ => none) 0 (some k0))))], alW D e0 q2 (0, none) 0, rwW D q3 a3 b3 c3 xg0 0, rwW D q4 a4 b4 c4 xg0 0, alW D e0 q5 (0, none) 0, [(k0, .inr (2, [.int 0, .int 0, .int 0, .int 0]))], [(k1, .inr (2, [.int 0, .int 0, .int 0, .int 0]))]] 13 3100
  refine x_dup B (pc := 86) dX3_init_86 rfl ?_
  refine x_callIN B (pc := 87) (host := "CreditLinks") (As := []) (c_X1_init hl D e0 ) rfl (by decide +kernel) tm81 tm6 tm82 md_X1_init ⟨Nat.le_of_ble_eq_true rfl, Nat.le_of_ble_eq_true rfl⟩ [7] rfl rfl rfl (Nat.le_of_ble_eq_true rfl) (Nat.le_of_ble_eq_true rfl) (Nat.le_of_ble_eq_true rfl) dX3_init_87 (fun E hE => False.elim hE) (fun v cs1 hp => ?_)
  obtain ⟨rfl, rfl⟩ := hp
  show G 90 [(1, .int (nI 1)), (0, .ref x)] [.ref k1, .int (nI 1), .ref q1] [[(x, .inr (4, [.ref q1, .ref q2, .ref q3, .ref q4, .ref q5, .int 1, .int 0, .int 0]))], [(q1, .inl (D.1 13, 4, xqs (va_up (fun _ => none) 0 (some k0))))], alW D e0 q2 (0, none) 0, rwW D q3 a3 b3 c3 xg0 0, rwW D q4 a4 b4 c4 xg0 0, alW D e0 q5 (0, none) 0, [(k0, .inr (2, [.int 0, .int 0, .int 0, .int 0]))], [(k1, .inr (2, [.int 0, .int 0, .int 0, .int 0]))]] 13 3100
  refine x_kastN B (pc := 90) 1 1 0 7 0 [[(x, .inr (4, [.ref q1, .ref q2, .ref q3, .ref q4, .ref q5, .int 1, .int 0, .int 0]))], [(q1, .inl (D.1 13, 4, xqs (va_up (va_up (fun _ => none) 0 (some k0)) 1 (some k1))))], alW D e0 q2 (0, none) 0, rwW D q3 a3 b3 c3 xg0 0, rwW D q4 a4 b4 c4 xg0 0, alW D e0 q5 (0, none) 0, [(k0, .inr (2, [.int 0, .int 0, .int 0, .int 0]))], [(k1, .inr (2, [.int 0, .int 0, .int 0, .int 0]))]] (by decide) (by decide) rfl rfl rfl rfl rfl rfl dX3_init_90 ?_
  refine x_iinc B (pc := 91) 0 (nI 2) [(1, .int (nI 2)), (0, .ref x)] dX3_init_91 rfl (nI_1 1) (by decide) rfl ?_
  refine x_goto B (pc := 94) 73 dX3_init_94 (by decide) ?_
  refine x_iload_n B (pc := 73) 0 dX3_init_73 rfl rfl ?_
  refine x_iconst B (pc := 74) 4 dX3_init_74 (by decide) ?_
  refine x_icmp_ge B (pc := 75) 97 dX3_init_75 (by decide) (fun h75 => absurd h75 (by decide)) (fun h75 => ?_)
  refine x_aload_n B (pc := 78) 1 dX3_init_78 rfl rfl ?_
  refine x_get B (pc := 79) xcl_X 0 0 0 rfl rfl (by decide) tm100 rfl rfl dX3_init_79 ?_
  refine x_iload_n B (pc := 82) 0 dX3_init_82 rfl rfl ?_
  refine x_new B (pc := 83) (fs := [.int 0, .int 0, .int 0, .int 0]) xcl_L tm28 tm79 tm6 (fun j hj => by rcases (show j = 0 ∨ j = 1 ∨ j = 2 ∨ j = 3 by omega) with rfl | rfl | rfl | rfl <;> rfl) (Nat.le_of_ble_eq_true rfl) (Nat.le_of_ble_eq_true rfl) dX3_init_83 (fun k2 => ?_)
  show G 86 [(1, .int (nI 2)), (0, .ref x)] [.ref k2, .int (nI 2), .ref q1] [[(x, .inr (4, [.ref q1, .ref q2, .ref q3, .ref q4, .ref q5, .int 1, .int 0, .int 0]))], [(q1, .inl (D.1 13, 4, xqs (va_up (va_up (fun _ => none) 0 (some k0)) 1 (some k1))))], alW D e0 q2 (0, none) 0, rwW D q3 a3 b3 c3 xg0 0, rwW D q4 a4 b4 c4 xg0 0, alW D e0 q5 (0, none) 0, [(k0, .inr (2, [.int 0, .int 0, .int 0, .int 0]))], [(k1, .inr (2, [.int 0, .int 0, .int 0, .int 0]))], [(k2, .inr (2, [.int 0, .int 0, .int 0, .int 0]))]] 14 3104
  refine x_dup B (pc := 86) dX3_init_86 rfl ?_
  refine x_callIN B (pc := 87) (host := "CreditLinks") (As := []) (c_X1_init hl D e0 ) rfl (by decide +kernel) tm81 tm6 tm82 md_X1_init ⟨Nat.le_of_ble_eq_true rfl, Nat.le_of_ble_eq_true rfl⟩ [8] rfl rfl rfl (Nat.le_of_ble_eq_true rfl) (Nat.le_of_ble_eq_true rfl) (Nat.le_of_ble_eq_true rfl) dX3_init_87 (fun E hE => False.elim hE) (fun v cs1 hp => ?_)
  obtain ⟨rfl, rfl⟩ := hp
  show G 90 [(1, .int (nI 2)), (0, .ref x)] [.ref k2, .int (nI 2), .ref q1] [[(x, .inr (4, [.ref q1, .ref q2, .ref q3, .ref q4, .ref q5, .int 1, .int 0, .int 0]))], [(q1, .inl (D.1 13, 4, xqs (va_up (va_up (fun _ => none) 0 (some k0)) 1 (some k1))))], alW D e0 q2 (0, none) 0, rwW D q3 a3 b3 c3 xg0 0, rwW D q4 a4 b4 c4 xg0 0, alW D e0 q5 (0, none) 0, [(k0, .inr (2, [.int 0, .int 0, .int 0, .int 0]))], [(k1, .inr (2, [.int 0, .int 0, .int 0, .int 0]))], [(k2, .inr (2, [.int 0, .int 0, .int 0, .int 0]))]] 14 3104
  refine x_kastN B (pc := 90) 2 1 0 8 0 [[(x, .inr (4, [.ref q1, .ref q2, .ref q3, .ref q4, .ref q5, .int 1, .int 0, .int 0]))], [(q1, .inl (D.1 13, 4, xqs (va_up (va_up (va_up (fun _ => none) 0 (some k0)) 1 (some k1)) 2 (some k2))))], alW D e0 q2 (0, none) 0, rwW D q3 a3 b3 c3 xg0 0, rwW D q4 a4 b4 c4 xg0 0, alW D e0 q5 (0, none) 0, [(k0, .inr (2, [.int 0, .int 0, .int 0, .int 0]))], [(k1, .inr (2, [.int 0, .int 0, .int 0, .int 0]))], [(k2, .inr (2, [.int 0, .int 0, .int 0, .int 0]))]] (by decide) (by decide) rfl rfl rfl rfl rfl rfl dX3_init_90 ?_
  refine x_iinc B (pc := 91) 0 (nI 3) [(1, .int (nI 3)), (0, .ref x)] dX3_init_91 rfl (nI_1 2) (by decide) rfl ?_
  refine x_goto B (pc := 94) 73 dX3_init_94 (by decide) ?_
  refine x_iload_n B (pc := 73) 0 dX3_init_73 rfl rfl ?_
  refine x_iconst B (pc := 74) 4 dX3_init_74 (by decide) ?_
  refine x_icmp_ge B (pc := 75) 97 dX3_init_75 (by decide) (fun h75 => absurd h75 (by decide)) (fun h75 => ?_)
  refine x_aload_n B (pc := 78) 1 dX3_init_78 rfl rfl ?_
  refine x_get B (pc := 79) xcl_X 0 0 0 rfl rfl (by decide) tm100 rfl rfl dX3_init_79 ?_
  refine x_iload_n B (pc := 82) 0 dX3_init_82 rfl rfl ?_
  refine x_new B (pc := 83) (fs := [.int 0, .int 0, .int 0, .int 0]) xcl_L tm28 tm79 tm6 (fun j hj => by rcases (show j = 0 ∨ j = 1 ∨ j = 2 ∨ j = 3 by omega) with rfl | rfl | rfl | rfl <;> rfl) (Nat.le_of_ble_eq_true rfl) (Nat.le_of_ble_eq_true rfl) dX3_init_83 (fun k3 => ?_)
  show G 86 [(1, .int (nI 3)), (0, .ref x)] [.ref k3, .int (nI 3), .ref q1] [[(x, .inr (4, [.ref q1, .ref q2, .ref q3, .ref q4, .ref q5, .int 1, .int 0, .int 0]))], [(q1, .inl (D.1 13, 4, xqs (va_up (va_up (va_up (fun _ => none) 0 (some k0)) 1 (some k1)) 2 (some k2))))], alW D e0 q2 (0, none) 0, rwW D q3 a3 b3 c3 xg0 0, rwW D q4 a4 b4 c4 xg0 0, alW D e0 q5 (0, none) 0, [(k0, .inr (2, [.int 0, .int 0, .int 0, .int 0]))], [(k1, .inr (2, [.int 0, .int 0, .int 0, .int 0]))], [(k2, .inr (2, [.int 0, .int 0, .int 0, .int 0]))], [(k3, .inr (2, [.int 0, .int 0, .int 0, .int 0]))]] 15 3108
  refine x_dup B (pc := 86) dX3_init_86 rfl ?_
  refine x_callIN B (pc := 87) (host := "CreditLinks") (As := []) (c_X1_init hl D e0 ) rfl (by decide +kernel) tm81 tm6 tm82 md_X1_init ⟨Nat.le_of_ble_eq_true rfl, Nat.le_of_ble_eq_true rfl⟩ [9] rfl rfl rfl (Nat.le_of_ble_eq_true rfl) (Nat.le_of_ble_eq_true rfl) (Nat.le_of_ble_eq_true rfl) dX3_init_87 (fun E hE => False.elim hE) (fun v cs1 hp => ?_)
  obtain ⟨rfl, rfl⟩ := hp
  show G 90 [(1, .int (nI 3)), (0, .ref x)] [.ref k3, .int (nI 3), .ref q1] [[(x, .inr (4, [.ref q1, .ref q2, .ref q3, .ref q4, .ref q5, .int 1, .int 0, .int 0]))], [(q1, .inl (D.1 13, 4, xqs (va_up (va_up (va_up (fun _ => none) 0 (some k0)) 1 (some k1)) 2 (some k2))))], alW D e0 q2 (0, none) 0, rwW D q3 a3 b3 c3 xg0 0, rwW D q4 a4 b4 c4 xg0 0, alW D e0 q5 (0, none) 0, [(k0, .inr (2, [.int 0, .int 0, .int 0, .int 0]))], [(k1, .inr (2, [.int 0, .int 0, .int 0, .int 0]))], [(k2, .inr (2, [.int 0, .int 0, .int 0, .int 0]))], [(k3, .inr (2, [.int 0, .int 0, .int 0, .int 0]))]] 15 3108
  refine x_kastN B (pc := 90) 3 1 0 9 0 [[(x, .inr (4, [.ref q1, .ref q2, .ref q3, .ref q4, .ref q5, .int 1, .int 0, .int 0]))], [(q1, .inl (D.1 13, 4, xqs (va_up (va_up (va_up (va_up (fun _ => none) 0 (some k0)) 1 (some k1)) 2 (some k2)) 3 (some k3))))], alW D e0 q2 (0, none) 0, rwW D q3 a3 b3 c3 xg0 0, rwW D q4 a4 b4 c4 xg0 0, alW D e0 q5 (0, none) 0, [(k0, .inr (2, [.int 0, .int 0, .int 0, .int 0]))], [(k1, .inr (2, [.int 0, .int 0, .int 0, .int 0]))], [(k2, .inr (2, [.int 0, .int 0, .int 0, .int 0]))], [(k3, .inr (2, [.int 0, .int 0, .int 0, .int 0]))]] (by decide) (by decide) rfl rfl rfl rfl rfl rfl dX3_init_90 ?_
  refine x_iinc B (pc := 91) 0 (nI 4) [(1, .int (nI 4)), (0, .ref x)] dX3_init_91 rfl (nI_1 3) (by decide) rfl ?_
  refine x_goto B (pc := 94) 73 dX3_init_94 (by decide) ?_
  refine x_iload_n B (pc := 73) 0 dX3_init_73 rfl rfl ?_
  refine x_iconst B (pc := 74) 4 dX3_init_74 (by decide) ?_
  refine x_icmp_ge B (pc := 75) 97 dX3_init_75 (by decide) (fun h75 => ?_) (fun h75 => absurd (by decide) h75)
  refine x_congK B (g := fun j => some ((adOf x q1 q2 q3 q4 q5 k0 k1 k2 k3 a3 b3 c3 a4 b4 c4) (6 + j))) 1 0 [[(x, .inr (4, [.ref q1, .ref q2, .ref q3, .ref q4, .ref q5, .int 1, .int 0, .int 0]))], [(q1, .inl (D.1 13, 4, xqs (fun j => some ((adOf x q1 q2 q3 q4 q5 k0 k1 k2 k3 a3 b3 c3 a4 b4 c4) (6 + j)))))], alW D e0 q2 (0, none) 0, rwW D q3 a3 b3 c3 xg0 0, rwW D q4 a4 b4 c4 xg0 0, alW D e0 q5 (0, none) 0, [(k0, .inr (2, [.int 0, .int 0, .int 0, .int 0]))], [(k1, .inr (2, [.int 0, .int 0, .int 0, .int 0]))], [(k2, .inr (2, [.int 0, .int 0, .int 0, .int 0]))], [(k3, .inr (2, [.int 0, .int 0, .int 0, .int 0]))]] rfl rfl (fun i hi => by rcases (show i = 0 ∨ i = 1 ∨ i = 2 ∨ i = 3 by omega) with rfl | rfl | rfl | rfl <;> rfl) rfl rfl ?_
  refine x_drop B [0, 1, 6, 7, 8, 9, 2, 3, 4, 5] [[(x, .inr (4, [.ref q1, .ref q2, .ref q3, .ref q4, .ref q5, .int 1, .int 0, .int 0]))], [(q1, .inl (D.1 13, 4, xqs (fun j => some ((adOf x q1 q2 q3 q4 q5 k0 k1 k2 k3 a3 b3 c3 a4 b4 c4) (6 + j)))))], [(k0, .inr (2, [.int 0, .int 0, .int 0, .int 0]))], [(k1, .inr (2, [.int 0, .int 0, .int 0, .int 0]))], [(k2, .inr (2, [.int 0, .int 0, .int 0, .int 0]))], [(k3, .inr (2, [.int 0, .int 0, .int 0, .int 0]))], alW D e0 q2 (0, none) 0, rwW D q3 a3 b3 c3 xg0 0, rwW D q4 a4 b4 c4 xg0 0, alW D e0 q5 (0, none) 0] rfl rfl ?_
  refine x_flat B (cs1 := [xoW (adOf x q1 q2 q3 q4 q5 k0 k1 k2 k3 a3 b3 c3 a4 b4 c4) 1 0 0, lkW D (adOf x q1 q2 q3 q4 q5 k0 k1 k2 k3 a3 b3 c3 a4 b4 c4) (fun _ _ => 0), alW D e0 ((adOf x q1 q2 q3 q4 q5 k0 k1 k2 k3 a3 b3 c3 a4 b4 c4) 2) (0, none) 0, rwW D ((adOf x q1 q2 q3 q4 q5 k0 k1 k2 k3 a3 b3 c3 a4 b4 c4) 3) ((adOf x q1 q2 q3 q4 q5 k0 k1 k2 k3 a3 b3 c3 a4 b4 c4) 10) ((adOf x q1 q2 q3 q4 q5 k0 k1 k2 k3 a3 b3 c3 a4 b4 c4) 11) ((adOf x q1 q2 q3 q4 q5 k0 k1 k2 k3 a3 b3 c3 a4 b4 c4) 12) xg0 0, rwW D ((adOf x q1 q2 q3 q4 q5 k0 k1 k2 k3 a3 b3 c3 a4 b4 c4) 4) ((adOf x q1 q2 q3 q4 q5 k0 k1 k2 k3 a3 b3 c3 a4 b4 c4) 13) ((adOf x q1 q2 q3 q4 q5 k0 k1 k2 k3 a3 b3 c3 a4 b4 c4) 14) ((adOf x q1 q2 q3 q4 q5 k0 k1 k2 k3 a3 b3 c3 a4 b4 c4) 15) xg0 0, alW D e0 ((adOf x q1 q2 q3 q4 q5 k0 k1 k2 k3 a3 b3 c3 a4 b4 c4) 5) (0, none) 0]) rfl ?_
  exact x_vret F (pc := 97) rfl dX3_init_97 (⟨rfl, adOf x q1 q2 q3 q4 q5 k0 k1 k2 k3 a3 b3 c3 a4 b4 c4, rfl, rfl⟩) (Nat.le_of_ble_eq_true rfl) (Nat.le_of_ble_eq_true rfl)
