/-! the abstract steps of one delivery -/
def aCnt (S : xS) (d p : Nat) : Bool := (decide (p = 0) && (decide (S 9 d = 0) || decide (S 9 d = 4))) || (decide (S 9 d = 1) && decide (nI p = S 10 d))
def aComeS (S : xS) (d p : Nat) : xS := if aCnt S d p = true then xup (xup (xup S 11 d (if S 9 d = 1 then S 11 d else if S 9 d = 4 then 1 else 0)) 10 d (nI (p + 1))) 9 d (if nI (p + 1) = S 6 d then 2 else 1) else S
def aComeR (S : xS) (d p : Nat) : Int32 := if aCnt S d p = true then (if nI (p + 1) = S 6 d then 1 else 0) else 0
def aDec (S : xS) (d : Nat) (o : Int32) : xS := xup (xup (xup S 13 d (if o = 0 then S 13 d + 1 else S 13 d)) 12 d o) 9 d (if S 5 d = 2 then 3 else 4)
def aForget (S : xS) (d : Nat) : xS := if S 9 d = 3 then xup S 9 d 4 else S
def aSetS (S : xS) (d : Nat) (o : Int32) : xS := if S 7 d = 0 then xup (xup S 7 d 1) 8 d o else S
def aSetR (S : xS) (d : Nat) : Int32 := if S 7 d = 0 then 1 else 0
def aBring (S : xS) (d : Nat) : xS := if S 9 d = 1 then xup S 9 d (xbf (S 11 d)) else if S 9 d = 3 then xup (aSetS S d (S 12 d)) 9 d 4 else S
def aAnew (S : xS) (d : Nat) : Int32 := if S 7 d = 0 ∧ (S 9 d = 0 ∨ S 9 d = 1 ∨ S 9 d = 4) then 1 else 0
theorem xbf_of {r : Int32} (h : r = 0 ∨ r = 4) : xbf (if r = 4 then 1 else 0) = r := by
  rcases h with rfl | rfl <;> decide
theorem aCome_no {S : xS} {d p : Nat} (h : aCnt S d p = false) : aComeS S d p = S ∧ aComeR S d p = 0 := by
  unfold aComeS aComeR
  rw [h]
  exact ⟨rfl, rfl⟩
theorem aCome_b {S : xS} {d p : Nat} (h0 : p = 0) (h : S 9 d = 0 ∨ S 9 d = 4) : aComeS S d p = xup (xup (xup S 11 d (if S 9 d = 4 then 1 else 0)) 10 d (nI (p + 1))) 9 d (if nI (p + 1) = S 6 d then 2 else 1) ∧ aComeR S d p = (if nI (p + 1) = S 6 d then 1 else 0) := by
  have hc : aCnt S d p = true := by
    unfold aCnt
    rcases h with h | h <;> simp [h0, h]
  have hn : ¬ S 9 d = 1 := by
    rcases h with h | h <;> rw [h] <;> decide
  unfold aComeS aComeR
  rw [hc, if_pos rfl, if_pos rfl, if_neg hn]
  exact ⟨rfl, rfl⟩
theorem aCome_p {S : xS} {d p : Nat} (h : S 9 d = 1) (h2 : nI p = S 10 d) : aComeS S d p = xup (xup S 10 d (nI (p + 1))) 9 d (if nI (p + 1) = S 6 d then 2 else 1) ∧ aComeR S d p = (if nI (p + 1) = S 6 d then 1 else 0) := by
  have hc : aCnt S d p = true := by
    unfold aCnt
    simp [h, h2]
  unfold aComeS aComeR
  rw [hc, if_pos rfl, if_pos rfl, if_pos h, xup_id (F := S) (f := 11) (d := d) rfl]
  exact ⟨rfl, rfl⟩

set_option maxRecDepth 100000 in
set_option maxHeartbeats 4000000 in
theorem c_X0_init {l : Launch} (hl : l.stackTraces = false) (D : va_G) (e0 : Nat) {q : Nat} {n0 l0 m0 p0 : Int32}  : xC l yX0_init (.code yX0_init cX0_init 5 none) ({ frames := 1, cells := 0, slots := 0, locals := 12 } : Room) D e0 [.ref q, .int n0, .int l0, .int m0, .int p0] [[(q, .inr (1, [.int 0, .int 0, .int 0, .int 0, .int 0, .int 0, .int 0, .int 0, .int 0, .int 0, .int 0, .int 0]))]] (fun v cs => v = none ∧ cs = [[(q, .inr (1, [.int n0, .int l0, .int m0, .int p0, .int (if m0 = 0 then 1 else 0), .int (-1), .int 0, .int 0, .int 0, .int (-1), .int (-1), .int 0]))]]) (fun _ => False) := by
  refine xC_of hl (by decide +kernel) (Nat.le_of_ble_eq_true rfl) (fun G X F => ?_)
  have B : xB l D e0 "CreditLinks$Delivery" cX0_init 5 none [] _ G X := F.base
  show G 0 [(0, .ref q), (1, .int n0), (2, .int l0), (3, .int m0), (4, .int p0)] [] [[(q, .inr (1, [.int 0, .int 0, .int 0, .int 0, .int 0, .int 0, .int 0, .int 0, .int 0, .int 0, .int 0, .int 0]))]] 0 0
  refine x_aload_n B (pc := 0) 0 dX0_init_0 rfl rfl ?_
  refine x_objInit B (pc := 1) tm325 tm26 tm27 (Nat.le_of_ble_eq_true rfl) (Nat.le_of_ble_eq_true rfl) dX0_init_1 ?_
  refine x_aload_n B (pc := 4) 0 dX0_init_4 rfl rfl ?_
  refine x_iconst B (pc := 5) (-1) dX0_init_5 (by decide) ?_
  refine x_put B (pc := 6) xcl_D 0 0 5 [[(q, .inr (1, [.int 0, .int 0, .int 0, .int 0, .int 0, .int (-1), .int 0, .int 0, .int 0, .int 0, .int 0, .int 0]))]] rfl rfl (by decide) tm336 rfl rfl rfl rfl rfl (Nat.le_of_ble_eq_true rfl) rfl rfl dX0_init_6 ?_
  refine x_aload_n B (pc := 9) 0 dX0_init_9 rfl rfl ?_
  refine x_iconst B (pc := 10) 0 dX0_init_10 (by decide) ?_
  refine x_put B (pc := 11) xcl_D 0 0 6 [[(q, .inr (1, [.int 0, .int 0, .int 0, .int 0, .int 0, .int (-1), .int 0, .int 0, .int 0, .int 0, .int 0, .int 0]))]] rfl rfl (by decide) tm338 rfl rfl rfl rfl rfl (Nat.le_of_ble_eq_true rfl) rfl rfl dX0_init_11 ?_
  refine x_aload_n B (pc := 14) 0 dX0_init_14 rfl rfl ?_
  refine x_iconst B (pc := 15) 0 dX0_init_15 (by decide) ?_
  refine x_put B (pc := 16) xcl_D 0 0 7 [[(q, .inr (1, [.int 0, .int 0, .int 0, .int 0, .int 0, .int (-1), .int 0, .int 0, .int 0, .int 0, .int 0, .int 0]))]] rfl rfl (by decide) tm340 rfl rfl rfl rfl rfl (Nat.le_of_ble_eq_true rfl) rfl rfl dX0_init_16 ?_
  refine x_aload_n B (pc := 19) 0 dX0_init_19 rfl rfl ?_
  refine x_iconst B (pc := 20) 0 dX0_init_20 (by decide) ?_
  refine x_put B (pc := 21) xcl_D 0 0 8 [[(q, .inr (1, [.int 0, .int 0, .int 0, .int 0, .int 0, .int (-1), .int 0, .int 0, .int 0, .int 0, .int 0, .int 0]))]] rfl rfl (by decide) tm341 rfl rfl rfl rfl rfl (Nat.le_of_ble_eq_true rfl) rfl rfl dX0_init_21 ?_
  refine x_aload_n B (pc := 24) 0 dX0_init_24 rfl rfl ?_
  refine x_iconst B (pc := 25) (-1) dX0_init_25 (by decide) ?_
  refine x_put B (pc := 26) xcl_D 0 0 9 [[(q, .inr (1, [.int 0, .int 0, .int 0, .int 0, .int 0, .int (-1), .int 0, .int 0, .int 0, .int (-1), .int 0, .int 0]))]] rfl rfl (by decide) tm342 rfl rfl rfl rfl rfl (Nat.le_of_ble_eq_true rfl) rfl rfl dX0_init_26 ?_
  refine x_aload_n B (pc := 29) 0 dX0_init_29 rfl rfl ?_
  refine x_iconst B (pc := 30) (-1) dX0_init_30 (by decide) ?_
  refine x_put B (pc := 31) xcl_D 0 0 10 [[(q, .inr (1, [.int 0, .int 0, .int 0, .int 0, .int 0, .int (-1), .int 0, .int 0, .int 0, .int (-1), .int (-1), .int 0]))]] rfl rfl (by decide) tm343 rfl rfl rfl rfl rfl (Nat.le_of_ble_eq_true rfl) rfl rfl dX0_init_31 ?_
  refine x_aload_n B (pc := 34) 0 dX0_init_34 rfl rfl ?_
  refine x_iconst B (pc := 35) 0 dX0_init_35 (by decide) ?_
  refine x_put B (pc := 36) xcl_D 0 0 11 [[(q, .inr (1, [.int 0, .int 0, .int 0, .int 0, .int 0, .int (-1), .int 0, .int 0, .int 0, .int (-1), .int (-1), .int 0]))]] rfl rfl (by decide) tm345 rfl rfl rfl rfl rfl (Nat.le_of_ble_eq_true rfl) rfl rfl dX0_init_36 ?_
  refine x_aload_n B (pc := 39) 0 dX0_init_39 rfl rfl ?_
  refine x_iload_n B (pc := 40) 1 dX0_init_40 rfl rfl ?_
  refine x_putF F (pc := 41) xcl_D 0 0 0 [[(q, .inr (1, [.int n0, .int 0, .int 0, .int 0, .int 0, .int (-1), .int 0, .int 0, .int 0, .int (-1), .int (-1), .int 0]))]] rfl rfl (by decide) tm326 rfl rfl rfl rfl rfl rfl rfl (Nat.le_of_ble_eq_true rfl) rfl rfl dX0_init_41 ?_
  refine x_aload_n B (pc := 44) 0 dX0_init_44 rfl rfl ?_
  refine x_iload_n B (pc := 45) 2 dX0_init_45 rfl rfl ?_
  refine x_putF F (pc := 46) xcl_D 0 0 1 [[(q, .inr (1, [.int n0, .int l0, .int 0, .int 0, .int 0, .int (-1), .int 0, .int 0, .int 0, .int (-1), .int (-1), .int 0]))]] rfl rfl (by decide) tm328 rfl rfl rfl rfl rfl rfl rfl (Nat.le_of_ble_eq_true rfl) rfl rfl dX0_init_46 ?_
  refine x_aload_n B (pc := 49) 0 dX0_init_49 rfl rfl ?_
  refine x_iload_n B (pc := 50) 3 dX0_init_50 rfl rfl ?_
  refine x_putF F (pc := 51) xcl_D 0 0 2 [[(q, .inr (1, [.int n0, .int l0, .int m0, .int 0, .int 0, .int (-1), .int 0, .int 0, .int 0, .int (-1), .int (-1), .int 0]))]] rfl rfl (by decide) tm330 rfl rfl rfl rfl rfl rfl rfl (Nat.le_of_ble_eq_true rfl) rfl rfl dX0_init_51 ?_
  refine x_aload_n B (pc := 54) 0 dX0_init_54 rfl rfl ?_
  refine x_iload B (pc := 55) 4 dX0_init_55 rfl ?_
  refine x_putF F (pc := 57) xcl_D 0 0 3 [[(q, .inr (1, [.int n0, .int l0, .int m0, .int p0, .int 0, .int (-1), .int 0, .int 0, .int 0, .int (-1), .int (-1), .int 0]))]] rfl rfl (by decide) tm332 rfl rfl rfl rfl rfl rfl rfl (Nat.le_of_ble_eq_true rfl) rfl rfl dX0_init_57 ?_
  refine x_aload_n B (pc := 60) 0 dX0_init_60 rfl rfl ?_
  refine x_iload_n B (pc := 61) 3 dX0_init_61 rfl rfl ?_
  refine x_if_ne B (pc := 62) 69 dX0_init_62 (by decide) (fun h62 => ?_) (fun h62 => ?_)
  · skip
    refine x_iconst B (pc := 69) 0 dX0_init_69 (by decide) ?_
    refine x_put B (pc := 70) xcl_D 0 0 4 [[(q, .inr (1, [.int n0, .int l0, .int m0, .int p0, .int 0, .int (-1), .int 0, .int 0, .int 0, .int (-1), .int (-1), .int 0]))]] rfl rfl (by decide) tm334 rfl rfl rfl rfl rfl (Nat.le_of_ble_eq_true rfl) rfl rfl dX0_init_70 ?_
    exact x_vret F (pc := 73) rfl dX0_init_73 (⟨rfl, by first | (simp only [if_pos h62]; done) | (simp only [if_neg h62]; done)⟩) (Nat.le_of_ble_eq_true rfl) (Nat.le_of_ble_eq_true rfl)
  · skip
    refine x_iconst B (pc := 65) 1 dX0_init_65 (by decide) ?_
    refine x_goto B (pc := 66) 70 dX0_init_66 (by decide) ?_
    refine x_put B (pc := 70) xcl_D 0 0 4 [[(q, .inr (1, [.int n0, .int l0, .int m0, .int p0, .int 1, .int (-1), .int 0, .int 0, .int 0, .int (-1), .int (-1), .int 0]))]] rfl rfl (by decide) tm334 rfl rfl rfl rfl rfl (Nat.le_of_ble_eq_true rfl) rfl rfl dX0_init_70 ?_
    exact x_vret F (pc := 73) rfl dX0_init_73 (⟨rfl, by first | (simp only [if_pos h62]; done) | (simp only [if_neg h62]; done)⟩) (Nat.le_of_ble_eq_true rfl) (Nat.le_of_ble_eq_true rfl)

set_option maxRecDepth 100000 in
set_option maxHeartbeats 4000000 in
theorem c_X0_takePart {l : Launch} (hl : l.stackTraces = false) (D : va_G) (e0 : Nat) {da : Nat → Nat} {N : Nat} {S : xS} {om : Nat → Int32} {d : Nat} {p : Nat} (hd : d < N) (hp4 : p < 4) : xC l yX0_takePart (.code yX0_takePart cX0_takePart 4 (some .boolean)) ({ frames := 0, cells := 0, slots := 0, locals := 0 } : Room) D e0 [.ref (da d), .int (nI p)] [dvW da N S om] (fun v cs => v = some (.int (aComeR S d p)) ∧ cs = [dvW da N (aComeS S d p) om]) (fun _ => False) := by
  refine xC_of hl (by decide +kernel) (Nat.le_of_ble_eq_true rfl) (fun G X F => ?_)
  have B : xB l D e0 "CreditLinks$Delivery" cX0_takePart 4 (some .boolean) [] _ G X := F.base
  show G 0 [(0, .ref (da d)), (1, .int (nI p))] [] [dvW da N S om] 0 0
  refine x_aload_n B (pc := 0) 0 dX0_takePart_0 rfl rfl ?_
  refine x_get B (pc := 1) (v := .int (S 9 d)) xcl_D 0 d 6 rfl (dv_get hd) (by decide) tm338 rfl rfl dX0_takePart_1 ?_
  refine x_if_eq B (pc := 4) 15 dX0_takePart_4 (by decide) (fun h4 => ?_) (fun h4 => ?_)
  · skip
    refine x_iconst B (pc := 15) 1 dX0_takePart_15 (by decide) ?_
    refine x_goto B (pc := 16) 20 dX0_takePart_16 (by decide) ?_
    refine x_istore_n B (pc := 20) [(2, .int 1), (0, .ref (da d)), (1, .int (nI p))] dX0_takePart_20 rfl (by decide) rfl ?_
    refine x_iload_n B (pc := 21) 0 dX0_takePart_21 rfl rfl ?_
    refine x_if_eq B (pc := 22) 37 dX0_takePart_22 (by decide) (fun h22 => absurd h22 (by decide)) (fun h22 => ?_)
    refine x_iload_n B (pc := 25) 2 dX0_takePart_25 rfl rfl ?_
    refine x_if_ne B (pc := 26) 33 dX0_takePart_26 (by decide) (fun h26 => ?_) (fun h26 => ?_)
    · skip
      refine x_iconst B (pc := 33) 0 dX0_takePart_33 (by decide) ?_
      refine x_goto B (pc := 34) 58 dX0_takePart_34 (by decide) ?_
      refine x_istore_n B (pc := 58) [(3, .int 0), (2, .int 1), (0, .ref (da d)), (1, .int (nI p))] dX0_takePart_58 rfl (by decide) rfl ?_
      refine x_iload_n B (pc := 59) 0 dX0_takePart_59 rfl rfl ?_
      refine x_if_ne B (pc := 60) 65 dX0_takePart_60 (by decide) (fun h60 => absurd (by decide) h60) (fun h60 => ?_)
      refine x_iconst B (pc := 63) 0 dX0_takePart_63 (by decide) ?_
      have hno : aCnt S d p = false := by
        unfold aCnt
        first
          | (simp [h4, show p ≠ 0 from fun e => h26 (by rw [e]; rfl)]; done)
          | (simp [h12, show p ≠ 0 from fun e => h26 (by rw [e]; rfl)]; done)
          | (simp [h4, h12, h42]; done)
          | (simp [h42, h50]; done)
      exact x_zret F (pc := 64) rfl rfl dX0_takePart_64 (⟨by rw [(aCome_no hno).2], by rw [(aCome_no hno).1]⟩) (Nat.le_of_ble_eq_true rfl) (Nat.le_of_ble_eq_true rfl)
    · skip
      refine x_iconst B (pc := 29) 1 dX0_takePart_29 (by decide) ?_
      refine x_goto B (pc := 30) 58 dX0_takePart_30 (by decide) ?_
      refine x_istore_n B (pc := 58) [(3, .int 1), (2, .int 1), (0, .ref (da d)), (1, .int (nI p))] dX0_takePart_58 rfl (by decide) rfl ?_
      refine x_iload_n B (pc := 59) 0 dX0_takePart_59 rfl rfl ?_
      refine x_if_ne B (pc := 60) 65 dX0_takePart_60 (by decide) (fun h60 => ?_) (fun h60 => absurd h60 (by decide))
      refine x_iload_n B (pc := 65) 1 dX0_takePart_65 rfl rfl ?_
      refine x_if_eq B (pc := 66) 77 dX0_takePart_66 (by decide) (fun h66 => absurd h66 (by decide)) (fun h66 => ?_)
      have hbg : S 9 d = 0 ∨ S 9 d = 4 := by first | exact Or.inl h4 | exact Or.inr h12
      have hp0 : p = 0 := (nI_eq (by omega) (by decide)).mp (h26.trans nI_0.symm)
      refine x_aload_n B (pc := 69) 2 dX0_takePart_69 rfl rfl ?_
      refine x_aload_n B (pc := 70) 2 dX0_takePart_70 rfl rfl ?_
      refine x_get B (pc := 71) (v := .int (S 9 d)) xcl_D 0 d 6 rfl (dv_get hd) (by decide) tm338 rfl rfl dX0_takePart_71 ?_
      refine x_put B (pc := 74) xcl_D 0 d 7 [dvW da N (xup S 11 d (if S 9 d = 4 then 1 else 0)) om] rfl (dv_get hd) (by decide) tm340 rfl rfl rfl rfl rfl (Nat.le_of_ble_eq_true rfl) (dv_set7 (xbf_of hbg) hd) rfl dX0_takePart_74 ?_
      refine x_aload_n B (pc := 77) 2 dX0_takePart_77 rfl rfl ?_
      refine x_iload_n B (pc := 78) 3 dX0_takePart_78 rfl rfl ?_
      refine x_iconst B (pc := 79) 1 dX0_takePart_79 (by decide) ?_
      refine x_iadd B (pc := 80) dX0_takePart_80 ?_
      refine x_val B (y := nI (p + 1)) (nI_1 p) ?_
      refine x_put B (pc := 81) xcl_D 0 d 8 [dvW da N (xup (xup S 11 d (if S 9 d = 4 then 1 else 0)) 10 d (nI (p + 1))) om] rfl (dv_get hd) (by decide) tm341 rfl rfl rfl rfl rfl (Nat.le_of_ble_eq_true rfl) (dv_set8 hd) rfl dX0_takePart_81 ?_
      refine x_aload_n B (pc := 84) 2 dX0_takePart_84 rfl rfl ?_
      refine x_aload_n B (pc := 85) 2 dX0_takePart_85 rfl rfl ?_
      refine x_get B (pc := 86) (v := .int (nI (p + 1))) xcl_D 0 d 8 rfl (dv_get hd) (by decide) tm341 rfl (congrArg (fun z => some (Value.int z)) (xup_same (xup S 11 d (if S 9 d = 4 then 1 else 0)) 10 d (nI (p + 1)))) dX0_takePart_86 ?_
      refine x_aload_n B (pc := 89) 2 dX0_takePart_89 rfl rfl ?_
      refine x_get B (pc := 90) (v := .int (S 6 d)) xcl_D 0 d 3 rfl (dv_get hd) (by decide) tm332 rfl rfl dX0_takePart_90 ?_
      refine x_icmp_ne B (pc := 93) 100 dX0_takePart_93 (by decide) (fun h93 => ?_) (fun h93 => ?_)
      · skip
        refine x_iconst B (pc := 100) 1 dX0_takePart_100 (by decide) ?_
        refine x_put B (pc := 101) xcl_D 0 d 6 [dvW da N (xup (xup (xup S 11 d (if S 9 d = 4 then 1 else 0)) 10 d (nI (p + 1))) 9 d 1) om] rfl (dv_get hd) (by decide) tm338 rfl rfl rfl rfl rfl (Nat.le_of_ble_eq_true rfl) (dv_set6 hd) rfl dX0_takePart_101 ?_
        refine x_aload_n B (pc := 104) 2 dX0_takePart_104 rfl rfl ?_
        refine x_get B (pc := 105) (v := .int 1) xcl_D 0 d 6 rfl (dv_get hd) (by decide) tm338 rfl (congrArg (fun z => some (Value.int z)) (xup_same (xup (xup S 11 d (if S 9 d = 4 then 1 else 0)) 10 d (nI (p + 1))) 9 d 1)) dX0_takePart_105 ?_
        refine x_iconst B (pc := 108) 2 dX0_takePart_108 (by decide) ?_
        refine x_icmp_ne B (pc := 109) 116 dX0_takePart_109 (by decide) (fun h109 => ?_) (fun h109 => absurd h109 (by decide))
        refine x_iconst B (pc := 116) 0 dX0_takePart_116 (by decide) ?_
        exact x_zret F (pc := 117) rfl rfl dX0_takePart_117 (⟨by first | rw [(aCome_b hp0 hbg).2, if_pos h93] | rw [(aCome_b hp0 hbg).2, if_neg h93] | rw [(aCome_p h42 h50).2, if_pos h93] | rw [(aCome_p h42 h50).2, if_neg h93], by first | rw [(aCome_b hp0 hbg).1, if_pos h93] | rw [(aCome_b hp0 hbg).1, if_neg h93] | rw [(aCome_p h42 h50).1, if_pos h93] | rw [(aCome_p h42 h50).1, if_neg h93]⟩) (Nat.le_of_ble_eq_true rfl) (Nat.le_of_ble_eq_true rfl)
      · skip
        refine x_iconst B (pc := 96) 2 dX0_takePart_96 (by decide) ?_
        refine x_goto B (pc := 97) 101 dX0_takePart_97 (by decide) ?_
        refine x_put B (pc := 101) xcl_D 0 d 6 [dvW da N (xup (xup (xup S 11 d (if S 9 d = 4 then 1 else 0)) 10 d (nI (p + 1))) 9 d 2) om] rfl (dv_get hd) (by decide) tm338 rfl rfl rfl rfl rfl (Nat.le_of_ble_eq_true rfl) (dv_set6 hd) rfl dX0_takePart_101 ?_
        refine x_aload_n B (pc := 104) 2 dX0_takePart_104 rfl rfl ?_
        refine x_get B (pc := 105) (v := .int 2) xcl_D 0 d 6 rfl (dv_get hd) (by decide) tm338 rfl (congrArg (fun z => some (Value.int z)) (xup_same (xup (xup S 11 d (if S 9 d = 4 then 1 else 0)) 10 d (nI (p + 1))) 9 d 2)) dX0_takePart_105 ?_
        refine x_iconst B (pc := 108) 2 dX0_takePart_108 (by decide) ?_
        refine x_icmp_ne B (pc := 109) 116 dX0_takePart_109 (by decide) (fun h109 => absurd (by decide) h109) (fun h109 => ?_)
        refine x_iconst B (pc := 112) 1 dX0_takePart_112 (by decide) ?_
        refine x_goto B (pc := 113) 117 dX0_takePart_113 (by decide) ?_
        exact x_zret F (pc := 117) rfl rfl dX0_takePart_117 (⟨by first | rw [(aCome_b hp0 hbg).2, if_pos h93] | rw [(aCome_b hp0 hbg).2, if_neg h93] | rw [(aCome_p h42 h50).2, if_pos h93] | rw [(aCome_p h42 h50).2, if_neg h93], by first | rw [(aCome_b hp0 hbg).1, if_pos h93] | rw [(aCome_b hp0 hbg).1, if_neg h93] | rw [(aCome_p h42 h50).1, if_pos h93] | rw [(aCome_p h42 h50).1, if_neg h93]⟩) (Nat.le_of_ble_eq_true rfl) (Nat.le_of_ble_eq_true rfl)
  · skip
    refine x_aload_n B (pc := 7) 0 dX0_takePart_7 rfl rfl ?_
    refine x_get B (pc := 8) (v := .int (S 9 d)) xcl_D 0 d 6 rfl (dv_get hd) (by decide) tm338 rfl rfl dX0_takePart_8 ?_
    refine x_iconst B (pc := 11) 4 dX0_takePart_11 (by decide) ?_
    refine x_icmp_ne B (pc := 12) 19 dX0_takePart_12 (by decide) (fun h12 => ?_) (fun h12 => ?_)
    · skip
      refine x_iconst B (pc := 19) 0 dX0_takePart_19 (by decide) ?_
      refine x_istore_n B (pc := 20) [(2, .int 0), (0, .ref (da d)), (1, .int (nI p))] dX0_takePart_20 rfl (by decide) rfl ?_
      refine x_iload_n B (pc := 21) 0 dX0_takePart_21 rfl rfl ?_
      refine x_if_eq B (pc := 22) 37 dX0_takePart_22 (by decide) (fun h22 => ?_) (fun h22 => absurd (by decide) h22)
      refine x_aload_n B (pc := 37) 1 dX0_takePart_37 rfl rfl ?_
      refine x_get B (pc := 38) (v := .int (S 9 d)) xcl_D 0 d 6 rfl (dv_get hd) (by decide) tm338 rfl rfl dX0_takePart_38 ?_
      refine x_iconst B (pc := 41) 1 dX0_takePart_41 (by decide) ?_
      refine x_icmp_ne B (pc := 42) 57 dX0_takePart_42 (by decide) (fun h42 => ?_) (fun h42 => ?_)
      · skip
        refine x_iconst B (pc := 57) 0 dX0_takePart_57 (by decide) ?_
        refine x_istore_n B (pc := 58) [(3, .int 0), (2, .int 0), (0, .ref (da d)), (1, .int (nI p))] dX0_takePart_58 rfl (by decide) rfl ?_
        refine x_iload_n B (pc := 59) 0 dX0_takePart_59 rfl rfl ?_
        refine x_if_ne B (pc := 60) 65 dX0_takePart_60 (by decide) (fun h60 => absurd (by decide) h60) (fun h60 => ?_)
        refine x_iconst B (pc := 63) 0 dX0_takePart_63 (by decide) ?_
        have hno : aCnt S d p = false := by
          unfold aCnt
          first
            | (simp [h4, show p ≠ 0 from fun e => h26 (by rw [e]; rfl)]; done)
            | (simp [h12, show p ≠ 0 from fun e => h26 (by rw [e]; rfl)]; done)
            | (simp [h4, h12, h42]; done)
            | (simp [h42, h50]; done)
        exact x_zret F (pc := 64) rfl rfl dX0_takePart_64 (⟨by rw [(aCome_no hno).2], by rw [(aCome_no hno).1]⟩) (Nat.le_of_ble_eq_true rfl) (Nat.le_of_ble_eq_true rfl)
      · skip
        refine x_iload_n B (pc := 45) 2 dX0_takePart_45 rfl rfl ?_
        refine x_aload_n B (pc := 46) 1 dX0_takePart_46 rfl rfl ?_
        refine x_get B (pc := 47) (v := .int (S 10 d)) xcl_D 0 d 8 rfl (dv_get hd) (by decide) tm341 rfl rfl dX0_takePart_47 ?_
        refine x_icmp_ne B (pc := 50) 57 dX0_takePart_50 (by decide) (fun h50 => ?_) (fun h50 => ?_)
        · skip
          refine x_iconst B (pc := 57) 0 dX0_takePart_57 (by decide) ?_
          refine x_istore_n B (pc := 58) [(3, .int 0), (2, .int 0), (0, .ref (da d)), (1, .int (nI p))] dX0_takePart_58 rfl (by decide) rfl ?_
          refine x_iload_n B (pc := 59) 0 dX0_takePart_59 rfl rfl ?_
          refine x_if_ne B (pc := 60) 65 dX0_takePart_60 (by decide) (fun h60 => absurd (by decide) h60) (fun h60 => ?_)
          refine x_iconst B (pc := 63) 0 dX0_takePart_63 (by decide) ?_
          have hno : aCnt S d p = false := by
            unfold aCnt
            first
              | (simp [h4, show p ≠ 0 from fun e => h26 (by rw [e]; rfl)]; done)
              | (simp [h12, show p ≠ 0 from fun e => h26 (by rw [e]; rfl)]; done)
              | (simp [h4, h12, h42]; done)
              | (simp [h42, h50]; done)
          exact x_zret F (pc := 64) rfl rfl dX0_takePart_64 (⟨by rw [(aCome_no hno).2], by rw [(aCome_no hno).1]⟩) (Nat.le_of_ble_eq_true rfl) (Nat.le_of_ble_eq_true rfl)
        · skip
          refine x_iconst B (pc := 53) 1 dX0_takePart_53 (by decide) ?_
          refine x_goto B (pc := 54) 58 dX0_takePart_54 (by decide) ?_
          refine x_istore_n B (pc := 58) [(3, .int 1), (2, .int 0), (0, .ref (da d)), (1, .int (nI p))] dX0_takePart_58 rfl (by decide) rfl ?_
          refine x_iload_n B (pc := 59) 0 dX0_takePart_59 rfl rfl ?_
          refine x_if_ne B (pc := 60) 65 dX0_takePart_60 (by decide) (fun h60 => ?_) (fun h60 => absurd h60 (by decide))
          refine x_iload_n B (pc := 65) 1 dX0_takePart_65 rfl rfl ?_
          refine x_if_eq B (pc := 66) 77 dX0_takePart_66 (by decide) (fun h66 => ?_) (fun h66 => absurd (by decide) h66)
          refine x_aload_n B (pc := 77) 2 dX0_takePart_77 rfl rfl ?_
          refine x_iload_n B (pc := 78) 3 dX0_takePart_78 rfl rfl ?_
          refine x_iconst B (pc := 79) 1 dX0_takePart_79 (by decide) ?_
          refine x_iadd B (pc := 80) dX0_takePart_80 ?_
          refine x_val B (y := nI (p + 1)) (nI_1 p) ?_
          refine x_put B (pc := 81) xcl_D 0 d 8 [dvW da N (xup S 10 d (nI (p + 1))) om] rfl (dv_get hd) (by decide) tm341 rfl rfl rfl rfl rfl (Nat.le_of_ble_eq_true rfl) (dv_set8 hd) rfl dX0_takePart_81 ?_
          refine x_aload_n B (pc := 84) 2 dX0_takePart_84 rfl rfl ?_
          refine x_aload_n B (pc := 85) 2 dX0_takePart_85 rfl rfl ?_
          refine x_get B (pc := 86) (v := .int (nI (p + 1))) xcl_D 0 d 8 rfl (dv_get hd) (by decide) tm341 rfl (congrArg (fun z => some (Value.int z)) (xup_same S 10 d (nI (p + 1)))) dX0_takePart_86 ?_
          refine x_aload_n B (pc := 89) 2 dX0_takePart_89 rfl rfl ?_
          refine x_get B (pc := 90) (v := .int (S 6 d)) xcl_D 0 d 3 rfl (dv_get hd) (by decide) tm332 rfl rfl dX0_takePart_90 ?_
          refine x_icmp_ne B (pc := 93) 100 dX0_takePart_93 (by decide) (fun h93 => ?_) (fun h93 => ?_)
          · skip
            refine x_iconst B (pc := 100) 1 dX0_takePart_100 (by decide) ?_
            refine x_put B (pc := 101) xcl_D 0 d 6 [dvW da N (xup (xup S 10 d (nI (p + 1))) 9 d 1) om] rfl (dv_get hd) (by decide) tm338 rfl rfl rfl rfl rfl (Nat.le_of_ble_eq_true rfl) (dv_set6 hd) rfl dX0_takePart_101 ?_
            refine x_aload_n B (pc := 104) 2 dX0_takePart_104 rfl rfl ?_
            refine x_get B (pc := 105) (v := .int 1) xcl_D 0 d 6 rfl (dv_get hd) (by decide) tm338 rfl (congrArg (fun z => some (Value.int z)) (xup_same (xup S 10 d (nI (p + 1))) 9 d 1)) dX0_takePart_105 ?_
            refine x_iconst B (pc := 108) 2 dX0_takePart_108 (by decide) ?_
            refine x_icmp_ne B (pc := 109) 116 dX0_takePart_109 (by decide) (fun h109 => ?_) (fun h109 => absurd h109 (by decide))
            refine x_iconst B (pc := 116) 0 dX0_takePart_116 (by decide) ?_
            exact x_zret F (pc := 117) rfl rfl dX0_takePart_117 (⟨by first | rw [(aCome_b hp0 hbg).2, if_pos h93] | rw [(aCome_b hp0 hbg).2, if_neg h93] | rw [(aCome_p h42 h50).2, if_pos h93] | rw [(aCome_p h42 h50).2, if_neg h93], by first | rw [(aCome_b hp0 hbg).1, if_pos h93] | rw [(aCome_b hp0 hbg).1, if_neg h93] | rw [(aCome_p h42 h50).1, if_pos h93] | rw [(aCome_p h42 h50).1, if_neg h93]⟩) (Nat.le_of_ble_eq_true rfl) (Nat.le_of_ble_eq_true rfl)
          · skip
            refine x_iconst B (pc := 96) 2 dX0_takePart_96 (by decide) ?_
            refine x_goto B (pc := 97) 101 dX0_takePart_97 (by decide) ?_
            refine x_put B (pc := 101) xcl_D 0 d 6 [dvW da N (xup (xup S 10 d (nI (p + 1))) 9 d 2) om] rfl (dv_get hd) (by decide) tm338 rfl rfl rfl rfl rfl (Nat.le_of_ble_eq_true rfl) (dv_set6 hd) rfl dX0_takePart_101 ?_
            refine x_aload_n B (pc := 104) 2 dX0_takePart_104 rfl rfl ?_
            refine x_get B (pc := 105) (v := .int 2) xcl_D 0 d 6 rfl (dv_get hd) (by decide) tm338 rfl (congrArg (fun z => some (Value.int z)) (xup_same (xup S 10 d (nI (p + 1))) 9 d 2)) dX0_takePart_105 ?_
            refine x_iconst B (pc := 108) 2 dX0_takePart_108 (by decide) ?_
            refine x_icmp_ne B (pc := 109) 116 dX0_takePart_109 (by decide) (fun h109 => absurd (by decide) h109) (fun h109 => ?_)
            refine x_iconst B (pc := 112) 1 dX0_takePart_112 (by decide) ?_
            refine x_goto B (pc := 113) 117 dX0_takePart_113 (by decide) ?_
            exact x_zret F (pc := 117) rfl rfl dX0_takePart_117 (⟨by first | rw [(aCome_b hp0 hbg).2, if_pos h93] | rw [(aCome_b hp0 hbg).2, if_neg h93] | rw [(aCome_p h42 h50).2, if_pos h93] | rw [(aCome_p h42 h50).2, if_neg h93], by first | rw [(aCome_b hp0 hbg).1, if_pos h93] | rw [(aCome_b hp0 hbg).1, if_neg h93] | rw [(aCome_p h42 h50).1, if_pos h93] | rw [(aCome_p h42 h50).1, if_neg h93]⟩) (Nat.le_of_ble_eq_true rfl) (Nat.le_of_ble_eq_true rfl)
    · skip
      refine x_iconst B (pc := 15) 1 dX0_takePart_15 (by decide) ?_
      refine x_goto B (pc := 16) 20 dX0_takePart_16 (by decide) ?_
      refine x_istore_n B (pc := 20) [(2, .int 1), (0, .ref (da d)), (1, .int (nI p))] dX0_takePart_20 rfl (by decide) rfl ?_
      refine x_iload_n B (pc := 21) 0 dX0_takePart_21 rfl rfl ?_
      refine x_if_eq B (pc := 22) 37 dX0_takePart_22 (by decide) (fun h22 => absurd h22 (by decide)) (fun h22 => ?_)
      refine x_iload_n B (pc := 25) 2 dX0_takePart_25 rfl rfl ?_
      refine x_if_ne B (pc := 26) 33 dX0_takePart_26 (by decide) (fun h26 => ?_) (fun h26 => ?_)
      · skip
        refine x_iconst B (pc := 33) 0 dX0_takePart_33 (by decide) ?_
        refine x_goto B (pc := 34) 58 dX0_takePart_34 (by decide) ?_
        refine x_istore_n B (pc := 58) [(3, .int 0), (2, .int 1), (0, .ref (da d)), (1, .int (nI p))] dX0_takePart_58 rfl (by decide) rfl ?_
        refine x_iload_n B (pc := 59) 0 dX0_takePart_59 rfl rfl ?_
        refine x_if_ne B (pc := 60) 65 dX0_takePart_60 (by decide) (fun h60 => absurd (by decide) h60) (fun h60 => ?_)
        refine x_iconst B (pc := 63) 0 dX0_takePart_63 (by decide) ?_
        have hno : aCnt S d p = false := by
          unfold aCnt
          first
            | (simp [h4, show p ≠ 0 from fun e => h26 (by rw [e]; rfl)]; done)
            | (simp [h12, show p ≠ 0 from fun e => h26 (by rw [e]; rfl)]; done)
            | (simp [h4, h12, h42]; done)
            | (simp [h42, h50]; done)
        exact x_zret F (pc := 64) rfl rfl dX0_takePart_64 (⟨by rw [(aCome_no hno).2], by rw [(aCome_no hno).1]⟩) (Nat.le_of_ble_eq_true rfl) (Nat.le_of_ble_eq_true rfl)
      · skip
        refine x_iconst B (pc := 29) 1 dX0_takePart_29 (by decide) ?_
        refine x_goto B (pc := 30) 58 dX0_takePart_30 (by decide) ?_
        refine x_istore_n B (pc := 58) [(3, .int 1), (2, .int 1), (0, .ref (da d)), (1, .int (nI p))] dX0_takePart_58 rfl (by decide) rfl ?_
        refine x_iload_n B (pc := 59) 0 dX0_takePart_59 rfl rfl ?_
        refine x_if_ne B (pc := 60) 65 dX0_takePart_60 (by decide) (fun h60 => ?_) (fun h60 => absurd h60 (by decide))
        refine x_iload_n B (pc := 65) 1 dX0_takePart_65 rfl rfl ?_
        refine x_if_eq B (pc := 66) 77 dX0_takePart_66 (by decide) (fun h66 => absurd h66 (by decide)) (fun h66 => ?_)
        have hbg : S 9 d = 0 ∨ S 9 d = 4 := by first | exact Or.inl h4 | exact Or.inr h12
        have hp0 : p = 0 := (nI_eq (by omega) (by decide)).mp (h26.trans nI_0.symm)
        refine x_aload_n B (pc := 69) 2 dX0_takePart_69 rfl rfl ?_
        refine x_aload_n B (pc := 70) 2 dX0_takePart_70 rfl rfl ?_
        refine x_get B (pc := 71) (v := .int (S 9 d)) xcl_D 0 d 6 rfl (dv_get hd) (by decide) tm338 rfl rfl dX0_takePart_71 ?_
        refine x_put B (pc := 74) xcl_D 0 d 7 [dvW da N (xup S 11 d (if S 9 d = 4 then 1 else 0)) om] rfl (dv_get hd) (by decide) tm340 rfl rfl rfl rfl rfl (Nat.le_of_ble_eq_true rfl) (dv_set7 (xbf_of hbg) hd) rfl dX0_takePart_74 ?_
        refine x_aload_n B (pc := 77) 2 dX0_takePart_77 rfl rfl ?_
        refine x_iload_n B (pc := 78) 3 dX0_takePart_78 rfl rfl ?_
        refine x_iconst B (pc := 79) 1 dX0_takePart_79 (by decide) ?_
        refine x_iadd B (pc := 80) dX0_takePart_80 ?_
        refine x_val B (y := nI (p + 1)) (nI_1 p) ?_
        refine x_put B (pc := 81) xcl_D 0 d 8 [dvW da N (xup (xup S 11 d (if S 9 d = 4 then 1 else 0)) 10 d (nI (p + 1))) om] rfl (dv_get hd) (by decide) tm341 rfl rfl rfl rfl rfl (Nat.le_of_ble_eq_true rfl) (dv_set8 hd) rfl dX0_takePart_81 ?_
        refine x_aload_n B (pc := 84) 2 dX0_takePart_84 rfl rfl ?_
        refine x_aload_n B (pc := 85) 2 dX0_takePart_85 rfl rfl ?_
        refine x_get B (pc := 86) (v := .int (nI (p + 1))) xcl_D 0 d 8 rfl (dv_get hd) (by decide) tm341 rfl (congrArg (fun z => some (Value.int z)) (xup_same (xup S 11 d (if S 9 d = 4 then 1 else 0)) 10 d (nI (p + 1)))) dX0_takePart_86 ?_
        refine x_aload_n B (pc := 89) 2 dX0_takePart_89 rfl rfl ?_
        refine x_get B (pc := 90) (v := .int (S 6 d)) xcl_D 0 d 3 rfl (dv_get hd) (by decide) tm332 rfl rfl dX0_takePart_90 ?_
        refine x_icmp_ne B (pc := 93) 100 dX0_takePart_93 (by decide) (fun h93 => ?_) (fun h93 => ?_)
        · skip
          refine x_iconst B (pc := 100) 1 dX0_takePart_100 (by decide) ?_
          refine x_put B (pc := 101) xcl_D 0 d 6 [dvW da N (xup (xup (xup S 11 d (if S 9 d = 4 then 1 else 0)) 10 d (nI (p + 1))) 9 d 1) om] rfl (dv_get hd) (by decide) tm338 rfl rfl rfl rfl rfl (Nat.le_of_ble_eq_true rfl) (dv_set6 hd) rfl dX0_takePart_101 ?_
          refine x_aload_n B (pc := 104) 2 dX0_takePart_104 rfl rfl ?_
          refine x_get B (pc := 105) (v := .int 1) xcl_D 0 d 6 rfl (dv_get hd) (by decide) tm338 rfl (congrArg (fun z => some (Value.int z)) (xup_same (xup (xup S 11 d (if S 9 d = 4 then 1 else 0)) 10 d (nI (p + 1))) 9 d 1)) dX0_takePart_105 ?_
          refine x_iconst B (pc := 108) 2 dX0_takePart_108 (by decide) ?_
          refine x_icmp_ne B (pc := 109) 116 dX0_takePart_109 (by decide) (fun h109 => ?_) (fun h109 => absurd h109 (by decide))
          refine x_iconst B (pc := 116) 0 dX0_takePart_116 (by decide) ?_
          exact x_zret F (pc := 117) rfl rfl dX0_takePart_117 (⟨by first | rw [(aCome_b hp0 hbg).2, if_pos h93] | rw [(aCome_b hp0 hbg).2, if_neg h93] | rw [(aCome_p h42 h50).2, if_pos h93] | rw [(aCome_p h42 h50).2, if_neg h93], by first | rw [(aCome_b hp0 hbg).1, if_pos h93] | rw [(aCome_b hp0 hbg).1, if_neg h93] | rw [(aCome_p h42 h50).1, if_pos h93] | rw [(aCome_p h42 h50).1, if_neg h93]⟩) (Nat.le_of_ble_eq_true rfl) (Nat.le_of_ble_eq_true rfl)
        · skip
          refine x_iconst B (pc := 96) 2 dX0_takePart_96 (by decide) ?_
          refine x_goto B (pc := 97) 101 dX0_takePart_97 (by decide) ?_
          refine x_put B (pc := 101) xcl_D 0 d 6 [dvW da N (xup (xup (xup S 11 d (if S 9 d = 4 then 1 else 0)) 10 d (nI (p + 1))) 9 d 2) om] rfl (dv_get hd) (by decide) tm338 rfl rfl rfl rfl rfl (Nat.le_of_ble_eq_true rfl) (dv_set6 hd) rfl dX0_takePart_101 ?_
          refine x_aload_n B (pc := 104) 2 dX0_takePart_104 rfl rfl ?_
          refine x_get B (pc := 105) (v := .int 2) xcl_D 0 d 6 rfl (dv_get hd) (by decide) tm338 rfl (congrArg (fun z => some (Value.int z)) (xup_same (xup (xup S 11 d (if S 9 d = 4 then 1 else 0)) 10 d (nI (p + 1))) 9 d 2)) dX0_takePart_105 ?_
          refine x_iconst B (pc := 108) 2 dX0_takePart_108 (by decide) ?_
          refine x_icmp_ne B (pc := 109) 116 dX0_takePart_109 (by decide) (fun h109 => absurd (by decide) h109) (fun h109 => ?_)
          refine x_iconst B (pc := 112) 1 dX0_takePart_112 (by decide) ?_
          refine x_goto B (pc := 113) 117 dX0_takePart_113 (by decide) ?_
          exact x_zret F (pc := 117) rfl rfl dX0_takePart_117 (⟨by first | rw [(aCome_b hp0 hbg).2, if_pos h93] | rw [(aCome_b hp0 hbg).2, if_neg h93] | rw [(aCome_p h42 h50).2, if_pos h93] | rw [(aCome_p h42 h50).2, if_neg h93], by first | rw [(aCome_b hp0 hbg).1, if_pos h93] | rw [(aCome_b hp0 hbg).1, if_neg h93] | rw [(aCome_p h42 h50).1, if_pos h93] | rw [(aCome_p h42 h50).1, if_neg h93]⟩) (Nat.le_of_ble_eq_true rfl) (Nat.le_of_ble_eq_true rfl)

set_option maxRecDepth 100000 in
set_option maxHeartbeats 4000000 in
theorem c_X0_takeDecision {l : Launch} (hl : l.stackTraces = false) (D : va_G) (e0 : Nat) {da : Nat → Nat} {N : Nat} {S : xS} {om : Nat → Int32} {d : Nat} {o : Int32} (hd : d < N) : xC l yX0_takeDecision (.code yX0_takeDecision cX0_takeDecision 2 none) ({ frames := 0, cells := 0, slots := 0, locals := 0 } : Room) D e0 [.ref (da d), .int o] [dvW da N S om] (fun v cs => v = none ∧ cs = [dvW da N (aDec S d o) (upd om d o)]) (fun _ => False) := by
  refine xC_of hl (by decide +kernel) (Nat.le_of_ble_eq_true rfl) (fun G X F => ?_)
  have B : xB l D e0 "CreditLinks$Delivery" cX0_takeDecision 2 none [] _ G X := F.base
  show G 0 [(0, .ref (da d)), (1, .int o)] [] [dvW da N S om] 0 0
  refine x_iload_n B (pc := 0) 1 dX0_takeDecision_0 rfl rfl ?_
  refine x_if_ne B (pc := 1) 14 dX0_takeDecision_1 (by decide) (fun h1 => ?_) (fun h1 => ?_)
  · skip
    refine x_aload_n B (pc := 14) 0 dX0_takeDecision_14 rfl rfl ?_
    refine x_iload_n B (pc := 15) 1 dX0_takeDecision_15 rfl rfl ?_
    refine x_put B (pc := 16) xcl_D 0 d 9 [dvW da N S (upd om d o)] rfl (dv_get hd) (by decide) tm342 rfl rfl rfl rfl rfl (Nat.le_of_ble_eq_true rfl) (dv_set9 hd) rfl dX0_takeDecision_16 ?_
    refine x_aload_n B (pc := 19) 0 dX0_takeDecision_19 rfl rfl ?_
    refine x_aload_n B (pc := 20) 0 dX0_takeDecision_20 rfl rfl ?_
    refine x_get B (pc := 21) (v := .int (S 5 d)) xcl_D 0 d 2 rfl (dv_get hd) (by decide) tm330 rfl rfl dX0_takeDecision_21 ?_
    refine x_iconst B (pc := 24) 2 dX0_takeDecision_24 (by decide) ?_
    refine x_icmp_ne B (pc := 25) 32 dX0_takeDecision_25 (by decide) (fun h25 => ?_) (fun h25 => ?_)
    · skip
      refine x_iconst B (pc := 32) 4 dX0_takeDecision_32 (by decide) ?_
      refine x_put B (pc := 33) xcl_D 0 d 6 [dvW da N (xup S 9 d 4) (upd om d o)] rfl (dv_get hd) (by decide) tm338 rfl rfl rfl rfl rfl (Nat.le_of_ble_eq_true rfl) (dv_set6 hd) rfl dX0_takeDecision_33 ?_
      exact x_vret F (pc := 36) rfl dX0_takeDecision_36 (⟨rfl, by unfold aDec; (first | rw [if_pos h1] | rw [if_neg h1, xup_id (F := S) (f := 13) rfl]); (first | rw [if_pos h25] | rw [if_neg h25]); (first | done | rfl)⟩) (Nat.le_of_ble_eq_true rfl) (Nat.le_of_ble_eq_true rfl)
    · skip
      refine x_iconst B (pc := 28) 3 dX0_takeDecision_28 (by decide) ?_
      refine x_goto B (pc := 29) 33 dX0_takeDecision_29 (by decide) ?_
      refine x_put B (pc := 33) xcl_D 0 d 6 [dvW da N (xup S 9 d 3) (upd om d o)] rfl (dv_get hd) (by decide) tm338 rfl rfl rfl rfl rfl (Nat.le_of_ble_eq_true rfl) (dv_set6 hd) rfl dX0_takeDecision_33 ?_
      exact x_vret F (pc := 36) rfl dX0_takeDecision_36 (⟨rfl, by unfold aDec; (first | rw [if_pos h1] | rw [if_neg h1, xup_id (F := S) (f := 13) rfl]); (first | rw [if_pos h25] | rw [if_neg h25]); (first | done | rfl)⟩) (Nat.le_of_ble_eq_true rfl) (Nat.le_of_ble_eq_true rfl)
  · skip
    refine x_aload_n B (pc := 4) 0 dX0_takeDecision_4 rfl rfl ?_
    refine x_dup B (pc := 5) dX0_takeDecision_5 rfl ?_
    refine x_get B (pc := 6) (v := .int (S 13 d)) xcl_D 0 d 11 rfl (dv_get hd) (by decide) tm345 rfl rfl dX0_takeDecision_6 ?_
    refine x_iconst B (pc := 9) 1 dX0_takeDecision_9 (by decide) ?_
    refine x_iadd B (pc := 10) dX0_takeDecision_10 ?_
    refine x_put B (pc := 11) xcl_D 0 d 11 [dvW da N (xup S 13 d ((S 13 d) + 1)) om] rfl (dv_get hd) (by decide) tm345 rfl rfl rfl rfl rfl (Nat.le_of_ble_eq_true rfl) (dv_set11 hd) rfl dX0_takeDecision_11 ?_
    refine x_aload_n B (pc := 14) 0 dX0_takeDecision_14 rfl rfl ?_
    refine x_iload_n B (pc := 15) 1 dX0_takeDecision_15 rfl rfl ?_
    refine x_put B (pc := 16) xcl_D 0 d 9 [dvW da N (xup S 13 d ((S 13 d) + 1)) (upd om d o)] rfl (dv_get hd) (by decide) tm342 rfl rfl rfl rfl rfl (Nat.le_of_ble_eq_true rfl) (dv_set9 hd) rfl dX0_takeDecision_16 ?_
    refine x_aload_n B (pc := 19) 0 dX0_takeDecision_19 rfl rfl ?_
    refine x_aload_n B (pc := 20) 0 dX0_takeDecision_20 rfl rfl ?_
    refine x_get B (pc := 21) (v := .int (S 5 d)) xcl_D 0 d 2 rfl (dv_get hd) (by decide) tm330 rfl rfl dX0_takeDecision_21 ?_
    refine x_iconst B (pc := 24) 2 dX0_takeDecision_24 (by decide) ?_
    refine x_icmp_ne B (pc := 25) 32 dX0_takeDecision_25 (by decide) (fun h25 => ?_) (fun h25 => ?_)
    · skip
      refine x_iconst B (pc := 32) 4 dX0_takeDecision_32 (by decide) ?_
      refine x_put B (pc := 33) xcl_D 0 d 6 [dvW da N (xup (xup S 13 d ((S 13 d) + 1)) 9 d 4) (upd om d o)] rfl (dv_get hd) (by decide) tm338 rfl rfl rfl rfl rfl (Nat.le_of_ble_eq_true rfl) (dv_set6 hd) rfl dX0_takeDecision_33 ?_
      exact x_vret F (pc := 36) rfl dX0_takeDecision_36 (⟨rfl, by unfold aDec; (first | rw [if_pos h1] | rw [if_neg h1, xup_id (F := S) (f := 13) rfl]); (first | rw [if_pos h25] | rw [if_neg h25]); (first | done | rfl)⟩) (Nat.le_of_ble_eq_true rfl) (Nat.le_of_ble_eq_true rfl)
    · skip
      refine x_iconst B (pc := 28) 3 dX0_takeDecision_28 (by decide) ?_
      refine x_goto B (pc := 29) 33 dX0_takeDecision_29 (by decide) ?_
      refine x_put B (pc := 33) xcl_D 0 d 6 [dvW da N (xup (xup S 13 d ((S 13 d) + 1)) 9 d 3) (upd om d o)] rfl (dv_get hd) (by decide) tm338 rfl rfl rfl rfl rfl (Nat.le_of_ble_eq_true rfl) (dv_set6 hd) rfl dX0_takeDecision_33 ?_
      exact x_vret F (pc := 36) rfl dX0_takeDecision_36 (⟨rfl, by unfold aDec; (first | rw [if_pos h1] | rw [if_neg h1, xup_id (F := S) (f := 13) rfl]); (first | rw [if_pos h25] | rw [if_neg h25]); (first | done | rfl)⟩) (Nat.le_of_ble_eq_true rfl) (Nat.le_of_ble_eq_true rfl)

set_option maxRecDepth 100000 in
set_option maxHeartbeats 4000000 in
theorem c_X0_forgetDecided {l : Launch} (hl : l.stackTraces = false) (D : va_G) (e0 : Nat) {da : Nat → Nat} {N : Nat} {S : xS} {om : Nat → Int32} {d : Nat} (hd : d < N) : xC l yX0_forgetDecided (.code yX0_forgetDecided cX0_forgetDecided 1 none) ({ frames := 0, cells := 0, slots := 0, locals := 0 } : Room) D e0 [.ref (da d)] [dvW da N S om] (fun v cs => v = none ∧ cs = [dvW da N (aForget S d) om]) (fun _ => False) := by
  refine xC_of hl (by decide +kernel) (Nat.le_of_ble_eq_true rfl) (fun G X F => ?_)
  have B : xB l D e0 "CreditLinks$Delivery" cX0_forgetDecided 1 none [] _ G X := F.base
  show G 0 [(0, .ref (da d))] [] [dvW da N S om] 0 0
  refine x_aload_n B (pc := 0) 0 dX0_forgetDecided_0 rfl rfl ?_
  refine x_get B (pc := 1) (v := .int (S 9 d)) xcl_D 0 d 6 rfl (dv_get hd) (by decide) tm338 rfl rfl dX0_forgetDecided_1 ?_
  refine x_iconst B (pc := 4) 3 dX0_forgetDecided_4 (by decide) ?_
  refine x_icmp_ne B (pc := 5) 13 dX0_forgetDecided_5 (by decide) (fun h5 => ?_) (fun h5 => ?_)
  · skip
    exact x_vret F (pc := 13) rfl dX0_forgetDecided_13 (⟨rfl, by unfold aForget; first | rw [if_pos h5] | rw [if_neg h5]⟩) (Nat.le_of_ble_eq_true rfl) (Nat.le_of_ble_eq_true rfl)
  · skip
    refine x_aload_n B (pc := 8) 0 dX0_forgetDecided_8 rfl rfl ?_
    refine x_iconst B (pc := 9) 4 dX0_forgetDecided_9 (by decide) ?_
    refine x_put B (pc := 10) xcl_D 0 d 6 [dvW da N (xup S 9 d 4) om] rfl (dv_get hd) (by decide) tm338 rfl rfl rfl rfl rfl (Nat.le_of_ble_eq_true rfl) (dv_set6 hd) rfl dX0_forgetDecided_10 ?_
    exact x_vret F (pc := 13) rfl dX0_forgetDecided_13 (⟨rfl, by unfold aForget; first | rw [if_pos h5] | rw [if_neg h5]⟩) (Nat.le_of_ble_eq_true rfl) (Nat.le_of_ble_eq_true rfl)

set_option maxRecDepth 100000 in
set_option maxHeartbeats 4000000 in
theorem c_X0_settle {l : Launch} (hl : l.stackTraces = false) (D : va_G) (e0 : Nat) {da : Nat → Nat} {N : Nat} {S : xS} {om : Nat → Int32} {d : Nat} {o : Int32} (hd : d < N) : xC l yX0_settle (.code yX0_settle cX0_settle 2 (some .boolean)) ({ frames := 0, cells := 0, slots := 0, locals := 0 } : Room) D e0 [.ref (da d), .int o] [dvW da N S om] (fun v cs => v = some (.int (aSetR S d)) ∧ cs = [dvW da N (aSetS S d o) om]) (fun _ => False) := by
  refine xC_of hl (by decide +kernel) (Nat.le_of_ble_eq_true rfl) (fun G X F => ?_)
  have B : xB l D e0 "CreditLinks$Delivery" cX0_settle 2 (some .boolean) [] _ G X := F.base
  show G 0 [(0, .ref (da d)), (1, .int o)] [] [dvW da N S om] 0 0
  refine x_aload_n B (pc := 0) 0 dX0_settle_0 rfl rfl ?_
  refine x_get B (pc := 1) (v := .int (S 7 d)) xcl_D 0 d 4 rfl (dv_get hd) (by decide) tm334 rfl rfl dX0_settle_1 ?_
  refine x_if_eq B (pc := 4) 9 dX0_settle_4 (by decide) (fun h4 => ?_) (fun h4 => ?_)
  · skip
    refine x_aload_n B (pc := 9) 0 dX0_settle_9 rfl rfl ?_
    refine x_iconst B (pc := 10) 1 dX0_settle_10 (by decide) ?_
    refine x_put B (pc := 11) xcl_D 0 d 4 [dvW da N (xup S 7 d 1) om] rfl (dv_get hd) (by decide) tm334 rfl rfl rfl rfl rfl (Nat.le_of_ble_eq_true rfl) (dv_set4 hd) rfl dX0_settle_11 ?_
    refine x_aload_n B (pc := 14) 0 dX0_settle_14 rfl rfl ?_
    refine x_iload_n B (pc := 15) 1 dX0_settle_15 rfl rfl ?_
    refine x_put B (pc := 16) xcl_D 0 d 5 [dvW da N (xup (xup S 7 d 1) 8 d o) om] rfl (dv_get hd) (by decide) tm336 rfl rfl rfl rfl rfl (Nat.le_of_ble_eq_true rfl) (dv_set5 hd) rfl dX0_settle_16 ?_
    refine x_iconst B (pc := 19) 1 dX0_settle_19 (by decide) ?_
    exact x_zret F (pc := 20) rfl rfl dX0_settle_20 (⟨by unfold aSetR; rw [if_pos h4], by unfold aSetS; rw [if_pos h4]⟩) (Nat.le_of_ble_eq_true rfl) (Nat.le_of_ble_eq_true rfl)
  · skip
    refine x_iconst B (pc := 7) 0 dX0_settle_7 (by decide) ?_
    exact x_zret F (pc := 8) rfl rfl dX0_settle_8 (⟨by unfold aSetR; rw [if_neg h4], by unfold aSetS; rw [if_neg h4]⟩) (Nat.le_of_ble_eq_true rfl) (Nat.le_of_ble_eq_true rfl)

set_option maxRecDepth 100000 in
set_option maxHeartbeats 4000000 in
theorem c_X0_bringTogether {l : Launch} (hl : l.stackTraces = false) (D : va_G) (e0 : Nat) {da : Nat → Nat} {N : Nat} {S : xS} {om : Nat → Int32} {d : Nat} (hd : d < N) (hom : S 9 d = 3 → om d = S 12 d) : xC l yX0_bringTogether (.code yX0_bringTogether cX0_bringTogether 1 none) ({ frames := 1, cells := 0, slots := 0, locals := 21 } : Room) D e0 [.ref (da d)] [dvW da N S om] (fun v cs => v = none ∧ cs = [dvW da N (aBring S d) om]) (fun _ => False) := by
  refine xC_of hl (by decide +kernel) (Nat.le_of_ble_eq_true rfl) (fun G X F => ?_)
  have B : xB l D e0 "CreditLinks$Delivery" cX0_bringTogether 1 none [] _ G X := F.base
  show G 0 [(0, .ref (da d))] [] [dvW da N S om] 0 0
  refine x_aload_n B (pc := 0) 0 dX0_bringTogether_0 rfl rfl ?_
  refine x_get B (pc := 1) (v := .int (S 9 d)) xcl_D 0 d 6 rfl (dv_get hd) (by decide) tm338 rfl rfl dX0_bringTogether_1 ?_
  refine x_iconst B (pc := 4) 1 dX0_bringTogether_4 (by decide) ?_
  refine x_icmp_ne B (pc := 5) 19 dX0_bringTogether_5 (by decide) (fun h5 => ?_) (fun h5 => ?_)
  · skip
    refine x_aload_n B (pc := 19) 0 dX0_bringTogether_19 rfl rfl ?_
    refine x_get B (pc := 20) (v := .int (S 9 d)) xcl_D 0 d 6 rfl (dv_get hd) (by decide) tm338 rfl rfl dX0_bringTogether_20 ?_
    refine x_iconst B (pc := 23) 3 dX0_bringTogether_23 (by decide) ?_
    refine x_icmp_ne B (pc := 24) 41 dX0_bringTogether_24 (by decide) (fun h24 => ?_) (fun h24 => ?_)
    · skip
      exact x_vret F (pc := 41) rfl dX0_bringTogether_41 (⟨rfl, by unfold aBring; first | rw [if_pos h5] | (rw [if_neg h5, if_pos h24, ← hom h24]) | (rw [if_neg h5, if_neg h24])⟩) (Nat.le_of_ble_eq_true rfl) (Nat.le_of_ble_eq_true rfl)
    · skip
      refine x_aload_n B (pc := 27) 0 dX0_bringTogether_27 rfl rfl ?_
      refine x_aload_n B (pc := 28) 0 dX0_bringTogether_28 rfl rfl ?_
      refine x_get B (pc := 29) (v := .int (om d)) xcl_D 0 d 9 rfl (dv_get hd) (by decide) tm342 rfl rfl dX0_bringTogether_29 ?_
      refine x_callV B (pc := 32) (As := [.int (om d)]) (c_X0_settle hl D e0 hd) xcl_D rfl 0 d rfl (dv_get hd) tm554 tm522 tm523 tm14 tm524 md_X0_settle ⟨Nat.le_of_ble_eq_true rfl, Nat.le_of_ble_eq_true rfl⟩ [0] rfl rfl rfl (Nat.le_of_ble_eq_true rfl) (Nat.le_of_ble_eq_true rfl) (Nat.le_of_ble_eq_true rfl) dX0_bringTogether_32 (fun E hE => False.elim hE) (fun v cs1 hp => ?_)
      obtain ⟨rfl, rfl⟩ := hp
      show G 35 [(0, .ref (da d))] [.int (aSetR S d)] [dvW da N (aSetS S d (om d)) om] 0 0
      refine x_pop B (pc := 35) dX0_bringTogether_35 rfl ?_
      refine x_aload_n B (pc := 36) 0 dX0_bringTogether_36 rfl rfl ?_
      refine x_iconst B (pc := 37) 4 dX0_bringTogether_37 (by decide) ?_
      refine x_put B (pc := 38) xcl_D 0 d 6 [dvW da N (xup (aSetS S d (om d)) 9 d 4) om] rfl (dv_get hd) (by decide) tm338 rfl rfl rfl rfl rfl (Nat.le_of_ble_eq_true rfl) (dv_set6 hd) rfl dX0_bringTogether_38 ?_
      exact x_vret F (pc := 41) rfl dX0_bringTogether_41 (⟨rfl, by unfold aBring; first | rw [if_pos h5] | (rw [if_neg h5, if_pos h24, ← hom h24]) | (rw [if_neg h5, if_neg h24])⟩) (Nat.le_of_ble_eq_true rfl) (Nat.le_of_ble_eq_true rfl)
  · skip
    refine x_aload_n B (pc := 8) 0 dX0_bringTogether_8 rfl rfl ?_
    refine x_aload_n B (pc := 9) 0 dX0_bringTogether_9 rfl rfl ?_
    refine x_get B (pc := 10) (v := .int (xbf (S 11 d))) xcl_D 0 d 7 rfl (dv_get hd) (by decide) tm340 rfl rfl dX0_bringTogether_10 ?_
    refine x_put B (pc := 13) xcl_D 0 d 6 [dvW da N (xup S 9 d (xbf (S 11 d))) om] rfl (dv_get hd) (by decide) tm338 rfl rfl rfl rfl rfl (Nat.le_of_ble_eq_true rfl) (dv_set6 hd) rfl dX0_bringTogether_13 ?_
    refine x_goto B (pc := 16) 41 dX0_bringTogether_16 (by decide) ?_
    exact x_vret F (pc := 41) rfl dX0_bringTogether_41 (⟨rfl, by unfold aBring; first | rw [if_pos h5] | (rw [if_neg h5, if_pos h24, ← hom h24]) | (rw [if_neg h5, if_neg h24])⟩) (Nat.le_of_ble_eq_true rfl) (Nat.le_of_ble_eq_true rfl)

set_option maxRecDepth 100000 in
set_option maxHeartbeats 4000000 in
theorem c_X0_goesAnew {l : Launch} (hl : l.stackTraces = false) (D : va_G) (e0 : Nat) {da : Nat → Nat} {N : Nat} {S : xS} {om : Nat → Int32} {d : Nat} (hd : d < N) : xC l yX0_goesAnew (.code yX0_goesAnew cX0_goesAnew 2 (some .boolean)) ({ frames := 0, cells := 0, slots := 0, locals := 0 } : Room) D e0 [.ref (da d)] [dvW da N S om] (fun v cs => v = some (.int (aAnew S d)) ∧ cs = [dvW da N S om]) (fun _ => False) := by
  refine xC_of hl (by decide +kernel) (Nat.le_of_ble_eq_true rfl) (fun G X F => ?_)
  have B : xB l D e0 "CreditLinks$Delivery" cX0_goesAnew 2 (some .boolean) [] _ G X := F.base
  show G 0 [(0, .ref (da d))] [] [dvW da N S om] 0 0
  refine x_aload_n B (pc := 0) 0 dX0_goesAnew_0 rfl rfl ?_
  refine x_get B (pc := 1) (v := .int (S 9 d)) xcl_D 0 d 6 rfl (dv_get hd) (by decide) tm338 rfl rfl dX0_goesAnew_1 ?_
  refine x_if_eq B (pc := 4) 23 dX0_goesAnew_4 (by decide) (fun h4 => ?_) (fun h4 => ?_)
  · skip
    refine x_iconst B (pc := 23) 1 dX0_goesAnew_23 (by decide) ?_
    refine x_goto B (pc := 24) 28 dX0_goesAnew_24 (by decide) ?_
    refine x_istore_n B (pc := 28) [(1, .int 1), (0, .ref (da d))] dX0_goesAnew_28 rfl (by decide) rfl ?_
    refine x_aload_n B (pc := 29) 1 dX0_goesAnew_29 rfl rfl ?_
    refine x_get B (pc := 30) (v := .int (S 7 d)) xcl_D 0 d 4 rfl (dv_get hd) (by decide) tm334 rfl rfl dX0_goesAnew_30 ?_
    refine x_if_ne B (pc := 33) 44 dX0_goesAnew_33 (by decide) (fun h33 => ?_) (fun h33 => ?_)
    · skip
      refine x_iconst B (pc := 44) 0 dX0_goesAnew_44 (by decide) ?_
      exact x_zret F (pc := 45) rfl rfl dX0_goesAnew_45 (⟨by unfold aAnew; first | (simp [h4, h33]; done) | (simp [h12, h33]; done) | (simp [h20, h33]; done) | (simp [h4, h12, h20, h33]; done) | (simp [h33]; done), rfl⟩) (Nat.le_of_ble_eq_true rfl) (Nat.le_of_ble_eq_true rfl)
    · skip
      refine x_iload_n B (pc := 36) 0 dX0_goesAnew_36 rfl rfl ?_
      refine x_if_eq B (pc := 37) 44 dX0_goesAnew_37 (by decide) (fun h37 => absurd h37 (by decide)) (fun h37 => ?_)
      refine x_iconst B (pc := 40) 1 dX0_goesAnew_40 (by decide) ?_
      refine x_goto B (pc := 41) 45 dX0_goesAnew_41 (by decide) ?_
      exact x_zret F (pc := 45) rfl rfl dX0_goesAnew_45 (⟨by unfold aAnew; first | (simp [h4, h33]; done) | (simp [h12, h33]; done) | (simp [h20, h33]; done) | (simp [h4, h12, h20, h33]; done) | (simp [h33]; done), rfl⟩) (Nat.le_of_ble_eq_true rfl) (Nat.le_of_ble_eq_true rfl)
  · skip
    refine x_aload_n B (pc := 7) 0 dX0_goesAnew_7 rfl rfl ?_
    refine x_get B (pc := 8) (v := .int (S 9 d)) xcl_D 0 d 6 rfl (dv_get hd) (by decide) tm338 rfl rfl dX0_goesAnew_8 ?_
    refine x_iconst B (pc := 11) 1 dX0_goesAnew_11 (by decide) ?_
    refine x_icmp_eq B (pc := 12) 23 dX0_goesAnew_12 (by decide) (fun h12 => ?_) (fun h12 => ?_)
    · skip
      refine x_iconst B (pc := 23) 1 dX0_goesAnew_23 (by decide) ?_
      refine x_goto B (pc := 24) 28 dX0_goesAnew_24 (by decide) ?_
      refine x_istore_n B (pc := 28) [(1, .int 1), (0, .ref (da d))] dX0_goesAnew_28 rfl (by decide) rfl ?_
      refine x_aload_n B (pc := 29) 1 dX0_goesAnew_29 rfl rfl ?_
      refine x_get B (pc := 30) (v := .int (S 7 d)) xcl_D 0 d 4 rfl (dv_get hd) (by decide) tm334 rfl rfl dX0_goesAnew_30 ?_
      refine x_if_ne B (pc := 33) 44 dX0_goesAnew_33 (by decide) (fun h33 => ?_) (fun h33 => ?_)
      · skip
        refine x_iconst B (pc := 44) 0 dX0_goesAnew_44 (by decide) ?_
        exact x_zret F (pc := 45) rfl rfl dX0_goesAnew_45 (⟨by unfold aAnew; first | (simp [h4, h33]; done) | (simp [h12, h33]; done) | (simp [h20, h33]; done) | (simp [h4, h12, h20, h33]; done) | (simp [h33]; done), rfl⟩) (Nat.le_of_ble_eq_true rfl) (Nat.le_of_ble_eq_true rfl)
      · skip
        refine x_iload_n B (pc := 36) 0 dX0_goesAnew_36 rfl rfl ?_
        refine x_if_eq B (pc := 37) 44 dX0_goesAnew_37 (by decide) (fun h37 => absurd h37 (by decide)) (fun h37 => ?_)
        refine x_iconst B (pc := 40) 1 dX0_goesAnew_40 (by decide) ?_
        refine x_goto B (pc := 41) 45 dX0_goesAnew_41 (by decide) ?_
        exact x_zret F (pc := 45) rfl rfl dX0_goesAnew_45 (⟨by unfold aAnew; first | (simp [h4, h33]; done) | (simp [h12, h33]; done) | (simp [h20, h33]; done) | (simp [h4, h12, h20, h33]; done) | (simp [h33]; done), rfl⟩) (Nat.le_of_ble_eq_true rfl) (Nat.le_of_ble_eq_true rfl)
    · skip
      refine x_aload_n B (pc := 15) 0 dX0_goesAnew_15 rfl rfl ?_
      refine x_get B (pc := 16) (v := .int (S 9 d)) xcl_D 0 d 6 rfl (dv_get hd) (by decide) tm338 rfl rfl dX0_goesAnew_16 ?_
      refine x_iconst B (pc := 19) 4 dX0_goesAnew_19 (by decide) ?_
      refine x_icmp_ne B (pc := 20) 27 dX0_goesAnew_20 (by decide) (fun h20 => ?_) (fun h20 => ?_)
      · skip
        refine x_iconst B (pc := 27) 0 dX0_goesAnew_27 (by decide) ?_
        refine x_istore_n B (pc := 28) [(1, .int 0), (0, .ref (da d))] dX0_goesAnew_28 rfl (by decide) rfl ?_
        refine x_aload_n B (pc := 29) 1 dX0_goesAnew_29 rfl rfl ?_
        refine x_get B (pc := 30) (v := .int (S 7 d)) xcl_D 0 d 4 rfl (dv_get hd) (by decide) tm334 rfl rfl dX0_goesAnew_30 ?_
        refine x_if_ne B (pc := 33) 44 dX0_goesAnew_33 (by decide) (fun h33 => ?_) (fun h33 => ?_)
        · skip
          refine x_iconst B (pc := 44) 0 dX0_goesAnew_44 (by decide) ?_
          exact x_zret F (pc := 45) rfl rfl dX0_goesAnew_45 (⟨by unfold aAnew; first | (simp [h4, h33]; done) | (simp [h12, h33]; done) | (simp [h20, h33]; done) | (simp [h4, h12, h20, h33]; done) | (simp [h33]; done), rfl⟩) (Nat.le_of_ble_eq_true rfl) (Nat.le_of_ble_eq_true rfl)
        · skip
          refine x_iload_n B (pc := 36) 0 dX0_goesAnew_36 rfl rfl ?_
          refine x_if_eq B (pc := 37) 44 dX0_goesAnew_37 (by decide) (fun h37 => ?_) (fun h37 => absurd (by decide) h37)
          refine x_iconst B (pc := 44) 0 dX0_goesAnew_44 (by decide) ?_
          exact x_zret F (pc := 45) rfl rfl dX0_goesAnew_45 (⟨by unfold aAnew; first | (simp [h4, h33]; done) | (simp [h12, h33]; done) | (simp [h20, h33]; done) | (simp [h4, h12, h20, h33]; done) | (simp [h33]; done), rfl⟩) (Nat.le_of_ble_eq_true rfl) (Nat.le_of_ble_eq_true rfl)
      · skip
        refine x_iconst B (pc := 23) 1 dX0_goesAnew_23 (by decide) ?_
        refine x_goto B (pc := 24) 28 dX0_goesAnew_24 (by decide) ?_
        refine x_istore_n B (pc := 28) [(1, .int 1), (0, .ref (da d))] dX0_goesAnew_28 rfl (by decide) rfl ?_
        refine x_aload_n B (pc := 29) 1 dX0_goesAnew_29 rfl rfl ?_
        refine x_get B (pc := 30) (v := .int (S 7 d)) xcl_D 0 d 4 rfl (dv_get hd) (by decide) tm334 rfl rfl dX0_goesAnew_30 ?_
        refine x_if_ne B (pc := 33) 44 dX0_goesAnew_33 (by decide) (fun h33 => ?_) (fun h33 => ?_)
        · skip
          refine x_iconst B (pc := 44) 0 dX0_goesAnew_44 (by decide) ?_
          exact x_zret F (pc := 45) rfl rfl dX0_goesAnew_45 (⟨by unfold aAnew; first | (simp [h4, h33]; done) | (simp [h12, h33]; done) | (simp [h20, h33]; done) | (simp [h4, h12, h20, h33]; done) | (simp [h33]; done), rfl⟩) (Nat.le_of_ble_eq_true rfl) (Nat.le_of_ble_eq_true rfl)
        · skip
          refine x_iload_n B (pc := 36) 0 dX0_goesAnew_36 rfl rfl ?_
          refine x_if_eq B (pc := 37) 44 dX0_goesAnew_37 (by decide) (fun h37 => absurd h37 (by decide)) (fun h37 => ?_)
          refine x_iconst B (pc := 40) 1 dX0_goesAnew_40 (by decide) ?_
          refine x_goto B (pc := 41) 45 dX0_goesAnew_41 (by decide) ?_
          exact x_zret F (pc := 45) rfl rfl dX0_goesAnew_45 (⟨by unfold aAnew; first | (simp [h4, h33]; done) | (simp [h12, h33]; done) | (simp [h20, h33]; done) | (simp [h4, h12, h20, h33]; done) | (simp [h33]; done), rfl⟩) (Nat.le_of_ble_eq_true rfl) (Nat.le_of_ble_eq_true rfl)
