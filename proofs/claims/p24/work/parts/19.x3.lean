/-! loops of the calls -/
theorem rcvN_nil (c : Nat) (L S : xS) (n : Int32) : rcvN c L S [] n = (L, S, [], n) := by cases c <;> rfl
theorem sndN_nil (c : Nat) (L S : xS) (q : List xFr) (n : Int32) : sndN c L S q [] n = (L, S, q, [], n) := by cases c <;> rfl
theorem sndQ_len (S : xS) (x : xFr) (q b : List xFr) (hx : x.1 = 3 ∨ x.1 = 4) : (sndQ S x q).length + outs b ≤ q.length + outs (x :: b) := by
  show _ ≤ q.length + ((if x.1 = 4 then 1 else 0) + outs b)
  unfold sndQ
  split
  · omega
  · next h3 =>
    rw [if_pos (hx.resolve_left h3)]
    split
    · rw [List.length_append]
      show q.length + 1 + outs b ≤ _
      omega
    · omega
def eS (S : xS) (tq : List Nat) (b : Int32) : xS := clrS (if b = 0 then S else coS S tq) tq
def eM (S : xS) (om : Nat → Int32) (tq : List Nat) (b : Int32) : Nat → Int32 := if b = 0 then om else coM S om tq
def eQ (S : xS) (q : List xFr) (tq : List Nat) (b : Int32) : List xFr := if b = 0 then q else coQ S q tq
def eR (tq : List Nat) (b : Int32) : Int32 := if b = 0 then nI 0 else nI tq.length
set_option maxRecDepth 100000 in
set_option maxHeartbeats 4000000 in
theorem c_X3_toReceiver {l : Launch} (hl : l.stackTraces = false) (D : va_G) (e0 : Nat) {ad : Nat → Nat} {up op tr : Int32} {L : xS} {hs : xAg} {N : Nat} {gf : xRg} {qf : List xFr} {da : Nat → Nat} {S : xS} {om : Nat → Int32} {a : Int32} (hok : alOk hs N da) (hN : N ≤ 60) (hq : rwOk qf gf) (hfr : (∀ x, x ∈ qf → x.1 ≤ 2 ∧ x.2.1 < N ∧ x.2.2 < 4)) (hl4 : ∀ d, d < N → ∃ j, j < 4 ∧ S 4 d = nI j) : xC l yX3_toReceiver (.code yX3_toReceiver cX3_toReceiver 4 (some .int)) ({ frames := 7, cells := 1, slots := 6, locals := 108 } : Room) D e0 [.ref (ad 0), .int a] [xoW ad up op tr, lkW D ad L, alW D e0 (ad 2) hs N, rwW D (ad 3) (ad 10) (ad 11) (ad 12) gf qf.length, dvW da N S om] (fun v cs => cod (xinB 1 100 a) true true = 0 ∧ v = some (.int (rcvN (ix a) L S qf 0).2.2.2) ∧ ∃ g1, rwOk (rcvN (ix a) L S qf 0).2.2.1 g1 ∧ cs = [xoW ad up op tr, lkW D ad ((rcvN (ix a) L S qf 0).1), alW D e0 (ad 2) hs N, rwW D (ad 3) (ad 10) (ad 11) (ad 12) g1 (((rcvN (ix a) L S qf 0).2.2.1).length), dvW da N ((rcvN (ix a) L S qf 0).2.1) om]) (fun E => xpo (cod (xinB 1 100 a) true true) xIAE xIAE xIAE E) := by
  refine xC_of hl (by decide +kernel) (Nat.le_of_ble_eq_true rfl) (fun G X F => ?_)
  have B : xB l D e0 "CreditLinks" cX3_toReceiver 4 (some .int) [] _ G X := F.base
  show G 0 [(0, .ref (ad 0)), (1, .int a)] [] [xoW ad up op tr, lkW D ad L, alW D e0 (ad 2) hs N, rwW D (ad 3) (ad 10) (ad 11) (ad 12) gf qf.length, dvW da N S om] 0 0
  refine x_iload_n B (pc := 0) 1 dX3_toReceiver_0 rfl rfl ?_
  cases ha : xinB 1 100 a
  · skip
    refine x_callS B (pc := 1) (As := [.int a]) (c_requireCount_no hl D e0 ha) tm477 tm478 tm1 tm479 md_X3_requireCount ⟨Nat.le_of_ble_eq_true rfl, Nat.le_of_ble_eq_true rfl⟩ [] rfl rfl rfl (Nat.le_of_ble_eq_true rfl) (Nat.le_of_ble_eq_true rfl) (Nat.le_of_ble_eq_true rfl) dX3_toReceiver_1 (fun E hE => x_out F (by subst hE; exact xp1 (by rw [ha]; rfl)) (Nat.le_of_ble_eq_true rfl) (Nat.le_of_ble_eq_true rfl)) (fun v cs1 hp => ?_)
    exact False.elim hp
  · obtain ⟨c, hc1, hc2, rfl⟩ := xinB_t ha (by decide) (by decide)
    have ec : ix (nI c) = c := ix_nI (by omega)
    refine x_callS B (pc := 1) (As := [.int (nI c)]) (c_X3_requireCount hl D e0 hc1 hc2) tm477 tm478 tm1 tm479 md_X3_requireCount ⟨Nat.le_of_ble_eq_true rfl, Nat.le_of_ble_eq_true rfl⟩ [] rfl rfl rfl (Nat.le_of_ble_eq_true rfl) (Nat.le_of_ble_eq_true rfl) (Nat.le_of_ble_eq_true rfl) dX3_toReceiver_1 (fun E hE => False.elim hE) (fun v cs1 hp => ?_)
    obtain ⟨rfl, rfl⟩ := hp
    show G 4 [(0, .ref (ad 0)), (1, .int (nI c))] [] [xoW ad up op tr, lkW D ad L, alW D e0 (ad 2) hs N, rwW D (ad 3) (ad 10) (ad 11) (ad 12) gf qf.length, dvW da N S om] 0 0
    refine x_iconst B (pc := 4) 0 dX3_toReceiver_4 (by decide) ?_
    refine x_val B (y := 0) rfl ?_
    refine x_istore_n B (pc := 5) [(2, .int 0), (0, .ref (ad 0)), (1, .int (nI c))] dX3_toReceiver_5 rfl (by decide) rfl ?_
    refine x_iconst B (pc := 6) 0 dX3_toReceiver_6 (by decide) ?_
    refine x_val B (y := nI 0) rfl ?_
    refine x_istore_n B (pc := 7) [(3, .int (nI 0)), (2, .int 0), (0, .ref (ad 0)), (1, .int (nI c))] dX3_toReceiver_7 rfl (by decide) rfl ?_
    have hloop8 : ∀ (fu : Nat) (i : Nat) (L1 S1 : xS) (q1 : List xFr) (g1 : xRg) (n1 : Int32), i ≤ c → c + 1 ≤ i + fu → rwOk q1 g1 → (∀ x, x ∈ q1 → x.1 ≤ 2 ∧ x.2.1 < N ∧ x.2.2 < 4) → S1 4 = S 4 → rcvN (c - i) L1 S1 q1 n1 = rcvN c L S qf 0 → G 8 [(3, .int (nI i)), (2, .int n1), (1, .int (nI c)), (0, .ref (ad 0))] [] [xoW ad up op tr, lkW D ad L1, alW D e0 (ad 2) hs N, rwW D (ad 3) (ad 10) (ad 11) (ad 12) g1 q1.length, dvW da N S1 om] 0 0 := by
      intro fu
      induction fu with
      | zero =>
        intro i L1 S1 q1 g1 n1 hi hfu hg hfr1 h41 hrec
        omega
      | succ fu ih =>
        intro i L1 S1 q1 g1 n1 hi hfu hg hfr1 h41 hrec
        refine x_iload_n B (pc := 8) 0 dX3_toReceiver_8 rfl rfl ?_
        refine x_iload_n B (pc := 9) 2 dX3_toReceiver_9 rfl rfl ?_
        refine x_icmp_ge B (pc := 10) 39 dX3_toReceiver_10 (by decide) (fun h10 => ?_) (fun h10 => ?_)
        · skip
          have hge : c - i = 0 := by
            have := (nI_leI (by omega) (by omega)).mp h10
            omega
          rw [hge] at hrec
          have hend : rcvN c L S qf 0 = (L1, S1, q1, n1) := hrec.symm
          refine x_iload_n B (pc := 39) 1 dX3_toReceiver_39 rfl rfl ?_
          exact x_iret F (pc := 40) rfl dX3_toReceiver_40 (⟨by rw [ha]; rfl, by rw [ec, hend], g1, by rw [ec, hend]; exact hg, by rw [ec, hend]⟩) (Nat.le_of_ble_eq_true rfl) (Nat.le_of_ble_eq_true rfl)
        · skip
          have hlt : i < c := Nat.lt_of_not_le (fun e => h10 (nI_le e (by omega)))
          rcases q1 with _ | ⟨⟨kd, d, p⟩, q2⟩
          · skip
            refine x_aload_n B (pc := 13) 3 dX3_toReceiver_13 rfl rfl ?_
            refine x_get B (pc := 14) xcl_X 0 0 2 rfl rfl (by decide) tm102 rfl rfl dX3_toReceiver_14 ?_
            refine x_callV B (pc := 17) (As := []) (c_X2_length hl D e0 ) xcl_R rfl 0 0 rfl rfl tm137 tm138 tm139 tm5 tm140 md_X2_length ⟨Nat.le_of_ble_eq_true rfl, Nat.le_of_ble_eq_true rfl⟩ [3] rfl rfl rfl (Nat.le_of_ble_eq_true rfl) (Nat.le_of_ble_eq_true rfl) (Nat.le_of_ble_eq_true rfl) dX3_toReceiver_17 (fun E hE => False.elim hE) (fun v cs1 hp => ?_)
            obtain ⟨rfl, rfl⟩ := hp
            show G 20 [(3, .int (nI i)), (2, .int n1), (1, .int (nI c)), (0, .ref (ad 0))] [.int (nI 0)] [xoW ad up op tr, lkW D ad L1, alW D e0 (ad 2) hs N, rwW D (ad 3) (ad 10) (ad 11) (ad 12) g1 ((@List.nil xFr).length), dvW da N S1 om] 0 0
            refine x_if_le B (pc := 20) 39 dX3_toReceiver_20 (by decide) (fun h20 => ?_) (fun h20 => absurd (by decide) h20)
            have hnil : rcvN c L S qf 0 = (L1, S1, [], n1) := hrec.symm.trans (rcvN_nil _ _ _ _)
            refine x_iload_n B (pc := 39) 1 dX3_toReceiver_39 rfl rfl ?_
            exact x_iret F (pc := 40) rfl dX3_toReceiver_40 (⟨by rw [ha]; rfl, by rw [ec, hnil], g1, by rw [ec, hnil]; exact hg, by rw [ec, hnil]⟩) (Nat.le_of_ble_eq_true rfl) (Nat.le_of_ble_eq_true rfl)
          · have hlq : q2.length + 1 ≤ 512 := hg.2.1
            refine x_aload_n B (pc := 13) 3 dX3_toReceiver_13 rfl rfl ?_
            refine x_get B (pc := 14) xcl_X 0 0 2 rfl rfl (by decide) tm102 rfl rfl dX3_toReceiver_14 ?_
            refine x_callV B (pc := 17) (As := []) (c_X2_length hl D e0 ) xcl_R rfl 0 0 rfl rfl tm137 tm138 tm139 tm5 tm140 md_X2_length ⟨Nat.le_of_ble_eq_true rfl, Nat.le_of_ble_eq_true rfl⟩ [3] rfl rfl rfl (Nat.le_of_ble_eq_true rfl) (Nat.le_of_ble_eq_true rfl) (Nat.le_of_ble_eq_true rfl) dX3_toReceiver_17 (fun E hE => False.elim hE) (fun v cs1 hp => ?_)
            obtain ⟨rfl, rfl⟩ := hp
            show G 20 [(3, .int (nI i)), (2, .int n1), (1, .int (nI c)), (0, .ref (ad 0))] [.int (nI (q2.length + 1))] [xoW ad up op tr, lkW D ad L1, alW D e0 (ad 2) hs N, rwW D (ad 3) (ad 10) (ad 11) (ad 12) g1 (((kd, d, p) :: q2).length), dvW da N S1 om] 0 0
            refine x_if_le B (pc := 20) 39 dX3_toReceiver_20 (by decide) (fun h20 => absurd h20 (nI_nle (by omega) (by omega))) (fun h20 => ?_)
            refine x_aload_n B (pc := 23) 3 dX3_toReceiver_23 rfl rfl ?_
            obtain ⟨hkd, hd, hp4⟩ := hfr1 _ (List.mem_cons_self (a := (kd, d, p)))
            refine x_callV B (pc := 24) (As := []) (c_X3_receiverTakesFrame hl D e0 hok hN hd hkd hp4 (by rw [h41]; exact hl4 d hd) hg) xcl_X rfl 0 0 rfl rfl tm481 tm483 ts10 tm1 tm484 md_X3_receiverTakesFrame ⟨Nat.le_of_ble_eq_true rfl, Nat.le_of_ble_eq_true rfl⟩ [0, 1, 2, 3, 4] rfl rfl rfl (Nat.le_of_ble_eq_true rfl) (Nat.le_of_ble_eq_true rfl) (Nat.le_of_ble_eq_true rfl) dX3_toReceiver_24 (fun E hE => False.elim hE) (fun v cs1 hp => ?_)
            obtain ⟨rfl, g2, hg2, rfl⟩ := hp
            show G 27 [(3, .int (nI i)), (2, .int n1), (1, .int (nI c)), (0, .ref (ad 0))] [.int (rcvR S1 (kd, d, p))] [xoW ad up op tr, lkW D ad (rcvL L1 S1 (kd, d, p)), alW D e0 (ad 2) hs N, rwW D (ad 3) (ad 10) (ad 11) (ad 12) g2 q2.length, dvW da N (rcvS S1 (kd, d, p)) om] 0 0
            refine x_if_eq B (pc := 27) 33 dX3_toReceiver_27 (by decide) (fun h27 => ?_) (fun h27 => ?_)
            · skip
              refine x_iinc B (pc := 33) 0 (nI (i + 1)) [(3, .int (nI (i + 1))), (2, .int n1), (1, .int (nI c)), (0, .ref (ad 0))] dX3_toReceiver_33 rfl (nI_1 i) (by decide) rfl ?_
              refine x_goto B (pc := 36) 8 dX3_toReceiver_36 (by decide) ?_
              refine x_lv B [0, 1, 2, 3] [(3, .int (nI (i + 1))), (2, .int n1), (1, .int (nI c)), (0, .ref (ad 0))] rfl ?_
              exact ih (i + 1) _ _ q2 g2 _ (by omega) (by omega) hg2 (fun x hx => hfr1 x (List.mem_cons_of_mem _ hx)) ((rcvS_k S1 _ (by decide)).trans h41) (by rw [← hrec, show c - i = (c - (i + 1)) + 1 by omega]; show _ = rcvN _ _ _ _ (n1 + rcvR S1 (kd, d, p)); first | rw [h27, Int32.add_zero] | rw [(rcvR_01 S1 (kd, d, p)).resolve_left h27])
            · skip
              refine x_iinc B (pc := 30) 1 (n1 + 1) [(2, .int (n1 + 1)), (3, .int (nI i)), (1, .int (nI c)), (0, .ref (ad 0))] dX3_toReceiver_30 rfl rfl (by decide) rfl ?_
              refine x_iinc B (pc := 33) 1 (nI (i + 1)) [(3, .int (nI (i + 1))), (2, .int (n1 + 1)), (1, .int (nI c)), (0, .ref (ad 0))] dX3_toReceiver_33 rfl (nI_1 i) (by decide) rfl ?_
              refine x_goto B (pc := 36) 8 dX3_toReceiver_36 (by decide) ?_
              refine x_lv B [0, 1, 2, 3] [(3, .int (nI (i + 1))), (2, .int (n1 + 1)), (1, .int (nI c)), (0, .ref (ad 0))] rfl ?_
              exact ih (i + 1) _ _ q2 g2 _ (by omega) (by omega) hg2 (fun x hx => hfr1 x (List.mem_cons_of_mem _ hx)) ((rcvS_k S1 _ (by decide)).trans h41) (by rw [← hrec, show c - i = (c - (i + 1)) + 1 by omega]; show _ = rcvN _ _ _ _ (n1 + rcvR S1 (kd, d, p)); first | rw [h27, Int32.add_zero] | rw [(rcvR_01 S1 (kd, d, p)).resolve_left h27])
    refine x_lv B [0, 1, 3, 2] [(3, .int (nI 0)), (2, .int 0), (1, .int (nI c)), (0, .ref (ad 0))] rfl ?_
    exact hloop8 (c + 1) 0 L S qf gf 0 (Nat.zero_le _) (by omega) hq hfr rfl rfl

set_option maxRecDepth 100000 in
set_option maxHeartbeats 4000000 in
theorem c_X3_toSender {l : Launch} (hl : l.stackTraces = false) (D : va_G) (e0 : Nat) {ad : Nat → Nat} {up op tr : Int32} {L : xS} {hs : xAg} {N : Nat} {gf : xRg} {qf : List xFr} {gb : xRg} {qb : List xFr} {da : Nat → Nat} {S : xS} {om : Nat → Int32} {a : Int32} (hok : alOk hs N da) (hN : N ≤ 60) (hq : rwOk qf gf) (hqb : rwOk qb gb) (hfr : (∀ x, x ∈ qb → (x.1 = 3 ∧ x.2.1 < 4) ∨ (x.1 = 4 ∧ x.2.1 < N))) (hlen : qf.length + outs qb < 512) : xC l yX3_toSender (.code yX3_toSender cX3_toSender 4 (some .int)) ({ frames := 7, cells := 1, slots := 6, locals := 109 } : Room) D e0 [.ref (ad 0), .int a] [xoW ad up op tr, lkW D ad L, alW D e0 (ad 2) hs N, rwW D (ad 3) (ad 10) (ad 11) (ad 12) gf qf.length, rwW D (ad 4) (ad 13) (ad 14) (ad 15) gb qb.length, dvW da N S om] (fun v cs => cod (xinB 1 100 a) true true = 0 ∧ v = some (.int (sndN (ix a) L S qf qb 0).2.2.2.2) ∧ ∃ g1 g2, rwOk (sndN (ix a) L S qf qb 0).2.2.1 g1 ∧ rwOk (sndN (ix a) L S qf qb 0).2.2.2.1 g2 ∧ cs = [xoW ad up op tr, lkW D ad ((sndN (ix a) L S qf qb 0).1), alW D e0 (ad 2) hs N, rwW D (ad 3) (ad 10) (ad 11) (ad 12) g1 (((sndN (ix a) L S qf qb 0).2.2.1).length), rwW D (ad 4) (ad 13) (ad 14) (ad 15) g2 (((sndN (ix a) L S qf qb 0).2.2.2.1).length), dvW da N ((sndN (ix a) L S qf qb 0).2.1) om]) (fun E => xpo (cod (xinB 1 100 a) true true) xIAE xIAE xIAE E) := by
  refine xC_of hl (by decide +kernel) (Nat.le_of_ble_eq_true rfl) (fun G X F => ?_)
  have B : xB l D e0 "CreditLinks" cX3_toSender 4 (some .int) [] _ G X := F.base
  show G 0 [(0, .ref (ad 0)), (1, .int a)] [] [xoW ad up op tr, lkW D ad L, alW D e0 (ad 2) hs N, rwW D (ad 3) (ad 10) (ad 11) (ad 12) gf qf.length, rwW D (ad 4) (ad 13) (ad 14) (ad 15) gb qb.length, dvW da N S om] 0 0
  refine x_iload_n B (pc := 0) 1 dX3_toSender_0 rfl rfl ?_
  cases ha : xinB 1 100 a
  · skip
    refine x_callS B (pc := 1) (As := [.int a]) (c_requireCount_no hl D e0 ha) tm477 tm478 tm1 tm479 md_X3_requireCount ⟨Nat.le_of_ble_eq_true rfl, Nat.le_of_ble_eq_true rfl⟩ [] rfl rfl rfl (Nat.le_of_ble_eq_true rfl) (Nat.le_of_ble_eq_true rfl) (Nat.le_of_ble_eq_true rfl) dX3_toSender_1 (fun E hE => x_out F (by subst hE; exact xp1 (by rw [ha]; rfl)) (Nat.le_of_ble_eq_true rfl) (Nat.le_of_ble_eq_true rfl)) (fun v cs1 hp => ?_)
    exact False.elim hp
  · obtain ⟨c, hc1, hc2, rfl⟩ := xinB_t ha (by decide) (by decide)
    have ec : ix (nI c) = c := ix_nI (by omega)
    refine x_callS B (pc := 1) (As := [.int (nI c)]) (c_X3_requireCount hl D e0 hc1 hc2) tm477 tm478 tm1 tm479 md_X3_requireCount ⟨Nat.le_of_ble_eq_true rfl, Nat.le_of_ble_eq_true rfl⟩ [] rfl rfl rfl (Nat.le_of_ble_eq_true rfl) (Nat.le_of_ble_eq_true rfl) (Nat.le_of_ble_eq_true rfl) dX3_toSender_1 (fun E hE => False.elim hE) (fun v cs1 hp => ?_)
    obtain ⟨rfl, rfl⟩ := hp
    show G 4 [(0, .ref (ad 0)), (1, .int (nI c))] [] [xoW ad up op tr, lkW D ad L, alW D e0 (ad 2) hs N, rwW D (ad 3) (ad 10) (ad 11) (ad 12) gf qf.length, rwW D (ad 4) (ad 13) (ad 14) (ad 15) gb qb.length, dvW da N S om] 0 0
    refine x_iconst B (pc := 4) 0 dX3_toSender_4 (by decide) ?_
    refine x_val B (y := 0) rfl ?_
    refine x_istore_n B (pc := 5) [(2, .int 0), (0, .ref (ad 0)), (1, .int (nI c))] dX3_toSender_5 rfl (by decide) rfl ?_
    refine x_iconst B (pc := 6) 0 dX3_toSender_6 (by decide) ?_
    refine x_val B (y := nI 0) rfl ?_
    refine x_istore_n B (pc := 7) [(3, .int (nI 0)), (2, .int 0), (0, .ref (ad 0)), (1, .int (nI c))] dX3_toSender_7 rfl (by decide) rfl ?_
    have hloop8 : ∀ (fu : Nat) (i : Nat) (L1 S1 : xS) (q1 b1 : List xFr) (g1 g2 : xRg) (n1 : Int32), i ≤ c → c + 1 ≤ i + fu → rwOk q1 g1 → rwOk b1 g2 → (∀ x, x ∈ b1 → (x.1 = 3 ∧ x.2.1 < 4) ∨ (x.1 = 4 ∧ x.2.1 < N)) → q1.length + outs b1 < 512 → sndN (c - i) L1 S1 q1 b1 n1 = sndN c L S qf qb 0 → G 8 [(3, .int (nI i)), (2, .int n1), (1, .int (nI c)), (0, .ref (ad 0))] [] [xoW ad up op tr, lkW D ad L1, alW D e0 (ad 2) hs N, rwW D (ad 3) (ad 10) (ad 11) (ad 12) g1 q1.length, rwW D (ad 4) (ad 13) (ad 14) (ad 15) g2 b1.length, dvW da N S1 om] 0 0 := by
      intro fu
      induction fu with
      | zero =>
        intro i L1 S1 q1 b1 g1 g2 n1 hi hfu hg hgb hfr1 hln hrec
        omega
      | succ fu ih =>
        intro i L1 S1 q1 b1 g1 g2 n1 hi hfu hg hgb hfr1 hln hrec
        refine x_iload_n B (pc := 8) 0 dX3_toSender_8 rfl rfl ?_
        refine x_iload_n B (pc := 9) 2 dX3_toSender_9 rfl rfl ?_
        refine x_icmp_ge B (pc := 10) 39 dX3_toSender_10 (by decide) (fun h10 => ?_) (fun h10 => ?_)
        · skip
          have hge : c - i = 0 := by
            have := (nI_leI (by omega) (by omega)).mp h10
            omega
          rw [hge] at hrec
          have hend : sndN c L S qf qb 0 = (L1, S1, q1, b1, n1) := hrec.symm
          refine x_iload_n B (pc := 39) 1 dX3_toSender_39 rfl rfl ?_
          exact x_iret F (pc := 40) rfl dX3_toSender_40 (⟨by rw [ha]; rfl, by rw [ec, hend], g1, g2, by rw [ec, hend]; exact hg, by rw [ec, hend]; exact hgb, by rw [ec, hend]⟩) (Nat.le_of_ble_eq_true rfl) (Nat.le_of_ble_eq_true rfl)
        · skip
          have hlt : i < c := Nat.lt_of_not_le (fun e => h10 (nI_le e (by omega)))
          rcases b1 with _ | ⟨⟨kd, s9, v9⟩, q2⟩
          · skip
            refine x_aload_n B (pc := 13) 3 dX3_toSender_13 rfl rfl ?_
            refine x_get B (pc := 14) xcl_X 0 0 3 rfl rfl (by decide) tm103 rfl rfl dX3_toSender_14 ?_
            refine x_callV B (pc := 17) (As := []) (c_X2_length hl D e0 ) xcl_R rfl 0 0 rfl rfl tm137 tm138 tm139 tm5 tm140 md_X2_length ⟨Nat.le_of_ble_eq_true rfl, Nat.le_of_ble_eq_true rfl⟩ [4] rfl rfl rfl (Nat.le_of_ble_eq_true rfl) (Nat.le_of_ble_eq_true rfl) (Nat.le_of_ble_eq_true rfl) dX3_toSender_17 (fun E hE => False.elim hE) (fun v cs1 hp => ?_)
            obtain ⟨rfl, rfl⟩ := hp
            show G 20 [(3, .int (nI i)), (2, .int n1), (1, .int (nI c)), (0, .ref (ad 0))] [.int (nI 0)] [xoW ad up op tr, lkW D ad L1, alW D e0 (ad 2) hs N, rwW D (ad 3) (ad 10) (ad 11) (ad 12) g1 q1.length, rwW D (ad 4) (ad 13) (ad 14) (ad 15) g2 ((@List.nil xFr).length), dvW da N S1 om] 0 0
            refine x_if_le B (pc := 20) 39 dX3_toSender_20 (by decide) (fun h20 => ?_) (fun h20 => absurd (by decide) h20)
            have hnil : sndN c L S qf qb 0 = (L1, S1, q1, [], n1) := hrec.symm.trans (sndN_nil _ _ _ _ _)
            refine x_iload_n B (pc := 39) 1 dX3_toSender_39 rfl rfl ?_
            exact x_iret F (pc := 40) rfl dX3_toSender_40 (⟨by rw [ha]; rfl, by rw [ec, hnil], g1, g2, by rw [ec, hnil]; exact hg, by rw [ec, hnil]; exact hgb, by rw [ec, hnil]⟩) (Nat.le_of_ble_eq_true rfl) (Nat.le_of_ble_eq_true rfl)
          · have hlq : q2.length + 1 ≤ 512 := hgb.2.1
            refine x_aload_n B (pc := 13) 3 dX3_toSender_13 rfl rfl ?_
            refine x_get B (pc := 14) xcl_X 0 0 3 rfl rfl (by decide) tm103 rfl rfl dX3_toSender_14 ?_
            refine x_callV B (pc := 17) (As := []) (c_X2_length hl D e0 ) xcl_R rfl 0 0 rfl rfl tm137 tm138 tm139 tm5 tm140 md_X2_length ⟨Nat.le_of_ble_eq_true rfl, Nat.le_of_ble_eq_true rfl⟩ [4] rfl rfl rfl (Nat.le_of_ble_eq_true rfl) (Nat.le_of_ble_eq_true rfl) (Nat.le_of_ble_eq_true rfl) dX3_toSender_17 (fun E hE => False.elim hE) (fun v cs1 hp => ?_)
            obtain ⟨rfl, rfl⟩ := hp
            show G 20 [(3, .int (nI i)), (2, .int n1), (1, .int (nI c)), (0, .ref (ad 0))] [.int (nI (q2.length + 1))] [xoW ad up op tr, lkW D ad L1, alW D e0 (ad 2) hs N, rwW D (ad 3) (ad 10) (ad 11) (ad 12) g1 q1.length, rwW D (ad 4) (ad 13) (ad 14) (ad 15) g2 (((kd, s9, v9) :: q2).length), dvW da N S1 om] 0 0
            refine x_if_le B (pc := 20) 39 dX3_toSender_20 (by decide) (fun h20 => absurd h20 (nI_nle (by omega) (by omega))) (fun h20 => ?_)
            refine x_aload_n B (pc := 23) 3 dX3_toSender_23 rfl rfl ?_
            have hk9 := hfr1 _ (List.mem_cons_self (a := (kd, s9, v9)))
            have hl9 : q1.length < 512 := by omega
            refine x_callV B (pc := 24) (As := []) (c_X3_senderTakesFrame hl D e0 hok hN hk9 hg hl9 hgb) xcl_X rfl 0 0 rfl rfl tm517 tm519 ts11 tm1 tm520 md_X3_senderTakesFrame ⟨Nat.le_of_ble_eq_true rfl, Nat.le_of_ble_eq_true rfl⟩ [0, 1, 2, 3, 4, 5] rfl rfl rfl (Nat.le_of_ble_eq_true rfl) (Nat.le_of_ble_eq_true rfl) (Nat.le_of_ble_eq_true rfl) dX3_toSender_24 (fun E hE => False.elim hE) (fun v cs1 hp => ?_)
            obtain ⟨rfl, g3, g4, hg3, hg4, rfl⟩ := hp
            show G 27 [(3, .int (nI i)), (2, .int n1), (1, .int (nI c)), (0, .ref (ad 0))] [.int (sndR S1 (kd, s9, v9))] [xoW ad up op tr, lkW D ad (sndL L1 (kd, s9, v9)), alW D e0 (ad 2) hs N, rwW D (ad 3) (ad 10) (ad 11) (ad 12) g3 ((sndQ S1 (kd, s9, v9) q1).length), rwW D (ad 4) (ad 13) (ad 14) (ad 15) g4 q2.length, dvW da N (sndS S1 (kd, s9, v9)) om] 0 0
            refine x_if_eq B (pc := 27) 33 dX3_toSender_27 (by decide) (fun h27 => ?_) (fun h27 => ?_)
            · skip
              refine x_iinc B (pc := 33) 0 (nI (i + 1)) [(3, .int (nI (i + 1))), (2, .int n1), (1, .int (nI c)), (0, .ref (ad 0))] dX3_toSender_33 rfl (nI_1 i) (by decide) rfl ?_
              refine x_goto B (pc := 36) 8 dX3_toSender_36 (by decide) ?_
              refine x_lv B [0, 1, 2, 3] [(3, .int (nI (i + 1))), (2, .int n1), (1, .int (nI c)), (0, .ref (ad 0))] rfl ?_
              exact ih (i + 1) _ _ _ q2 g3 g4 _ (by omega) (by omega) hg3 hg4 (fun x hx => hfr1 x (List.mem_cons_of_mem _ hx)) (Nat.lt_of_le_of_lt (sndQ_len S1 (kd, s9, v9) q1 q2 (hk9.imp And.left And.left)) hln) (by rw [← hrec, show c - i = (c - (i + 1)) + 1 by omega]; show _ = sndN _ _ _ _ _ (n1 + sndR S1 (kd, s9, v9)); first | rw [h27, Int32.add_zero] | rw [(sndR_01 S1 (kd, s9, v9)).resolve_left h27])
            · skip
              refine x_iinc B (pc := 30) 1 (n1 + 1) [(2, .int (n1 + 1)), (3, .int (nI i)), (1, .int (nI c)), (0, .ref (ad 0))] dX3_toSender_30 rfl rfl (by decide) rfl ?_
              refine x_iinc B (pc := 33) 1 (nI (i + 1)) [(3, .int (nI (i + 1))), (2, .int (n1 + 1)), (1, .int (nI c)), (0, .ref (ad 0))] dX3_toSender_33 rfl (nI_1 i) (by decide) rfl ?_
              refine x_goto B (pc := 36) 8 dX3_toSender_36 (by decide) ?_
              refine x_lv B [0, 1, 2, 3] [(3, .int (nI (i + 1))), (2, .int (n1 + 1)), (1, .int (nI c)), (0, .ref (ad 0))] rfl ?_
              exact ih (i + 1) _ _ _ q2 g3 g4 _ (by omega) (by omega) hg3 hg4 (fun x hx => hfr1 x (List.mem_cons_of_mem _ hx)) (Nat.lt_of_le_of_lt (sndQ_len S1 (kd, s9, v9) q1 q2 (hk9.imp And.left And.left)) hln) (by rw [← hrec, show c - i = (c - (i + 1)) + 1 by omega]; show _ = sndN _ _ _ _ _ (n1 + sndR S1 (kd, s9, v9)); first | rw [h27, Int32.add_zero] | rw [(sndR_01 S1 (kd, s9, v9)).resolve_left h27])
    refine x_lv B [0, 1, 3, 2] [(3, .int (nI 0)), (2, .int 0), (1, .int (nI c)), (0, .ref (ad 0))] rfl ?_
    exact hloop8 (c + 1) 0 L S qf qb gf gb 0 (Nat.zero_le _) (by omega) hq hqb hfr hlen rfl

set_option maxRecDepth 100000 in
set_option maxHeartbeats 4000000 in
theorem c_X3_join {l : Launch} (hl : l.stackTraces = false) (D : va_G) (e0 : Nat) {ad : Nat → Nat} {up op tr : Int32} {L : xS} {hs : xAg} {N : Nat} {gf : xRg} {qf : List xFr} {da : Nat → Nat} {S : xS} {om : Nat → Int32} (hup : up = 0 ∨ up = 1) (hok : alOk hs N da) (hN : N ≤ 60) (hq : rwOk qf gf) (hql : qf.length + 4 * N ≤ 512) (hom : ∀ d, d < N → S 9 d = 3 → om d = S 12 d) (h6 : ∀ d, d < N → ∃ m, m ≤ 4 ∧ S 6 d = nI m) : xC l yX3_join (.code yX3_join cX3_join 5 (some .int)) ({ frames := 6, cells := 1, slots := 6, locals := 82 } : Room) D e0 [.ref (ad 0)] [xoW ad up op tr, lkW D ad L, alW D e0 (ad 2) hs N, rwW D (ad 3) (ad 10) (ad 11) (ad 12) gf qf.length, dvW da N S om] (fun v cs => cod (decide (up = 0)) true true = 0 ∧ v = some (.int (jn S qf N).2.2) ∧ ∃ g1, rwOk (jn S qf N).2.1 g1 ∧ cs = [xoW ad 1 op tr, lkW D ad (jnL L 4), alW D e0 (ad 2) hs N, rwW D (ad 3) (ad 10) (ad 11) (ad 12) g1 (((jn S qf N).2.1).length), dvW da N ((jn S qf N).1) om]) (fun E => xpo (cod (decide (up = 0)) true true) xISE xISE xISE E) := by
  refine xC_of hl (by decide +kernel) (Nat.le_of_ble_eq_true rfl) (fun G X F => ?_)
  have B : xB l D e0 "CreditLinks" cX3_join 5 (some .int) [] _ G X := F.base
  show G 0 [(0, .ref (ad 0))] [] [xoW ad up op tr, lkW D ad L, alW D e0 (ad 2) hs N, rwW D (ad 3) (ad 10) (ad 11) (ad 12) gf qf.length, dvW da N S om] 0 0
  rcases hup with rfl | rfl
  · skip
    refine x_aload_n B (pc := 0) 0 dX3_join_0 rfl rfl ?_
    refine x_get B (pc := 1) (v := .int 0) xcl_X 0 0 5 rfl rfl (by decide) tm105 rfl rfl dX3_join_1 ?_
    refine x_if_eq B (pc := 4) 17 dX3_join_4 (by decide) (fun h4 => ?_) (fun h4 => absurd (by decide) h4)
    refine x_aload_n B (pc := 17) 0 dX3_join_17 rfl rfl ?_
    refine x_iconst B (pc := 18) 1 dX3_join_18 (by decide) ?_
    refine x_put B (pc := 19) xcl_X 0 0 5 [xoW ad 1 op tr, lkW D ad L, alW D e0 (ad 2) hs N, rwW D (ad 3) (ad 10) (ad 11) (ad 12) gf qf.length, dvW da N S om] rfl rfl (by decide) tm105 rfl rfl rfl rfl rfl (Nat.le_of_ble_eq_true rfl) rfl rfl dX3_join_19 ?_
    refine x_aload_n B (pc := 22) 0 dX3_join_22 rfl rfl ?_
    refine x_get B (pc := 23) xcl_X 0 0 0 rfl rfl (by decide) tm100 rfl rfl dX3_join_23 ?_
    refine x_astore_n B (pc := 26) [(1, .ref (ad 1)), (0, .ref (ad 0))] dX3_join_26 rfl (by decide) rfl ?_
    refine x_aload_n B (pc := 27) 0 dX3_join_27 rfl rfl ?_
    refine x_alen B (pc := 28) (v := nI 4) 1 0 3 rfl rfl rfl rfl dX3_join_28 ?_
    refine x_val B (y := nI 4) rfl ?_
    refine x_istore_n B (pc := 29) [(2, .int (nI 4)), (1, .ref (ad 1)), (0, .ref (ad 0))] dX3_join_29 rfl (by decide) rfl ?_
    refine x_iconst B (pc := 30) 0 dX3_join_30 (by decide) ?_
    refine x_val B (y := nI 0) rfl ?_
    refine x_istore_n B (pc := 31) [(3, .int (nI 0)), (2, .int (nI 4)), (1, .ref (ad 1)), (0, .ref (ad 0))] dX3_join_31 rfl (by decide) rfl ?_
    have hloop32 : ∀ (fu : Nat) (j : Nat), j ≤ 4 → 5 ≤ j + fu → G 32 [(3, .int (nI j)), (2, .int (nI 4)), (1, .ref (ad 1)), (0, .ref (ad 0))] [] [xoW ad 1 op tr, lkW D ad (jnL L j), alW D e0 (ad 2) hs N, rwW D (ad 3) (ad 10) (ad 11) (ad 12) gf qf.length, dvW da N S om] 0 0 := by
      intro fu
      induction fu with
      | zero =>
        intro j hj4 hfu
        omega
      | succ fu ih =>
        intro j hj4 hfu
        refine x_iload_n B (pc := 32) 0 dX3_join_32 rfl rfl ?_
        refine x_iload_n B (pc := 33) 1 dX3_join_33 rfl rfl ?_
        refine x_icmp_ge B (pc := 34) 53 dX3_join_34 (by decide) (fun h34 => ?_) (fun h34 => ?_)
        · skip
          have hge : j = 4 := by
            have := (nI_leI (by omega) (by omega)).mp h34
            omega
          subst hge
          refine x_lv B [3] [(0, .ref (ad 0))] rfl ?_
          refine x_iconst B (pc := 53) 0 dX3_join_53 (by decide) ?_
          refine x_istore_n B (pc := 54) [(1, .int 0), (0, .ref (ad 0))] dX3_join_54 rfl (by decide) rfl ?_
          refine x_iconst B (pc := 55) 0 dX3_join_55 (by decide) ?_
          refine x_val B (y := nI 0) rfl ?_
          refine x_istore_n B (pc := 56) [(2, .int (nI 0)), (1, .int 0), (0, .ref (ad 0))] dX3_join_56 rfl (by decide) rfl ?_
          have hloop57 : ∀ (fu : Nat) (i : Nat) (S1 : xS) (q1 : List xFr) (g1 : xRg) (n1 : Int32), i ≤ N → N + 1 ≤ i + fu → rwOk q1 g1 → jn S qf i = (S1, q1, n1) → G 57 [(2, .int (nI i)), (1, .int n1), (0, .ref (ad 0))] [] [xoW ad 1 op tr, lkW D ad (jnL L 4), alW D e0 (ad 2) hs N, rwW D (ad 3) (ad 10) (ad 11) (ad 12) g1 q1.length, dvW da N S1 om] 0 0 := by
            intro fu
            induction fu with
            | zero =>
              intro i S1 q1 g1 n1 hi hfu hg hrec
              omega
            | succ fu ih =>
              intro i S1 q1 g1 n1 hi hfu hg hrec
              have hS1 : S1 = (jn S qf i).1 := by rw [hrec]
              have hq1 : q1 = (jn S qf i).2.1 := by rw [hrec]
              have hsuc : ∀ n2, n1 + aAnew (aBring S1 i) i = n2 → jn S qf (i + 1) = (aBring S1 i, jnQ S1 i q1, n2) := by
                intro n2 en
                show (aBring (jn S qf i).1 i, jnQ (jn S qf i).1 i (jn S qf i).2.1, (jn S qf i).2.2 + aAnew (aBring (jn S qf i).1 i) i) = _
                rw [hrec, ← en]
              refine x_iload_n B (pc := 57) 0 dX3_join_57 rfl rfl ?_
              refine x_aload_n B (pc := 58) 2 dX3_join_58 rfl rfl ?_
              refine x_get B (pc := 59) xcl_X 0 0 1 rfl rfl (by decide) tm101 rfl rfl dX3_join_59 ?_
              refine x_callV B (pc := 62) (As := []) (c_Jx4a65c_size_8abf5 hl D e0 ) xcl_A rfl 0 0 rfl al_get0 tm129 tm130 tm131 tm4 tm132 md_Jx4a65c_size_8abf5 ⟨Nat.le_of_ble_eq_true rfl, Nat.le_of_ble_eq_true rfl⟩ [2] rfl rfl rfl (Nat.le_of_ble_eq_true rfl) (Nat.le_of_ble_eq_true rfl) (Nat.le_of_ble_eq_true rfl) dX3_join_62 (fun E hE => False.elim hE) (fun v cs1 hp => ?_)
              obtain ⟨rfl, rfl⟩ := hp
              show G 65 [(2, .int (nI i)), (1, .int n1), (0, .ref (ad 0))] [.int (nI N), .int (nI i)] [xoW ad 1 op tr, lkW D ad (jnL L 4), alW D e0 (ad 2) hs N, rwW D (ad 3) (ad 10) (ad 11) (ad 12) g1 q1.length, dvW da N S1 om] 0 0
              refine x_icmp_ge B (pc := 65) 106 dX3_join_65 (by decide) (fun h65 => ?_) (fun h65 => ?_)
              · skip
                have hge : i = N := by
                  have := (nI_leI (by omega) (by omega)).mp h65
                  omega
                subst hge
                refine x_iload_n B (pc := 106) 1 dX3_join_106 rfl rfl ?_
                exact x_iret F (pc := 107) rfl dX3_join_107 (⟨rfl, by rw [hrec], g1, by rw [hrec]; exact hg, by rw [hrec]⟩) (Nat.le_of_ble_eq_true rfl) (Nat.le_of_ble_eq_true rfl)
              · skip
                have hlt : i < N := Nat.lt_of_not_le (fun e => h65 (nI_le e (by omega)))
                obtain ⟨m, hm4, em6⟩ := h6 i hlt
                have em : ix (nI m) = m := ix_nI (by omega)
                have e61 : S1 6 i = nI m := by rw [hS1, jn_at S qf i (Nat.le_refl i)]; exact em6
                have eb6 : aBring S1 i 6 i = nI m := by rw [aBring_k S1 i (by decide)]; exact e61
                have hl1 : q1.length ≤ qf.length + 4 * i := by
                  rw [hq1]
                  refine jn_len S qf i (fun d hd => ?_)
                  obtain ⟨m2, hm2, em2⟩ := h6 d (by omega)
                  rw [em2, ix_nI (by omega)]
                  exact hm2
                refine x_aload_n B (pc := 68) 2 dX3_join_68 rfl rfl ?_
                refine x_get B (pc := 69) xcl_X 0 0 1 rfl rfl (by decide) tm101 rfl rfl dX3_join_69 ?_
                refine x_iload_n B (pc := 72) 0 dX3_join_72 rfl rfl ?_
                refine x_callV B (pc := 73) (As := [.int (nI i)]) (c_Jx4a65c_get_915e3 hl D e0 hok hlt) xcl_A rfl 0 0 rfl al_get0 tm149 tm150 tm151 tm4 tm152 md_Jx4a65c_get_915e3 ⟨Nat.le_of_ble_eq_true rfl, Nat.le_of_ble_eq_true rfl⟩ [2] rfl rfl rfl (Nat.le_of_ble_eq_true rfl) (Nat.le_of_ble_eq_true rfl) (Nat.le_of_ble_eq_true rfl) dX3_join_73 (fun E hE => False.elim hE) (fun v cs1 hp => ?_)
                obtain ⟨rfl, rfl⟩ := hp
                show G 76 [(2, .int (nI i)), (1, .int n1), (0, .ref (ad 0))] [.ref (da i)] [xoW ad 1 op tr, lkW D ad (jnL L 4), alW D e0 (ad 2) hs N, rwW D (ad 3) (ad 10) (ad 11) (ad 12) g1 q1.length, dvW da N S1 om] 0 0
                refine x_cast B (pc := 76) xcl_D 4 i rfl (dv_get hlt) tm163 dX3_join_76 ?_
                refine x_astore_n B (pc := 79) [(3, .ref (da i)), (2, .int (nI i)), (1, .int n1), (0, .ref (ad 0))] dX3_join_79 rfl (by decide) rfl ?_
                refine x_aload_n B (pc := 80) 0 dX3_join_80 rfl rfl ?_
                refine x_callV B (pc := 81) (As := []) (c_X0_bringTogether hl D e0 hlt (fun e9 => by rw [hS1, jn_at S qf i (Nat.le_refl i)] at e9 ⊢; exact hom i hlt e9)) xcl_D rfl 0 i rfl (dv_get hlt) tm550 tm551 tm552 tm14 tm553 md_X0_bringTogether ⟨Nat.le_of_ble_eq_true rfl, Nat.le_of_ble_eq_true rfl⟩ [4] rfl rfl rfl (Nat.le_of_ble_eq_true rfl) (Nat.le_of_ble_eq_true rfl) (Nat.le_of_ble_eq_true rfl) dX3_join_81 (fun E hE => False.elim hE) (fun v cs1 hp => ?_)
                obtain ⟨rfl, rfl⟩ := hp
                show G 84 [(3, .ref (da i)), (2, .int (nI i)), (1, .int n1), (0, .ref (ad 0))] [] [xoW ad 1 op tr, lkW D ad (jnL L 4), alW D e0 (ad 2) hs N, rwW D (ad 3) (ad 10) (ad 11) (ad 12) g1 q1.length, dvW da N (aBring S1 i) om] 0 0
                refine x_aload_n B (pc := 84) 0 dX3_join_84 rfl rfl ?_
                refine x_callV B (pc := 85) (As := []) (c_X0_goesAnew hl D e0 hlt) xcl_D rfl 0 i rfl (dv_get hlt) tm164 tm165 tm166 tm14 tm167 md_X0_goesAnew ⟨Nat.le_of_ble_eq_true rfl, Nat.le_of_ble_eq_true rfl⟩ [4] rfl rfl rfl (Nat.le_of_ble_eq_true rfl) (Nat.le_of_ble_eq_true rfl) (Nat.le_of_ble_eq_true rfl) dX3_join_85 (fun E hE => False.elim hE) (fun v cs1 hp => ?_)
                obtain ⟨rfl, rfl⟩ := hp
                show G 88 [(3, .ref (da i)), (2, .int (nI i)), (1, .int n1), (0, .ref (ad 0))] [.int (aAnew (aBring S1 i) i)] [xoW ad 1 op tr, lkW D ad (jnL L 4), alW D e0 (ad 2) hs N, rwW D (ad 3) (ad 10) (ad 11) (ad 12) g1 q1.length, dvW da N (aBring S1 i) om] 0 0
                refine x_if_eq B (pc := 88) 100 dX3_join_88 (by decide) (fun h88 => ?_) (fun h88 => ?_)
                · skip
                  refine x_iinc B (pc := 100) 1 (nI (i + 1)) [(2, .int (nI (i + 1))), (3, .ref (da i)), (1, .int n1), (0, .ref (ad 0))] dX3_join_100 rfl (nI_1 i) (by decide) rfl ?_
                  refine x_goto B (pc := 103) 57 dX3_join_103 (by decide) ?_
                  refine x_lv B [0, 2, 3] [(2, .int (nI (i + 1))), (1, .int n1), (0, .ref (ad 0))] rfl ?_
                  have eqq : jnQ S1 i q1 = q1 := by unfold jnQ; rw [if_neg (by rw [h88]; decide)]
                  exact ih (i + 1) _ q1 g1 _ (by omega) (by omega) hg ((hsuc _ (by rw [h88, Int32.add_zero])).trans (by rw [eqq]))
                · skip
                  have ha1 : aAnew (aBring S1 i) i = 1 := (aAnew_01 _ _).resolve_left h88
                  refine x_aload_n B (pc := 91) 3 dX3_join_91 rfl rfl ?_
                  refine x_aload_n B (pc := 92) 0 dX3_join_92 rfl rfl ?_
                  refine x_iconst B (pc := 93) 1 dX3_join_93 (by decide) ?_
                  refine x_callV B (pc := 94) (As := [.ref (da i), .int 1]) (c_X3_addParts hl D e0 hlt eb6 hm4 hg (by omega)) xcl_X rfl 0 0 rfl rfl tm431 tm433 ts6 tm1 tm434 md_X3_addParts ⟨Nat.le_of_ble_eq_true rfl, Nat.le_of_ble_eq_true rfl⟩ [0, 3, 4] rfl rfl rfl (Nat.le_of_ble_eq_true rfl) (Nat.le_of_ble_eq_true rfl) (Nat.le_of_ble_eq_true rfl) dX3_join_94 (fun E hE => False.elim hE) (fun v cs1 hp => ?_)
                  obtain ⟨rfl, g2, hg2, rfl⟩ := hp
                  show G 97 [(3, .ref (da i)), (2, .int (nI i)), (1, .int n1), (0, .ref (ad 0))] [] [xoW ad 1 op tr, lkW D ad (jnL L 4), alW D e0 (ad 2) hs N, rwW D (ad 3) (ad 10) (ad 11) (ad 12) g2 ((q1 ++ pts 1 i m).length), dvW da N (aBring S1 i) om] 0 0
                  refine x_iinc B (pc := 97) 2 (n1 + 1) [(1, .int (n1 + 1)), (3, .ref (da i)), (2, .int (nI i)), (0, .ref (ad 0))] dX3_join_97 rfl rfl (by decide) rfl ?_
                  refine x_iinc B (pc := 100) 2 (nI (i + 1)) [(2, .int (nI (i + 1))), (1, .int (n1 + 1)), (3, .ref (da i)), (0, .ref (ad 0))] dX3_join_100 rfl (nI_1 i) (by decide) rfl ?_
                  refine x_goto B (pc := 103) 57 dX3_join_103 (by decide) ?_
                  refine x_lv B [0, 1, 3] [(2, .int (nI (i + 1))), (1, .int (n1 + 1)), (0, .ref (ad 0))] rfl ?_
                  have eqq : jnQ S1 i q1 = q1 ++ pts 1 i m := by unfold jnQ; rw [if_pos ha1, e61, em]
                  exact ih (i + 1) _ _ g2 _ (by omega) (by omega) hg2 (by rw [← eqq]; exact hsuc _ (by rw [ha1]))
          refine x_lv B [0, 1, 2] [(2, .int (nI 0)), (1, .int 0), (0, .ref (ad 0))] rfl ?_
          exact hloop57 (N + 1) 0 S qf gf 0 (Nat.zero_le _) (by omega) hq rfl
        · skip
          have hj : j < 4 := Nat.lt_of_not_le (fun e => h34 (nI_le e (by omega)))
          refine x_aload_n B (pc := 37) 2 dX3_join_37 rfl rfl ?_
          refine x_iload_n B (pc := 38) 0 dX3_join_38 rfl rfl ?_
          refine x_kaldN B (pc := 39) j 1 0 hj (by decide) rfl rfl dX3_join_39 ?_
          show G 40 [(3, .int (nI j)), (2, .int (nI 4)), (1, .ref (ad 1)), (0, .ref (ad 0))] [.ref (ad (6 + j))] [xoW ad 1 op tr, lkW D ad (jnL L j), alW D e0 (ad 2) hs N, rwW D (ad 3) (ad 10) (ad 11) (ad 12) gf qf.length, dvW da N S om] 0 0
          refine x_astore B (pc := 40) [(4, .ref (ad (6 + j))), (3, .int (nI j)), (2, .int (nI 4)), (1, .ref (ad 1)), (0, .ref (ad 0))] dX3_join_40 (by decide) rfl ?_
          refine x_aload B (pc := 42) 0 dX3_join_42 rfl ?_
          refine x_callV B (pc := 44) (As := []) (c_X1_startAgain hl D e0 hj) xcl_L rfl 0 (j + 1) rfl (lk_get hj) tm546 tm547 tm548 tm6 tm549 md_X1_startAgain ⟨Nat.le_of_ble_eq_true rfl, Nat.le_of_ble_eq_true rfl⟩ [1] rfl rfl rfl (Nat.le_of_ble_eq_true rfl) (Nat.le_of_ble_eq_true rfl) (Nat.le_of_ble_eq_true rfl) dX3_join_44 (fun E hE => False.elim hE) (fun v cs1 hp => ?_)
          obtain ⟨rfl, rfl⟩ := hp
          show G 47 [(4, .ref (ad (6 + j))), (3, .int (nI j)), (2, .int (nI 4)), (1, .ref (ad 1)), (0, .ref (ad 0))] [] [xoW ad 1 op tr, lkW D ad (jnL L (j + 1)), alW D e0 (ad 2) hs N, rwW D (ad 3) (ad 10) (ad 11) (ad 12) gf qf.length, dvW da N S om] 0 0
          refine x_iinc B (pc := 47) 1 (nI (j + 1)) [(3, .int (nI (j + 1))), (4, .ref (ad (6 + j))), (2, .int (nI 4)), (1, .ref (ad 1)), (0, .ref (ad 0))] dX3_join_47 rfl (nI_1 j) (by decide) rfl ?_
          refine x_goto B (pc := 50) 32 dX3_join_50 (by decide) ?_
          refine x_lv B [0, 2, 3, 4] [(3, .int (nI (j + 1))), (2, .int (nI 4)), (1, .ref (ad 1)), (0, .ref (ad 0))] rfl ?_
          exact ih (j + 1) (by omega) (by omega)
    refine x_lv B [0, 1, 2, 3] [(3, .int (nI 0)), (2, .int (nI 4)), (1, .ref (ad 1)), (0, .ref (ad 0))] rfl ?_
    exact hloop32 5 0 (by omega) (by omega)
  · skip
    refine x_aload_n B (pc := 0) 0 dX3_join_0 rfl rfl ?_
    refine x_get B (pc := 1) (v := .int 1) xcl_X 0 0 5 rfl rfl (by decide) tm105 rfl rfl dX3_join_1 ?_
    refine x_if_eq B (pc := 4) 17 dX3_join_4 (by decide) (fun h4 => absurd h4 (by decide)) (fun h4 => ?_)
    exact x_throw F (pc := 7) (cls := "java/lang/IllegalStateException") (text := "the connection is up") (by decide +kernel) xat_ISE.1 xat_ISE.2 tm283 tm12 (by decide +kernel) dX3_join_7 dX3_join_10 dX3_join_11 dX3_join_13 dX3_join_16 (Nat.le_of_ble_eq_true rfl) (Nat.le_of_ble_eq_true rfl) (Nat.le_of_ble_eq_true rfl) (Nat.le_of_ble_eq_true rfl) (xp1 rfl)

set_option maxRecDepth 100000 in
set_option maxHeartbeats 4000000 in
theorem c_X3_wouldResend {l : Launch} (hl : l.stackTraces = false) (D : va_G) (e0 : Nat) {ad : Nat → Nat} {up op tr : Int32} {hs : xAg} {N : Nat} {da : Nat → Nat} {S : xS} {om : Nat → Int32} (hok : alOk hs N da) (hN : N ≤ 60) : xC l yX3_wouldResend (.code yX3_wouldResend cX3_wouldResend 3 (some .int)) ({ frames := 3, cells := 0, slots := 0, locals := 64 } : Room) D e0 [.ref (ad 0)] [xoW ad up op tr, alW D e0 (ad 2) hs N, dvW da N S om] (fun v cs => v = some (.int (wrN S N)) ∧ cs = [xoW ad up op tr, alW D e0 (ad 2) hs N, dvW da N S om]) (fun _ => False) := by
  refine xC_of hl (by decide +kernel) (Nat.le_of_ble_eq_true rfl) (fun G X F => ?_)
  have B : xB l D e0 "CreditLinks" cX3_wouldResend 3 (some .int) [] _ G X := F.base
  show G 0 [(0, .ref (ad 0))] [] [xoW ad up op tr, alW D e0 (ad 2) hs N, dvW da N S om] 0 0
  refine x_iconst B (pc := 0) 0 dX3_wouldResend_0 (by decide) ?_
  refine x_istore_n B (pc := 1) [(1, .int 0), (0, .ref (ad 0))] dX3_wouldResend_1 rfl (by decide) rfl ?_
  refine x_iconst B (pc := 2) 0 dX3_wouldResend_2 (by decide) ?_
  refine x_val B (y := nI 0) rfl ?_
  refine x_istore_n B (pc := 3) [(2, .int (nI 0)), (1, .int 0), (0, .ref (ad 0))] dX3_wouldResend_3 rfl (by decide) rfl ?_
  have hloop4 : ∀ (fu : Nat) (i : Nat), i ≤ N → N + 1 ≤ i + fu → G 4 [(2, .int (nI i)), (1, .int (wrN S i)), (0, .ref (ad 0))] [] [xoW ad up op tr, alW D e0 (ad 2) hs N, dvW da N S om] 0 0 := by
    intro fu
    induction fu with
    | zero =>
      intro i hi hfu
      omega
    | succ fu ih =>
      intro i hi hfu
      refine x_iload_n B (pc := 4) 0 dX3_wouldResend_4 rfl rfl ?_
      refine x_aload_n B (pc := 5) 2 dX3_wouldResend_5 rfl rfl ?_
      refine x_get B (pc := 6) xcl_X 0 0 1 rfl rfl (by decide) tm101 rfl rfl dX3_wouldResend_6 ?_
      refine x_callV B (pc := 9) (As := []) (c_Jx4a65c_size_8abf5 hl D e0 ) xcl_A rfl 0 0 rfl al_get0 tm129 tm130 tm131 tm4 tm132 md_Jx4a65c_size_8abf5 ⟨Nat.le_of_ble_eq_true rfl, Nat.le_of_ble_eq_true rfl⟩ [1] rfl rfl rfl (Nat.le_of_ble_eq_true rfl) (Nat.le_of_ble_eq_true rfl) (Nat.le_of_ble_eq_true rfl) dX3_wouldResend_9 (fun E hE => False.elim hE) (fun v cs1 hp => ?_)
      obtain ⟨rfl, rfl⟩ := hp
      show G 12 [(2, .int (nI i)), (1, .int (wrN S i)), (0, .ref (ad 0))] [.int (nI N), .int (nI i)] [xoW ad up op tr, alW D e0 (ad 2) hs N, dvW da N S om] 0 0
      refine x_icmp_ge B (pc := 12) 41 dX3_wouldResend_12 (by decide) (fun h12 => ?_) (fun h12 => ?_)
      · skip
        have hge : i = N := by
          have := (nI_leI (by omega) (by omega)).mp h12
          omega
        subst hge
        refine x_iload_n B (pc := 41) 1 dX3_wouldResend_41 rfl rfl ?_
        exact x_iret F (pc := 42) rfl dX3_wouldResend_42 (⟨rfl, rfl⟩) (Nat.le_of_ble_eq_true rfl) (Nat.le_of_ble_eq_true rfl)
      · skip
        have hlt : i < N := Nat.lt_of_not_le (fun e => h12 (nI_le e (by omega)))
        refine x_aload_n B (pc := 15) 2 dX3_wouldResend_15 rfl rfl ?_
        refine x_get B (pc := 16) xcl_X 0 0 1 rfl rfl (by decide) tm101 rfl rfl dX3_wouldResend_16 ?_
        refine x_iload_n B (pc := 19) 0 dX3_wouldResend_19 rfl rfl ?_
        refine x_callV B (pc := 20) (As := [.int (nI i)]) (c_Jx4a65c_get_915e3 hl D e0 hok hlt) xcl_A rfl 0 0 rfl al_get0 tm149 tm150 tm151 tm4 tm152 md_Jx4a65c_get_915e3 ⟨Nat.le_of_ble_eq_true rfl, Nat.le_of_ble_eq_true rfl⟩ [1] rfl rfl rfl (Nat.le_of_ble_eq_true rfl) (Nat.le_of_ble_eq_true rfl) (Nat.le_of_ble_eq_true rfl) dX3_wouldResend_20 (fun E hE => False.elim hE) (fun v cs1 hp => ?_)
        obtain ⟨rfl, rfl⟩ := hp
        show G 23 [(2, .int (nI i)), (1, .int (wrN S i)), (0, .ref (ad 0))] [.ref (da i)] [xoW ad up op tr, alW D e0 (ad 2) hs N, dvW da N S om] 0 0
        refine x_cast B (pc := 23) xcl_D 2 i rfl (dv_get hlt) tm163 dX3_wouldResend_23 ?_
        refine x_callV B (pc := 26) (As := []) (c_X0_goesAnew hl D e0 hlt) xcl_D rfl 0 i rfl (dv_get hlt) tm164 tm165 tm166 tm14 tm167 md_X0_goesAnew ⟨Nat.le_of_ble_eq_true rfl, Nat.le_of_ble_eq_true rfl⟩ [2] rfl rfl rfl (Nat.le_of_ble_eq_true rfl) (Nat.le_of_ble_eq_true rfl) (Nat.le_of_ble_eq_true rfl) dX3_wouldResend_26 (fun E hE => False.elim hE) (fun v cs1 hp => ?_)
        obtain ⟨rfl, rfl⟩ := hp
        show G 29 [(2, .int (nI i)), (1, .int (wrN S i)), (0, .ref (ad 0))] [.int (aAnew S i)] [xoW ad up op tr, alW D e0 (ad 2) hs N, dvW da N S om] 0 0
        refine x_if_eq B (pc := 29) 35 dX3_wouldResend_29 (by decide) (fun h29 => ?_) (fun h29 => ?_)
        · skip
          refine x_iinc B (pc := 35) 0 (nI (i + 1)) [(2, .int (nI (i + 1))), (1, .int (wrN S i)), (0, .ref (ad 0))] dX3_wouldResend_35 rfl (nI_1 i) (by decide) rfl ?_
          refine x_goto B (pc := 38) 4 dX3_wouldResend_38 (by decide) ?_
          refine x_lv B [0, 1, 2] [(2, .int (nI (i + 1))), (1, .int (wrN S i)), (0, .ref (ad 0))] rfl ?_
          have e9 : wrN S i = wrN S (i + 1) := by show _ = wrN S i + aAnew S i; rw [h29, Int32.add_zero]
          rw [e9]
          exact ih (i + 1) (by omega) (by omega)
        · skip
          refine x_iinc B (pc := 32) 1 (wrN S i + 1) [(1, .int (wrN S i + 1)), (2, .int (nI i)), (0, .ref (ad 0))] dX3_wouldResend_32 rfl rfl (by decide) rfl ?_
          refine x_iinc B (pc := 35) 1 (nI (i + 1)) [(2, .int (nI (i + 1))), (1, .int (wrN S i + 1)), (0, .ref (ad 0))] dX3_wouldResend_35 rfl (nI_1 i) (by decide) rfl ?_
          refine x_goto B (pc := 38) 4 dX3_wouldResend_38 (by decide) ?_
          refine x_lv B [0, 1, 2] [(2, .int (nI (i + 1))), (1, .int (wrN S i + 1)), (0, .ref (ad 0))] rfl ?_
          have e9 : wrN S i + 1 = wrN S (i + 1) := by show _ = wrN S i + aAnew S i; rw [(aAnew_01 S i).resolve_left h29]
          rw [e9]
          exact ih (i + 1) (by omega) (by omega)
  refine x_lv B [0, 1, 2] [(2, .int (nI 0)), (1, .int 0), (0, .ref (ad 0))] rfl ?_
  exact hloop4 (N + 1) 0 (Nat.zero_le _) (by omega)

set_option maxRecDepth 100000 in
set_option maxHeartbeats 4000000 in
theorem c_X3_end {l : Launch} (hl : l.stackTraces = false) (D : va_G) (e0 : Nat) {ad : Nat → Nat} {up op tr : Int32} {N : Nat} {gb : xRg} {qb : List xFr} {ht : xAg} {tq : List Nat} {da : Nat → Nat} {S : xS} {om : Nat → Int32} {b : Int32} (hop : op = 0 ∨ op = 1) (hok : alOk ht tq.length (fun i => da (tq.getD i 0))) (hT : tq.length ≤ 60) (hin : ∀ i, i < tq.length → tq.getD i 0 < N) (hqb : rwOk qb gb) (hql : qb.length + tq.length < 512) (hw : ∀ i, i < tq.length → ∃ o, o ≤ 2 ∧ S 14 (tq.getD i 0) = nI o) : xC l yX3_end (.code yX3_end cX3_end 5 (some .int)) ({ frames := 7, cells := 1, slots := 6, locals := 102 } : Room) D e0 [.ref (ad 0), .int b] [xoW ad up op tr, rwW D (ad 4) (ad 13) (ad 14) (ad 15) gb qb.length, alW D e0 (ad 5) ht tq.length, dvW da N S om] (fun v cs => cod (decide (op = 1)) true true = 0 ∧ v = some (.int (eR tq b)) ∧ ∃ h1 g1, (∀ w1, alOk h1 0 w1) ∧ rwOk (eQ S qb tq b) g1 ∧ cs = [xoW ad up 0 tr, rwW D (ad 4) (ad 13) (ad 14) (ad 15) g1 ((eQ S qb tq b).length), alW D e0 (ad 5) h1 0, dvW da N (eS S tq b) (eM S om tq b)]) (fun E => xpo (cod (decide (op = 1)) true true) xISE xISE xISE E) := by
  refine xC_of hl (by decide +kernel) (Nat.le_of_ble_eq_true rfl) (fun G X F => ?_)
  have B : xB l D e0 "CreditLinks" cX3_end 5 (some .int) [] _ G X := F.base
  show G 0 [(0, .ref (ad 0)), (1, .int b)] [] [xoW ad up op tr, rwW D (ad 4) (ad 13) (ad 14) (ad 15) gb qb.length, alW D e0 (ad 5) ht tq.length, dvW da N S om] 0 0
  refine x_aload_n B (pc := 0) 0 dX3_end_0 rfl rfl ?_
  rcases hop with rfl | rfl
  · skip
    refine x_callV B (pc := 1) (As := []) (c_X3_requireTransaction_no hl D e0 ) xcl_X rfl 0 0 rfl rfl tm465 tm467 ts9 tm1 tm468 md_X3_requireTransaction ⟨Nat.le_of_ble_eq_true rfl, Nat.le_of_ble_eq_true rfl⟩ [0] rfl rfl rfl (Nat.le_of_ble_eq_true rfl) (Nat.le_of_ble_eq_true rfl) (Nat.le_of_ble_eq_true rfl) dX3_end_1 (fun E hE => x_out F (by subst hE; exact xp1 rfl) (Nat.le_of_ble_eq_true rfl) (Nat.le_of_ble_eq_true rfl)) (fun v cs1 hp => ?_)
    exact False.elim hp
  · skip
    refine x_callV B (pc := 1) (As := []) (c_X3_requireTransaction hl D e0 ) xcl_X rfl 0 0 rfl rfl tm465 tm467 ts9 tm1 tm468 md_X3_requireTransaction ⟨Nat.le_of_ble_eq_true rfl, Nat.le_of_ble_eq_true rfl⟩ [0] rfl rfl rfl (Nat.le_of_ble_eq_true rfl) (Nat.le_of_ble_eq_true rfl) (Nat.le_of_ble_eq_true rfl) dX3_end_1 (fun E hE => False.elim hE) (fun v cs1 hp => ?_)
    obtain ⟨rfl, rfl⟩ := hp
    show G 4 [(0, .ref (ad 0)), (1, .int b)] [] [xoW ad up 1 tr, rwW D (ad 4) (ad 13) (ad 14) (ad 15) gb qb.length, alW D e0 (ad 5) ht tq.length, dvW da N S om] 0 0
    refine x_iconst B (pc := 4) 0 dX3_end_4 (by decide) ?_
    refine x_val B (y := nI 0) rfl ?_
    refine x_istore_n B (pc := 5) [(2, .int (nI 0)), (0, .ref (ad 0)), (1, .int b)] dX3_end_5 rfl (by decide) rfl ?_
    refine x_iload_n B (pc := 6) 2 dX3_end_6 rfl rfl ?_
    refine x_if_eq B (pc := 7) 56 dX3_end_7 (by decide) (fun h7 => ?_) (fun h7 => ?_)
    · skip
      refine x_aload_n B (pc := 56) 1 dX3_end_56 rfl rfl ?_
      refine x_callV B (pc := 57) (As := []) (c_X3_closeTransaction hl D e0 hok hT hin) xcl_X rfl 0 0 rfl rfl tm533 tm535 ts12 tm1 tm536 md_X3_closeTransaction ⟨Nat.le_of_ble_eq_true rfl, Nat.le_of_ble_eq_true rfl⟩ [0, 2, 3] rfl rfl rfl (Nat.le_of_ble_eq_true rfl) (Nat.le_of_ble_eq_true rfl) (Nat.le_of_ble_eq_true rfl) dX3_end_57 (fun E hE => False.elim hE) (fun v cs1 hp => ?_)
      obtain ⟨rfl, h1, hh1, rfl⟩ := hp
      show G 60 [(2, .int (nI 0)), (0, .ref (ad 0)), (1, .int b)] [] [xoW ad up 0 tr, rwW D (ad 4) (ad 13) (ad 14) (ad 15) gb qb.length, alW D e0 (ad 5) h1 0, dvW da N (clrS S tq) om] 0 0
      refine x_iload_n B (pc := 60) 0 dX3_end_60 rfl rfl ?_
      exact x_iret F (pc := 61) rfl dX3_end_61 (⟨rfl, by unfold eR; rw [if_pos h7], h1, gb, hh1, by unfold eQ; rw [if_pos h7]; exact hqb, by unfold eQ eS eM; rw [if_pos h7, if_pos h7, if_pos h7]⟩) (Nat.le_of_ble_eq_true rfl) (Nat.le_of_ble_eq_true rfl)
    · skip
      refine x_iconst B (pc := 10) 0 dX3_end_10 (by decide) ?_
      refine x_val B (y := nI 0) rfl ?_
      refine x_istore_n B (pc := 11) [(3, .int (nI 0)), (2, .int (nI 0)), (0, .ref (ad 0)), (1, .int b)] dX3_end_11 rfl (by decide) rfl ?_
      have hloop12 : ∀ (fu : Nat) (i : Nat) (g1 : xRg), i ≤ tq.length → tq.length + 1 ≤ i + fu → rwOk (coQ S qb (tq.take i)) g1 → G 12 [(3, .int (nI i)), (2, .int (nI i)), (1, .int b), (0, .ref (ad 0))] [] [xoW ad up 1 tr, rwW D (ad 4) (ad 13) (ad 14) (ad 15) g1 ((coQ S qb (tq.take i)).length), alW D e0 (ad 5) ht tq.length, dvW da N (coS S (tq.take i)) (coM S om (tq.take i))] 0 0 := by
        intro fu
        induction fu with
        | zero =>
          intro i g1 hi hfu hg
          omega
        | succ fu ih =>
          intro i g1 hi hfu hg
          refine x_iload_n B (pc := 12) 0 dX3_end_12 rfl rfl ?_
          refine x_aload_n B (pc := 13) 3 dX3_end_13 rfl rfl ?_
          refine x_get B (pc := 14) xcl_X 0 0 4 rfl rfl (by decide) tm104 rfl rfl dX3_end_14 ?_
          refine x_callV B (pc := 17) (As := []) (c_Jx4a65c_size_8abf5 hl D e0 ) xcl_A rfl 0 0 rfl al_get0 tm129 tm130 tm131 tm4 tm132 md_Jx4a65c_size_8abf5 ⟨Nat.le_of_ble_eq_true rfl, Nat.le_of_ble_eq_true rfl⟩ [2] rfl rfl rfl (Nat.le_of_ble_eq_true rfl) (Nat.le_of_ble_eq_true rfl) (Nat.le_of_ble_eq_true rfl) dX3_end_17 (fun E hE => False.elim hE) (fun v cs1 hp => ?_)
          obtain ⟨rfl, rfl⟩ := hp
          show G 20 [(3, .int (nI i)), (2, .int (nI i)), (1, .int b), (0, .ref (ad 0))] [.int (nI tq.length), .int (nI i)] [xoW ad up 1 tr, rwW D (ad 4) (ad 13) (ad 14) (ad 15) g1 ((coQ S qb (tq.take i)).length), alW D e0 (ad 5) ht tq.length, dvW da N (coS S (tq.take i)) (coM S om (tq.take i))] 0 0
          refine x_icmp_ge B (pc := 20) 56 dX3_end_20 (by decide) (fun h20 => ?_) (fun h20 => ?_)
          · skip
            have hge : i = tq.length := by
              have := (nI_leI (by omega) (by omega)).mp h20
              omega
            subst hge
            rw [List.take_length] at hg ⊢
            refine x_aload_n B (pc := 56) 3 dX3_end_56 rfl rfl ?_
            refine x_callV B (pc := 57) (As := []) (c_X3_closeTransaction hl D e0 hok hT hin) xcl_X rfl 0 0 rfl rfl tm533 tm535 ts12 tm1 tm536 md_X3_closeTransaction ⟨Nat.le_of_ble_eq_true rfl, Nat.le_of_ble_eq_true rfl⟩ [0, 2, 3] rfl rfl rfl (Nat.le_of_ble_eq_true rfl) (Nat.le_of_ble_eq_true rfl) (Nat.le_of_ble_eq_true rfl) dX3_end_57 (fun E hE => False.elim hE) (fun v cs1 hp => ?_)
            obtain ⟨rfl, h1, hh1, rfl⟩ := hp
            show G 60 [(3, .int (nI tq.length)), (2, .int (nI tq.length)), (1, .int b), (0, .ref (ad 0))] [] [xoW ad up 0 tr, rwW D (ad 4) (ad 13) (ad 14) (ad 15) g1 ((coQ S qb tq).length), alW D e0 (ad 5) h1 0, dvW da N (clrS (coS S tq) tq) (coM S om tq)] 0 0
            refine x_iload_n B (pc := 60) 1 dX3_end_60 rfl rfl ?_
            exact x_iret F (pc := 61) rfl dX3_end_61 (⟨rfl, by unfold eR; rw [if_neg h7], h1, g1, hh1, by unfold eQ; rw [if_neg h7]; exact hg, by unfold eQ eS eM; rw [if_neg h7, if_neg h7, if_neg h7]⟩) (Nat.le_of_ble_eq_true rfl) (Nat.le_of_ble_eq_true rfl)
          · skip
            have hlt : i < tq.length := Nat.lt_of_not_le (fun e => h20 (nI_le e (by omega)))
            obtain ⟨oo, ho2, eo⟩ := hw i hlt
            have e14 : coS S (tq.take i) 14 (tq.getD i 0) = nI oo := by rw [coS_k S _ (by decide)]; exact eo
            have hl1 : (coQ S qb (tq.take i)).length < 512 := by
              have := coQ_len S qb (tq.take i)
              have h2 : (tq.take i).length ≤ i := by rw [List.length_take]; omega
              omega
            have eS1 : aDec (coS S (tq.take i)) (tq.getD i 0) (nI oo) = coS S (tq.take (i + 1)) := by rw [take_snoc hlt, coS_snoc, eo]
            have eM1 : upd (coM S om (tq.take i)) (tq.getD i 0) (nI oo) = coM S om (tq.take (i + 1)) := by rw [take_snoc hlt, coM_snoc, eo]
            have eQ1 : aOut (coS S (tq.take i)) (tq.getD i 0) oo (coQ S qb (tq.take i)) = coQ S qb (tq.take (i + 1)) := by rw [take_snoc hlt, coQ_snoc, eo, ix_nI (by omega)]; unfold aOut; rw [coS_k S _ (by decide)]
            refine x_aload_n B (pc := 23) 3 dX3_end_23 rfl rfl ?_
            refine x_get B (pc := 24) xcl_X 0 0 4 rfl rfl (by decide) tm104 rfl rfl dX3_end_24 ?_
            refine x_iload_n B (pc := 27) 0 dX3_end_27 rfl rfl ?_
            refine x_callV B (pc := 28) (As := [.int (nI i)]) (c_Jx4a65c_get_915e3 hl D e0 hok hlt) xcl_A rfl 0 0 rfl al_get0 tm149 tm150 tm151 tm4 tm152 md_Jx4a65c_get_915e3 ⟨Nat.le_of_ble_eq_true rfl, Nat.le_of_ble_eq_true rfl⟩ [2] rfl rfl rfl (Nat.le_of_ble_eq_true rfl) (Nat.le_of_ble_eq_true rfl) (Nat.le_of_ble_eq_true rfl) dX3_end_28 (fun E hE => False.elim hE) (fun v cs1 hp => ?_)
            obtain ⟨rfl, rfl⟩ := hp
            show G 31 [(3, .int (nI i)), (2, .int (nI i)), (1, .int b), (0, .ref (ad 0))] [.ref (da (tq.getD i 0))] [xoW ad up 1 tr, rwW D (ad 4) (ad 13) (ad 14) (ad 15) g1 ((coQ S qb (tq.take i)).length), alW D e0 (ad 5) ht tq.length, dvW da N (coS S (tq.take i)) (coM S om (tq.take i))] 0 0
            refine x_cast B (pc := 31) xcl_D 3 (tq.getD i 0) rfl (dv_get (hin i hlt)) tm163 dX3_end_31 ?_
            refine x_astore B (pc := 34) [(4, .ref (da (tq.getD i 0))), (3, .int (nI i)), (2, .int (nI i)), (1, .int b), (0, .ref (ad 0))] dX3_end_34 (by decide) rfl ?_
            refine x_aload_n B (pc := 36) 4 dX3_end_36 rfl rfl ?_
            refine x_aload B (pc := 37) 0 dX3_end_37 rfl ?_
            refine x_aload B (pc := 39) 0 dX3_end_39 rfl ?_
            refine x_get B (pc := 41) (v := .int ((coS S (tq.take i)) 14 (tq.getD i 0))) xcl_D 3 (tq.getD i 0) 10 rfl (dv_get (hin i hlt)) (by decide) tm344 rfl rfl dX3_end_41 ?_
            refine x_val B (y := nI oo) e14 ?_
            refine x_callV B (pc := 44) (As := [.ref (da (tq.getD i 0)), .int (nI oo)]) (c_X3_carryOut hl D e0 (hin i hlt) hg hl1) xcl_X rfl 0 0 rfl rfl tm453 tm455 ts8 tm1 tm456 md_X3_carryOut ⟨Nat.le_of_ble_eq_true rfl, Nat.le_of_ble_eq_true rfl⟩ [0, 1, 3] rfl rfl rfl (Nat.le_of_ble_eq_true rfl) (Nat.le_of_ble_eq_true rfl) (Nat.le_of_ble_eq_true rfl) dX3_end_44 (fun E hE => False.elim hE) (fun v cs1 hp => ?_)
            obtain ⟨rfl, g2, hg2, rfl⟩ := hp
            rw [eQ1] at hg2
            rw [eS1, eM1, eQ1]
            show G 47 [(4, .ref (da (tq.getD i 0))), (3, .int (nI i)), (2, .int (nI i)), (1, .int b), (0, .ref (ad 0))] [] [xoW ad up 1 tr, rwW D (ad 4) (ad 13) (ad 14) (ad 15) g2 ((coQ S qb (tq.take (i + 1))).length), alW D e0 (ad 5) ht tq.length, dvW da N (coS S (tq.take (i + 1))) (coM S om (tq.take (i + 1)))] 0 0
            refine x_iinc B (pc := 47) 2 (nI (i + 1)) [(2, .int (nI (i + 1))), (4, .ref (da (tq.getD i 0))), (3, .int (nI i)), (1, .int b), (0, .ref (ad 0))] dX3_end_47 rfl (nI_1 i) (by decide) rfl ?_
            refine x_iinc B (pc := 50) 2 (nI (i + 1)) [(3, .int (nI (i + 1))), (2, .int (nI (i + 1))), (4, .ref (da (tq.getD i 0))), (1, .int b), (0, .ref (ad 0))] dX3_end_50 rfl (nI_1 i) (by decide) rfl ?_
            refine x_goto B (pc := 53) 12 dX3_end_53 (by decide) ?_
            refine x_lv B [0, 1, 3, 4] [(3, .int (nI (i + 1))), (2, .int (nI (i + 1))), (1, .int b), (0, .ref (ad 0))] rfl ?_
            exact ih (i + 1) g2 (by omega) (by omega) hg2
      refine x_lv B [0, 1, 3, 2] [(3, .int (nI 0)), (2, .int (nI 0)), (1, .int b), (0, .ref (ad 0))] rfl ?_
      exact hloop12 (tq.length + 1) 0 gb (Nat.zero_le _) (by omega) hqb
