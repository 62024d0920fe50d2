/-! the law, call by call -/
set_option maxRecDepth 100000 in
set_option maxHeartbeats 4000000 in
/-- the call effects -/
theorem st_effects {l : Launch} (hl : l.stackTraces = false) (D : va_G) (e0 : Nat) {b Ls : Nat} {xs : Nat → Int32} {G : xGt} {X : xXt} (B0 : xL l D e0 b Ls xs G X) {ad am : Nat → Nat} {oa i t k n : Nat} (hi : i + 3 ≤ Ls) (hLs : Ls ≤ 1536) (ht9 : t < 512) (hk : k ≤ 4000) (hn : n ≤ 300000) (K : lTo G D e0 ad am oa b i (t + 1) (k + 4) (n + 300) 1137) : lTo G D e0 ad am oa b i t k n 783 := by
  intro da hs ht gf gb om L S N qf qb up op tr tq tf tt bf bt tg bg td th f hg
  obtain ⟨hI, ⟨hok, hot, hq, hqb⟩, ⟨hmf, hmb, htd⟩, htt, hbt⟩ := hg
  obtain ⟨hup, hop, hL, hN, hS, hF, hB, hPhi, hlen, hdn⟩ := id hI
  have hT := tq_len hI
  have hin := tq_in hS
  have hin60 : ∀ i, i < tq.length → tq.getD i 0 < 60 := fun i h => Nat.lt_of_lt_of_le (hin i h) hN
  have hl4 : ∀ d, d < N → ∃ j, j < 4 ∧ S 4 d = nI j := fun d hd => (hS.2.1 d hd).1
  have h69 : ∀ d, d < N → ∃ m, m ≤ 4 ∧ S 6 d = nI m := fun d hd => (hS.2.1 d hd).2.1
  have h79 : ∀ d, d < N → S 7 d = 0 ∨ S 7 d = 1 := fun d hd => (hS.2.1 d hd).2.2.1
  have h99 : ∀ d, d < N → S 9 d = 0 ∨ S 9 d = 1 ∨ S 9 d = 2 ∨ S 9 d = 3 ∨ S 9 d = 4 := fun d hd => (hS.2.1 d hd).2.2.2.1
  have hfe := hmf.1
  have hbe := hmb.1
  obtain ⟨hh, B⟩ := B0.base
  show G 783 [(4, .int (nI i)), (3, .ref oa), (2, .ref (am 0)), (1, .ref (ad 0)), (0, .ref b)] [] [xoW ad up op tr, lkW D ad L, alW D e0 (ad 2) hs N, rwW D (ad 3) (ad 10) (ad 11) (ad 12) gf qf.length, rwW D (ad 4) (ad 13) (ad 14) (ad 15) gb qb.length, alW D e0 (ad 5) ht tq.length, dvW da N S om, moW am N tf tt bf bt up op tr tq.length th, mlW D am L, mdW D am S, rtW D am tg, rbW D am bg, tdW D am td, [(oa, .inl (D.1 12, 1, .inr (.inl f)))]] k n
  refine x_aload_n B (pc := 783) 3 dL_law_783 rfl rfl ?_
  refine x_aload_n B (pc := 784) 4 dL_law_784 rfl rfl ?_
  refine x_iload B (pc := 785) 0 dL_law_785 rfl ?_
  refine x_iconst B (pc := 787) 1 dL_law_787 (by decide) ?_
  refine x_iadd B (pc := 788) dL_law_788 ?_
  refine x_val B (y := nI (i + 1)) (nI_add i 1) ?_
  refine x_sldN B0 (pc := 789) (d := (i + 1)) (by omega) (by omega) dL_law_789 ?_
  refine x_aload_n B (pc := 790) 1 dL_law_790 rfl rfl ?_
  refine x_callSX B (pc := 791) (As := [.ref (ad 0), .int (xs (i + 1)), .ref oa]) (c_L_effects hl D e0 hok hN) tm554 tm555 tm0 tm556 md_L_effects ⟨Nat.le_of_ble_eq_true rfl, Nat.le_of_ble_eq_true rfl⟩ [0, 2, 6, 13] rfl rfl rfl (Nat.le_of_ble_eq_true rfl) (by show k + 1 ≤ (601024 : Nat); omega) (by show n + 6 ≤ (7293034 : Nat); omega) dL_law_791 (fun E hE => False.elim hE) (fun v cs1 hp => ?_)
  rcases hp with ⟨hc, rfl, rfl⟩ | ⟨hc, rfl, rfl⟩
  · show G 794 [(4, .int (nI i)), (3, .ref oa), (2, .ref (am 0)), (1, .ref (ad 0)), (0, .ref b)] [.int 0] [xoW ad up op tr, lkW D ad L, alW D e0 (ad 2) hs N, rwW D (ad 3) (ad 10) (ad 11) (ad 12) gf qf.length, rwW D (ad 4) (ad 13) (ad 14) (ad 15) gb qb.length, alW D e0 (ad 5) ht tq.length, dvW da N S om, moW am N tf tt bf bt up op tr tq.length th, mlW D am L, mdW D am S, rtW D am tg, rbW D am bg, tdW D am td, [(oa, .inl (D.1 12, 1, .inr (.inl (vp_updL f 0 ((S 13 (ix (xs (i + 1)))).toInt64)))))]] (k + 1) (n + 6)
    refine x_istore B (pc := 794) [(5, .int 0), (4, .int (nI i)), (3, .ref oa), (2, .ref (am 0)), (1, .ref (ad 0)), (0, .ref b)] dL_law_794 (by decide) rfl ?_
    refine x_aload_n B (pc := 796) 3 dL_law_796 rfl rfl ?_
    refine x_aload_n B (pc := 797) 5 dL_law_797 rfl rfl ?_
    refine x_iload B (pc := 798) 1 dL_law_798 rfl ?_
    refine x_iconst B (pc := 800) 1 dL_law_800 (by decide) ?_
    refine x_iadd B (pc := 801) dL_law_801 ?_
    refine x_val B (y := nI (i + 1)) (nI_add i 1) ?_
    refine x_sldN B0 (pc := 802) (d := (i + 1)) (by omega) (by omega) dL_law_802 ?_
    refine x_callV B (pc := 803) (As := [.int (xs (i + 1))]) (c_X4_effects hl D e0 hN) xcl_M rfl 0 0 rfl rfl tm822 tm823 tm824 tm7 tm825 md_X4_effects ⟨Nat.le_of_ble_eq_true rfl, Nat.le_of_ble_eq_true rfl⟩ [7, 9] rfl rfl rfl (Nat.le_of_ble_eq_true rfl) (by show k + 1 ≤ (601024 : Nat); omega) (by show n + 6 ≤ (7293034 : Nat); omega) dL_law_803 (fun E hE => False.elim hE) (fun v cs1 hp => ?_)
    rcases hp with ⟨hc2, rfl, rfl⟩ | ⟨hc2, hz2⟩
    · show G 806 [(5, .int 0), (4, .int (nI i)), (3, .ref oa), (2, .ref (am 0)), (1, .ref (ad 0)), (0, .ref b)] [.int (S 13 (ix (xs (i + 1))))] [xoW ad up op tr, lkW D ad L, alW D e0 (ad 2) hs N, rwW D (ad 3) (ad 10) (ad 11) (ad 12) gf qf.length, rwW D (ad 4) (ad 13) (ad 14) (ad 15) gb qb.length, alW D e0 (ad 5) ht tq.length, dvW da N S om, moW am N tf tt bf bt up op tr tq.length 0, mlW D am L, mdW D am S, rtW D am tg, rbW D am bg, tdW D am td, [(oa, .inl (D.1 12, 1, .inr (.inl (vp_updL f 0 ((S 13 (ix (xs (i + 1)))).toInt64)))))]] (k + 1) (n + 6)
      refine x_istore B (pc := 806) [(6, .int (S 13 (ix (xs (i + 1))))), (5, .int 0), (4, .int (nI i)), (3, .ref oa), (2, .ref (am 0)), (1, .ref (ad 0)), (0, .ref b)] dL_law_806 (by decide) rfl ?_
      refine x_aload_n B (pc := 808) 4 dL_law_808 rfl rfl ?_
      refine x_callV B (pc := 809) (As := []) (c_X4_thrown hl D e0 ) xcl_M rfl 0 0 rfl rfl tm716 tm717 tm718 tm7 tm719 md_X4_thrown ⟨Nat.le_of_ble_eq_true rfl, Nat.le_of_ble_eq_true rfl⟩ [7] rfl rfl rfl (Nat.le_of_ble_eq_true rfl) (by show k + 1 ≤ (601024 : Nat); omega) (by show n + 6 ≤ (7293034 : Nat); omega) dL_law_809 (fun E hE => False.elim hE) (fun v cs1 hp => ?_)
      obtain ⟨rfl, rfl⟩ := hp
      show G 812 [(6, .int (S 13 (ix (xs (i + 1))))), (5, .int 0), (4, .int (nI i)), (3, .ref oa), (2, .ref (am 0)), (1, .ref (ad 0)), (0, .ref b)] [.int 0] [xoW ad up op tr, lkW D ad L, alW D e0 (ad 2) hs N, rwW D (ad 3) (ad 10) (ad 11) (ad 12) gf qf.length, rwW D (ad 4) (ad 13) (ad 14) (ad 15) gb qb.length, alW D e0 (ad 5) ht tq.length, dvW da N S om, moW am N tf tt bf bt up op tr tq.length 0, mlW D am L, mdW D am S, rtW D am tg, rbW D am bg, tdW D am td, [(oa, .inl (D.1 12, 1, .inr (.inl (vp_updL f 0 ((S 13 (ix (xs (i + 1)))).toInt64)))))]] (k + 1) (n + 6)
      refine x_iload B (pc := 812) 1 dL_law_812 rfl ?_
      refine x_icmp_eq B (pc := 814) 819 dL_law_814 (by decide) (fun h814 => ?_) (fun h814 => absurd (by decide) h814)
      refine x_iload B (pc := 819) 1 dL_law_819 rfl ?_
      refine x_if_ne B (pc := 821) 836 dL_law_821 (by decide) (fun h821 => absurd (by decide) h821) (fun h821 => ?_)
      refine x_aload_n B (pc := 824) 3 dL_law_824 rfl rfl ?_
      refine x_iconst B (pc := 825) 0 dL_law_825 (by decide) ?_
      refine x_val B (y := nI 0) rfl ?_
      refine x_laldN B (pc := 826) 0 13 0 (by decide) (by decide) rfl rfl dL_law_826 ?_
      refine x_iload B (pc := 827) 0 dL_law_827 rfl ?_
      refine x_i2l B (pc := 829) dL_law_829 ?_
      refine x_lcmp B (pc := 830) dL_law_830 ?_
      refine x_val B (y := 0) out_cmp ?_
      refine x_if_eq B (pc := 831) 836 dL_law_831 (by decide) (fun h831 => ?_) (fun h831 => absurd (by decide) h831)
      refine x_goto B (pc := 836) 1137 dL_law_836 (by decide) ?_
      refine x_lv B [2, 3, 4, 5, 6] [(4, .int (nI i)), (3, .ref oa), (2, .ref (am 0)), (1, .ref (ad 0)), (0, .ref b)] rfl ?_
      refine x_wid B (k + 4) (n + 300) (by omega) (by omega) ?_
      exact K da hs ht gf gb om L S N qf qb up op tr tq tf tt bf bt tg bg td 0 (vp_updL f 0 ((S 13 (ix (xs (i + 1)))).toInt64)) ⟨aInv_more (hI) (by omega), ⟨hok, hot, hq, hqb⟩, ⟨hmf, hmb, htd⟩, (by omega), (by omega)⟩
    · exact absurd hc hc2
  · show G 794 [(4, .int (nI i)), (3, .ref oa), (2, .ref (am 0)), (1, .ref (ad 0)), (0, .ref b)] [.int (nI (cod (xinD N (xs (i + 1))) true true))] [xoW ad up op tr, lkW D ad L, alW D e0 (ad 2) hs N, rwW D (ad 3) (ad 10) (ad 11) (ad 12) gf qf.length, rwW D (ad 4) (ad 13) (ad 14) (ad 15) gb qb.length, alW D e0 (ad 5) ht tq.length, dvW da N S om, moW am N tf tt bf bt up op tr tq.length th, mlW D am L, mdW D am S, rtW D am tg, rbW D am bg, tdW D am td, [(oa, .inl (D.1 12, 1, .inr (.inl f)))]] (k + 1) (n + 6)
    refine x_istore B (pc := 794) [(5, .int (nI (cod (xinD N (xs (i + 1))) true true))), (4, .int (nI i)), (3, .ref oa), (2, .ref (am 0)), (1, .ref (ad 0)), (0, .ref b)] dL_law_794 (by decide) rfl ?_
    refine x_aload_n B (pc := 796) 3 dL_law_796 rfl rfl ?_
    refine x_aload_n B (pc := 797) 5 dL_law_797 rfl rfl ?_
    refine x_iload B (pc := 798) 1 dL_law_798 rfl ?_
    refine x_iconst B (pc := 800) 1 dL_law_800 (by decide) ?_
    refine x_iadd B (pc := 801) dL_law_801 ?_
    refine x_val B (y := nI (i + 1)) (nI_add i 1) ?_
    refine x_sldN B0 (pc := 802) (d := (i + 1)) (by omega) (by omega) dL_law_802 ?_
    refine x_callV B (pc := 803) (As := [.int (xs (i + 1))]) (c_X4_effects hl D e0 hN) xcl_M rfl 0 0 rfl rfl tm822 tm823 tm824 tm7 tm825 md_X4_effects ⟨Nat.le_of_ble_eq_true rfl, Nat.le_of_ble_eq_true rfl⟩ [7, 9] rfl rfl rfl (Nat.le_of_ble_eq_true rfl) (by show k + 1 ≤ (601024 : Nat); omega) (by show n + 6 ≤ (7293034 : Nat); omega) dL_law_803 (fun E hE => False.elim hE) (fun v cs1 hp => ?_)
    rcases hp with ⟨hc2, hz2⟩ | ⟨hc2, ⟨z9, rfl⟩, rfl⟩
    · exact absurd hc2 hc
    · show G 806 [(5, .int (nI (cod (xinD N (xs (i + 1))) true true))), (4, .int (nI i)), (3, .ref oa), (2, .ref (am 0)), (1, .ref (ad 0)), (0, .ref b)] [.int z9] [xoW ad up op tr, lkW D ad L, alW D e0 (ad 2) hs N, rwW D (ad 3) (ad 10) (ad 11) (ad 12) gf qf.length, rwW D (ad 4) (ad 13) (ad 14) (ad 15) gb qb.length, alW D e0 (ad 5) ht tq.length, dvW da N S om, moW am N tf tt bf bt up op tr tq.length (nI (cod (xinD N (xs (i + 1))) true true)), mlW D am L, mdW D am S, rtW D am tg, rbW D am bg, tdW D am td, [(oa, .inl (D.1 12, 1, .inr (.inl f)))]] (k + 1) (n + 6)
      refine x_istore B (pc := 806) [(6, .int z9), (5, .int (nI (cod (xinD N (xs (i + 1))) true true))), (4, .int (nI i)), (3, .ref oa), (2, .ref (am 0)), (1, .ref (ad 0)), (0, .ref b)] dL_law_806 (by decide) rfl ?_
      refine x_aload_n B (pc := 808) 4 dL_law_808 rfl rfl ?_
      refine x_callV B (pc := 809) (As := []) (c_X4_thrown hl D e0 ) xcl_M rfl 0 0 rfl rfl tm716 tm717 tm718 tm7 tm719 md_X4_thrown ⟨Nat.le_of_ble_eq_true rfl, Nat.le_of_ble_eq_true rfl⟩ [7] rfl rfl rfl (Nat.le_of_ble_eq_true rfl) (by show k + 1 ≤ (601024 : Nat); omega) (by show n + 6 ≤ (7293034 : Nat); omega) dL_law_809 (fun E hE => False.elim hE) (fun v cs1 hp => ?_)
      obtain ⟨rfl, rfl⟩ := hp
      show G 812 [(6, .int z9), (5, .int (nI (cod (xinD N (xs (i + 1))) true true))), (4, .int (nI i)), (3, .ref oa), (2, .ref (am 0)), (1, .ref (ad 0)), (0, .ref b)] [.int (nI (cod (xinD N (xs (i + 1))) true true))] [xoW ad up op tr, lkW D ad L, alW D e0 (ad 2) hs N, rwW D (ad 3) (ad 10) (ad 11) (ad 12) gf qf.length, rwW D (ad 4) (ad 13) (ad 14) (ad 15) gb qb.length, alW D e0 (ad 5) ht tq.length, dvW da N S om, moW am N tf tt bf bt up op tr tq.length (nI (cod (xinD N (xs (i + 1))) true true)), mlW D am L, mdW D am S, rtW D am tg, rbW D am bg, tdW D am td, [(oa, .inl (D.1 12, 1, .inr (.inl f)))]] (k + 1) (n + 6)
      refine x_iload B (pc := 812) 1 dL_law_812 rfl ?_
      refine x_icmp_eq B (pc := 814) 819 dL_law_814 (by decide) (fun h814 => ?_) (fun h814 => absurd rfl h814)
      refine x_iload B (pc := 819) 1 dL_law_819 rfl ?_
      refine x_if_ne B (pc := 821) 836 dL_law_821 (by decide) (fun h821 => ?_) (fun h821 => absurd h821 (cod_nz hc))
      refine x_goto B (pc := 836) 1137 dL_law_836 (by decide) ?_
      refine x_lv B [2, 3, 4, 5, 6] [(4, .int (nI i)), (3, .ref oa), (2, .ref (am 0)), (1, .ref (ad 0)), (0, .ref b)] rfl ?_
      refine x_wid B (k + 4) (n + 300) (by omega) (by omega) ?_
      exact K da hs ht gf gb om L S N qf qb up op tr tq tf tt bf bt tg bg td (nI (cod (xinD N (xs (i + 1))) true true)) f ⟨aInv_more (hI) (by omega), ⟨hok, hot, hq, hqb⟩, ⟨hmf, hmb, htd⟩, (by omega), (by omega)⟩

set_option maxRecDepth 100000 in
set_option maxHeartbeats 4000000 in
/-- the call breakOff -/
theorem st_breakOff {l : Launch} (hl : l.stackTraces = false) (D : va_G) (e0 : Nat) {b Ls : Nat} {xs : Nat → Int32} {G : xGt} {X : xXt} (B0 : xL l D e0 b Ls xs G X) {ad am : Nat → Nat} {oa i t k n : Nat} (hi : i + 3 ≤ Ls) (hLs : Ls ≤ 1536) (ht9 : t < 512) (hk : k ≤ 4000) (hn : n ≤ 300000) (K : lTo G D e0 ad am oa b i (t + 1) (k + 4) (n + 300) 1137) : lTo G D e0 ad am oa b i t k n 839 := by
  intro da hs ht gf gb om L S N qf qb up op tr tq tf tt bf bt tg bg td th f hg
  obtain ⟨hI, ⟨hok, hot, hq, hqb⟩, ⟨hmf, hmb, htd⟩, htt, hbt⟩ := hg
  obtain ⟨hup, hop, hL, hN, hS, hF, hB, hPhi, hlen, hdn⟩ := id hI
  have hT := tq_len hI
  have hin := tq_in hS
  have hin60 : ∀ i, i < tq.length → tq.getD i 0 < 60 := fun i h => Nat.lt_of_lt_of_le (hin i h) hN
  have hl4 : ∀ d, d < N → ∃ j, j < 4 ∧ S 4 d = nI j := fun d hd => (hS.2.1 d hd).1
  have h69 : ∀ d, d < N → ∃ m, m ≤ 4 ∧ S 6 d = nI m := fun d hd => (hS.2.1 d hd).2.1
  have h79 : ∀ d, d < N → S 7 d = 0 ∨ S 7 d = 1 := fun d hd => (hS.2.1 d hd).2.2.1
  have h99 : ∀ d, d < N → S 9 d = 0 ∨ S 9 d = 1 ∨ S 9 d = 2 ∨ S 9 d = 3 ∨ S 9 d = 4 := fun d hd => (hS.2.1 d hd).2.2.2.1
  have hfe := hmf.1
  have hbe := hmb.1
  obtain ⟨hh, B⟩ := B0.base
  show G 839 [(4, .int (nI i)), (3, .ref oa), (2, .ref (am 0)), (1, .ref (ad 0)), (0, .ref b)] [] [xoW ad up op tr, lkW D ad L, alW D e0 (ad 2) hs N, rwW D (ad 3) (ad 10) (ad 11) (ad 12) gf qf.length, rwW D (ad 4) (ad 13) (ad 14) (ad 15) gb qb.length, alW D e0 (ad 5) ht tq.length, dvW da N S om, moW am N tf tt bf bt up op tr tq.length th, mlW D am L, mdW D am S, rtW D am tg, rbW D am bg, tdW D am td, [(oa, .inl (D.1 12, 1, .inr (.inl f)))]] k n
  refine x_aload_n B (pc := 839) 3 dL_law_839 rfl rfl ?_
  refine x_aload_n B (pc := 840) 1 dL_law_840 rfl rfl ?_
  refine x_callSX B (pc := 841) (As := [.ref (ad 0), .ref oa]) (c_L_breakOff hl D e0 hup hot hT hin) tm561 tm562 tm0 tm563 md_L_breakOff ⟨Nat.le_of_ble_eq_true rfl, Nat.le_of_ble_eq_true rfl⟩ [0, 3, 4, 5, 6, 13] rfl rfl rfl (Nat.le_of_ble_eq_true rfl) (by show k + 1 ≤ (601024 : Nat); omega) (by show n + 6 ≤ (7293034 : Nat); omega) dL_law_841 (fun E hE => False.elim hE) (fun v cs1 hp => ?_)
  rcases hp with ⟨hc, rfl, h1, g1, g2, hf0, hf1, hf2, rfl⟩ | ⟨hc, rfl, rfl⟩
  · show G 844 [(4, .int (nI i)), (3, .ref oa), (2, .ref (am 0)), (1, .ref (ad 0)), (0, .ref b)] [.int 0] [xoW ad 0 0 tr, lkW D ad L, alW D e0 (ad 2) hs N, rwW D (ad 3) (ad 10) (ad 11) (ad 12) g1 ((@List.nil xFr).length), rwW D (ad 4) (ad 13) (ad 14) (ad 15) g2 ((@List.nil xFr).length), alW D e0 (ad 5) h1 0, dvW da N (clrS S tq) om, moW am N tf tt bf bt up op tr tq.length th, mlW D am L, mdW D am S, rtW D am tg, rbW D am bg, tdW D am td, [(oa, .inl (D.1 12, 1, .inr (.inl (vp_updL f 0 ((nI (qf.length + qb.length)).toInt64)))))]] (k + 1) (n + 6)
    refine x_istore B (pc := 844) [(5, .int 0), (4, .int (nI i)), (3, .ref oa), (2, .ref (am 0)), (1, .ref (ad 0)), (0, .ref b)] dL_law_844 (by decide) rfl ?_
    refine x_aload_n B (pc := 846) 3 dL_law_846 rfl rfl ?_
    refine x_callV B (pc := 847) (As := []) (c_X4_breakOff hl D e0 (tn := 0) hup (by omega) (by omega) hT hin60 htd) xcl_M rfl 0 0 rfl rfl tm826 tm827 tm828 tm7 tm829 md_X4_breakOff ⟨Nat.le_of_ble_eq_true rfl, Nat.le_of_ble_eq_true rfl⟩ [7, 9, 12] rfl rfl rfl (Nat.le_of_ble_eq_true rfl) (by show k + 1 ≤ (601024 : Nat); omega) (by show n + 6 ≤ (7293034 : Nat); omega) dL_law_847 (fun E hE => False.elim hE) (fun v cs1 hp => ?_)
    rcases hp with ⟨hc2, rfl, rfl⟩ | ⟨hc2, hz2⟩
    · show G 850 [(5, .int 0), (4, .int (nI i)), (3, .ref oa), (2, .ref (am 0)), (1, .ref (ad 0)), (0, .ref b)] [.int (nI ((tt - tf) + (bt - bf)))] [xoW ad 0 0 tr, lkW D ad L, alW D e0 (ad 2) hs N, rwW D (ad 3) (ad 10) (ad 11) (ad 12) g1 ((@List.nil xFr).length), rwW D (ad 4) (ad 13) (ad 14) (ad 15) g2 ((@List.nil xFr).length), alW D e0 (ad 5) h1 0, dvW da N (clrS S tq) om, moW am N tt tt bt bt 0 0 tr 0 0, mlW D am L, mdW D am (clrS S tq), rtW D am tg, rbW D am bg, tdW D am td, [(oa, .inl (D.1 12, 1, .inr (.inl (vp_updL f 0 ((nI (qf.length + qb.length)).toInt64)))))]] (k + 1) (n + 6)
      refine x_val B (y := nI (qf.length + qb.length)) (congrArg nI (by omega)) ?_
      refine x_istore B (pc := 850) [(6, .int (nI (qf.length + qb.length))), (5, .int 0), (4, .int (nI i)), (3, .ref oa), (2, .ref (am 0)), (1, .ref (ad 0)), (0, .ref b)] dL_law_850 (by decide) rfl ?_
      refine x_aload_n B (pc := 852) 4 dL_law_852 rfl rfl ?_
      refine x_callV B (pc := 853) (As := []) (c_X4_thrown hl D e0 ) xcl_M rfl 0 0 rfl rfl tm716 tm717 tm718 tm7 tm719 md_X4_thrown ⟨Nat.le_of_ble_eq_true rfl, Nat.le_of_ble_eq_true rfl⟩ [7] rfl rfl rfl (Nat.le_of_ble_eq_true rfl) (by show k + 1 ≤ (601024 : Nat); omega) (by show n + 6 ≤ (7293034 : Nat); omega) dL_law_853 (fun E hE => False.elim hE) (fun v cs1 hp => ?_)
      obtain ⟨rfl, rfl⟩ := hp
      show G 856 [(6, .int (nI (qf.length + qb.length))), (5, .int 0), (4, .int (nI i)), (3, .ref oa), (2, .ref (am 0)), (1, .ref (ad 0)), (0, .ref b)] [.int 0] [xoW ad 0 0 tr, lkW D ad L, alW D e0 (ad 2) hs N, rwW D (ad 3) (ad 10) (ad 11) (ad 12) g1 ((@List.nil xFr).length), rwW D (ad 4) (ad 13) (ad 14) (ad 15) g2 ((@List.nil xFr).length), alW D e0 (ad 5) h1 0, dvW da N (clrS S tq) om, moW am N tt tt bt bt 0 0 tr 0 0, mlW D am L, mdW D am (clrS S tq), rtW D am tg, rbW D am bg, tdW D am td, [(oa, .inl (D.1 12, 1, .inr (.inl (vp_updL f 0 ((nI (qf.length + qb.length)).toInt64)))))]] (k + 1) (n + 6)
      refine x_iload B (pc := 856) 1 dL_law_856 rfl ?_
      refine x_icmp_eq B (pc := 858) 863 dL_law_858 (by decide) (fun h858 => ?_) (fun h858 => absurd (by decide) h858)
      refine x_iload B (pc := 863) 1 dL_law_863 rfl ?_
      refine x_if_ne B (pc := 865) 880 dL_law_865 (by decide) (fun h865 => absurd (by decide) h865) (fun h865 => ?_)
      refine x_aload_n B (pc := 868) 3 dL_law_868 rfl rfl ?_
      refine x_iconst B (pc := 869) 0 dL_law_869 (by decide) ?_
      refine x_val B (y := nI 0) rfl ?_
      refine x_laldN B (pc := 870) 0 13 0 (by decide) (by decide) rfl rfl dL_law_870 ?_
      refine x_iload B (pc := 871) 0 dL_law_871 rfl ?_
      refine x_i2l B (pc := 873) dL_law_873 ?_
      refine x_lcmp B (pc := 874) dL_law_874 ?_
      refine x_val B (y := 0) out_cmp ?_
      refine x_if_eq B (pc := 875) 880 dL_law_875 (by decide) (fun h875 => ?_) (fun h875 => absurd (by decide) h875)
      refine x_goto B (pc := 880) 1137 dL_law_880 (by decide) ?_
      refine x_lv B [2, 3, 4, 5, 6] [(4, .int (nI i)), (3, .ref oa), (2, .ref (am 0)), (1, .ref (ad 0)), (0, .ref b)] rfl ?_
      refine x_wid B (k + 4) (n + 300) (by omega) (by omega) ?_
      exact K da hs h1 g1 g2 om L (clrS S tq) N ([]) ([]) 0 0 tr ([]) tt tt bt bt tg bg td 0 (vp_updL f 0 ((nI (qf.length + qb.length)).toInt64)) ⟨aInv_more (aInv_break hI) (by omega), ⟨hok, hf0 _, hf1, hf2⟩, ⟨mg_nil, mg_nil, (fun i hi => absurd hi (Nat.not_lt_zero i))⟩, (by omega), (by omega)⟩
    · exact absurd hc hc2
  · show G 844 [(4, .int (nI i)), (3, .ref oa), (2, .ref (am 0)), (1, .ref (ad 0)), (0, .ref b)] [.int (nI (cod (decide (up = 1)) true true))] [xoW ad up op tr, lkW D ad L, alW D e0 (ad 2) hs N, rwW D (ad 3) (ad 10) (ad 11) (ad 12) gf qf.length, rwW D (ad 4) (ad 13) (ad 14) (ad 15) gb qb.length, alW D e0 (ad 5) ht tq.length, dvW da N S om, moW am N tf tt bf bt up op tr tq.length th, mlW D am L, mdW D am S, rtW D am tg, rbW D am bg, tdW D am td, [(oa, .inl (D.1 12, 1, .inr (.inl f)))]] (k + 1) (n + 6)
    refine x_istore B (pc := 844) [(5, .int (nI (cod (decide (up = 1)) true true))), (4, .int (nI i)), (3, .ref oa), (2, .ref (am 0)), (1, .ref (ad 0)), (0, .ref b)] dL_law_844 (by decide) rfl ?_
    refine x_aload_n B (pc := 846) 3 dL_law_846 rfl rfl ?_
    refine x_callV B (pc := 847) (As := []) (c_X4_breakOff hl D e0 (tn := 0) hup (by omega) (by omega) hT hin60 htd) xcl_M rfl 0 0 rfl rfl tm826 tm827 tm828 tm7 tm829 md_X4_breakOff ⟨Nat.le_of_ble_eq_true rfl, Nat.le_of_ble_eq_true rfl⟩ [7, 9, 12] rfl rfl rfl (Nat.le_of_ble_eq_true rfl) (by show k + 1 ≤ (601024 : Nat); omega) (by show n + 6 ≤ (7293034 : Nat); omega) dL_law_847 (fun E hE => False.elim hE) (fun v cs1 hp => ?_)
    rcases hp with ⟨hc2, hz2⟩ | ⟨hc2, ⟨z9, rfl⟩, rfl⟩
    · exact absurd hc2 hc
    · show G 850 [(5, .int (nI (cod (decide (up = 1)) true true))), (4, .int (nI i)), (3, .ref oa), (2, .ref (am 0)), (1, .ref (ad 0)), (0, .ref b)] [.int z9] [xoW ad up op tr, lkW D ad L, alW D e0 (ad 2) hs N, rwW D (ad 3) (ad 10) (ad 11) (ad 12) gf qf.length, rwW D (ad 4) (ad 13) (ad 14) (ad 15) gb qb.length, alW D e0 (ad 5) ht tq.length, dvW da N S om, moW am N tf tt bf bt up op tr tq.length (nI (cod (decide (up = 1)) true true)), mlW D am L, mdW D am S, rtW D am tg, rbW D am bg, tdW D am td, [(oa, .inl (D.1 12, 1, .inr (.inl f)))]] (k + 1) (n + 6)
      refine x_istore B (pc := 850) [(6, .int z9), (5, .int (nI (cod (decide (up = 1)) true true))), (4, .int (nI i)), (3, .ref oa), (2, .ref (am 0)), (1, .ref (ad 0)), (0, .ref b)] dL_law_850 (by decide) rfl ?_
      refine x_aload_n B (pc := 852) 4 dL_law_852 rfl rfl ?_
      refine x_callV B (pc := 853) (As := []) (c_X4_thrown hl D e0 ) xcl_M rfl 0 0 rfl rfl tm716 tm717 tm718 tm7 tm719 md_X4_thrown ⟨Nat.le_of_ble_eq_true rfl, Nat.le_of_ble_eq_true rfl⟩ [7] rfl rfl rfl (Nat.le_of_ble_eq_true rfl) (by show k + 1 ≤ (601024 : Nat); omega) (by show n + 6 ≤ (7293034 : Nat); omega) dL_law_853 (fun E hE => False.elim hE) (fun v cs1 hp => ?_)
      obtain ⟨rfl, rfl⟩ := hp
      show G 856 [(6, .int z9), (5, .int (nI (cod (decide (up = 1)) true true))), (4, .int (nI i)), (3, .ref oa), (2, .ref (am 0)), (1, .ref (ad 0)), (0, .ref b)] [.int (nI (cod (decide (up = 1)) true true))] [xoW ad up op tr, lkW D ad L, alW D e0 (ad 2) hs N, rwW D (ad 3) (ad 10) (ad 11) (ad 12) gf qf.length, rwW D (ad 4) (ad 13) (ad 14) (ad 15) gb qb.length, alW D e0 (ad 5) ht tq.length, dvW da N S om, moW am N tf tt bf bt up op tr tq.length (nI (cod (decide (up = 1)) true true)), mlW D am L, mdW D am S, rtW D am tg, rbW D am bg, tdW D am td, [(oa, .inl (D.1 12, 1, .inr (.inl f)))]] (k + 1) (n + 6)
      refine x_iload B (pc := 856) 1 dL_law_856 rfl ?_
      refine x_icmp_eq B (pc := 858) 863 dL_law_858 (by decide) (fun h858 => ?_) (fun h858 => absurd rfl h858)
      refine x_iload B (pc := 863) 1 dL_law_863 rfl ?_
      refine x_if_ne B (pc := 865) 880 dL_law_865 (by decide) (fun h865 => ?_) (fun h865 => absurd h865 (cod_nz hc))
      refine x_goto B (pc := 880) 1137 dL_law_880 (by decide) ?_
      refine x_lv B [2, 3, 4, 5, 6] [(4, .int (nI i)), (3, .ref oa), (2, .ref (am 0)), (1, .ref (ad 0)), (0, .ref b)] rfl ?_
      refine x_wid B (k + 4) (n + 300) (by omega) (by omega) ?_
      exact K da hs ht gf gb om L S N qf qb up op tr tq tf tt bf bt tg bg td (nI (cod (decide (up = 1)) true true)) f ⟨aInv_more (hI) (by omega), ⟨hok, hot, hq, hqb⟩, ⟨hmf, hmb, htd⟩, (by omega), (by omega)⟩

set_option maxRecDepth 100000 in
set_option maxHeartbeats 4000000 in
/-- the call join -/
theorem st_join {l : Launch} (hl : l.stackTraces = false) (D : va_G) (e0 : Nat) {b Ls : Nat} {xs : Nat → Int32} {G : xGt} {X : xXt} (B0 : xL l D e0 b Ls xs G X) {ad am : Nat → Nat} {oa i t k n : Nat} (hi : i + 3 ≤ Ls) (hLs : Ls ≤ 1536) (ht9 : t < 512) (hk : k ≤ 4000) (hn : n ≤ 300000) (K : lTo G D e0 ad am oa b i (t + 1) (k + 4) (n + 300) 1137) : lTo G D e0 ad am oa b i t k n 883 := by
  intro da hs ht gf gb om L S N qf qb up op tr tq tf tt bf bt tg bg td th f hg
  obtain ⟨hI, ⟨hok, hot, hq, hqb⟩, ⟨hmf, hmb, htd⟩, htt, hbt⟩ := hg
  obtain ⟨hup, hop, hL, hN, hS, hF, hB, hPhi, hlen, hdn⟩ := id hI
  have hT := tq_len hI
  have hin := tq_in hS
  have hin60 : ∀ i, i < tq.length → tq.getD i 0 < 60 := fun i h => Nat.lt_of_lt_of_le (hin i h) hN
  have hl4 : ∀ d, d < N → ∃ j, j < 4 ∧ S 4 d = nI j := fun d hd => (hS.2.1 d hd).1
  have h69 : ∀ d, d < N → ∃ m, m ≤ 4 ∧ S 6 d = nI m := fun d hd => (hS.2.1 d hd).2.1
  have h79 : ∀ d, d < N → S 7 d = 0 ∨ S 7 d = 1 := fun d hd => (hS.2.1 d hd).2.2.1
  have h99 : ∀ d, d < N → S 9 d = 0 ∨ S 9 d = 1 ∨ S 9 d = 2 ∨ S 9 d = 3 ∨ S 9 d = 4 := fun d hd => (hS.2.1 d hd).2.2.2.1
  have hfe := hmf.1
  have hbe := hmb.1
  obtain ⟨hh, B⟩ := B0.base
  show G 883 [(4, .int (nI i)), (3, .ref oa), (2, .ref (am 0)), (1, .ref (ad 0)), (0, .ref b)] [] [xoW ad up op tr, lkW D ad L, alW D e0 (ad 2) hs N, rwW D (ad 3) (ad 10) (ad 11) (ad 12) gf qf.length, rwW D (ad 4) (ad 13) (ad 14) (ad 15) gb qb.length, alW D e0 (ad 5) ht tq.length, dvW da N S om, moW am N tf tt bf bt up op tr tq.length th, mlW D am L, mdW D am S, rtW D am tg, rbW D am bg, tdW D am td, [(oa, .inl (D.1 12, 1, .inr (.inl f)))]] k n
  refine x_aload_n B (pc := 883) 3 dL_law_883 rfl rfl ?_
  refine x_aload_n B (pc := 884) 1 dL_law_884 rfl rfl ?_
  refine x_callSX B (pc := 885) (As := [.ref (ad 0), .ref oa]) (c_L_join hl D e0 hup hok hN hq (by omega) (fun d hd e => (hS.2.1 d hd).2.2.2.2 e) h69) tm580 tm581 tm0 tm582 md_L_join ⟨Nat.le_of_ble_eq_true rfl, Nat.le_of_ble_eq_true rfl⟩ [0, 1, 2, 3, 6, 13] rfl rfl rfl (Nat.le_of_ble_eq_true rfl) (by show k + 1 ≤ (601024 : Nat); omega) (by show n + 6 ≤ (7293034 : Nat); omega) dL_law_885 (fun E hE => False.elim hE) (fun v cs1 hp => ?_)
  rcases hp with ⟨hc, rfl, g1, hf0, rfl⟩ | ⟨hc, rfl, rfl⟩
  · show G 888 [(4, .int (nI i)), (3, .ref oa), (2, .ref (am 0)), (1, .ref (ad 0)), (0, .ref b)] [.int 0] [xoW ad 1 op tr, lkW D ad (jnL L 4), alW D e0 (ad 2) hs N, rwW D (ad 3) (ad 10) (ad 11) (ad 12) g1 (((jn S qf N).2.1).length), rwW D (ad 4) (ad 13) (ad 14) (ad 15) gb qb.length, alW D e0 (ad 5) ht tq.length, dvW da N ((jn S qf N).1) om, moW am N tf tt bf bt up op tr tq.length th, mlW D am L, mdW D am S, rtW D am tg, rbW D am bg, tdW D am td, [(oa, .inl (D.1 12, 1, .inr (.inl (vp_updL f 0 (((jn S qf N).2.2).toInt64)))))]] (k + 1) (n + 6)
    refine x_istore B (pc := 888) [(5, .int 0), (4, .int (nI i)), (3, .ref oa), (2, .ref (am 0)), (1, .ref (ad 0)), (0, .ref b)] dL_law_888 (by decide) rfl ?_
    refine x_aload_n B (pc := 890) 3 dL_law_890 rfl rfl ?_
    refine x_callV B (pc := 891) (As := []) (c_X4_join hl D e0 hup hN hmf (by omega) (by omega) h69 h99 h79) xcl_M rfl 0 0 rfl rfl tm834 tm835 tm836 tm7 tm837 md_X4_join ⟨Nat.le_of_ble_eq_true rfl, Nat.le_of_ble_eq_true rfl⟩ [7, 8, 9, 10] rfl rfl rfl (Nat.le_of_ble_eq_true rfl) (by show k + 1 ≤ (601024 : Nat); omega) (by show n + 6 ≤ (7293034 : Nat); omega) dL_law_891 (fun E hE => False.elim hE) (fun v cs1 hp => ?_)
    rcases hp with ⟨hc2, rfl, tt1, tg1, mf0, mf1, rfl⟩ | ⟨hc2, hz2⟩
    · show G 894 [(5, .int 0), (4, .int (nI i)), (3, .ref oa), (2, .ref (am 0)), (1, .ref (ad 0)), (0, .ref b)] [.int ((jn S qf N).2.2)] [xoW ad 1 op tr, lkW D ad (jnL L 4), alW D e0 (ad 2) hs N, rwW D (ad 3) (ad 10) (ad 11) (ad 12) g1 (((jn S qf N).2.1).length), rwW D (ad 4) (ad 13) (ad 14) (ad 15) gb qb.length, alW D e0 (ad 5) ht tq.length, dvW da N ((jn S qf N).1) om, moW am N tf tt1 bf bt 1 op tr tq.length 0, mlW D am (jnL L 4), mdW D am ((jn S qf N).1), rtW D am tg1, rbW D am bg, tdW D am td, [(oa, .inl (D.1 12, 1, .inr (.inl (vp_updL f 0 (((jn S qf N).2.2).toInt64)))))]] (k + 1) (n + 6)
      refine x_istore B (pc := 894) [(6, .int ((jn S qf N).2.2)), (5, .int 0), (4, .int (nI i)), (3, .ref oa), (2, .ref (am 0)), (1, .ref (ad 0)), (0, .ref b)] dL_law_894 (by decide) rfl ?_
      refine x_aload_n B (pc := 896) 4 dL_law_896 rfl rfl ?_
      refine x_callV B (pc := 897) (As := []) (c_X4_thrown hl D e0 ) xcl_M rfl 0 0 rfl rfl tm716 tm717 tm718 tm7 tm719 md_X4_thrown ⟨Nat.le_of_ble_eq_true rfl, Nat.le_of_ble_eq_true rfl⟩ [7] rfl rfl rfl (Nat.le_of_ble_eq_true rfl) (by show k + 1 ≤ (601024 : Nat); omega) (by show n + 6 ≤ (7293034 : Nat); omega) dL_law_897 (fun E hE => False.elim hE) (fun v cs1 hp => ?_)
      obtain ⟨rfl, rfl⟩ := hp
      show G 900 [(6, .int ((jn S qf N).2.2)), (5, .int 0), (4, .int (nI i)), (3, .ref oa), (2, .ref (am 0)), (1, .ref (ad 0)), (0, .ref b)] [.int 0] [xoW ad 1 op tr, lkW D ad (jnL L 4), alW D e0 (ad 2) hs N, rwW D (ad 3) (ad 10) (ad 11) (ad 12) g1 (((jn S qf N).2.1).length), rwW D (ad 4) (ad 13) (ad 14) (ad 15) gb qb.length, alW D e0 (ad 5) ht tq.length, dvW da N ((jn S qf N).1) om, moW am N tf tt1 bf bt 1 op tr tq.length 0, mlW D am (jnL L 4), mdW D am ((jn S qf N).1), rtW D am tg1, rbW D am bg, tdW D am td, [(oa, .inl (D.1 12, 1, .inr (.inl (vp_updL f 0 (((jn S qf N).2.2).toInt64)))))]] (k + 1) (n + 6)
      refine x_iload B (pc := 900) 1 dL_law_900 rfl ?_
      refine x_icmp_eq B (pc := 902) 907 dL_law_902 (by decide) (fun h902 => ?_) (fun h902 => absurd (by decide) h902)
      refine x_iload B (pc := 907) 1 dL_law_907 rfl ?_
      refine x_if_ne B (pc := 909) 924 dL_law_909 (by decide) (fun h909 => absurd (by decide) h909) (fun h909 => ?_)
      refine x_aload_n B (pc := 912) 3 dL_law_912 rfl rfl ?_
      refine x_iconst B (pc := 913) 0 dL_law_913 (by decide) ?_
      refine x_val B (y := nI 0) rfl ?_
      refine x_laldN B (pc := 914) 0 13 0 (by decide) (by decide) rfl rfl dL_law_914 ?_
      refine x_iload B (pc := 915) 0 dL_law_915 rfl ?_
      refine x_i2l B (pc := 917) dL_law_917 ?_
      refine x_lcmp B (pc := 918) dL_law_918 ?_
      refine x_val B (y := 0) out_cmp ?_
      refine x_if_eq B (pc := 919) 924 dL_law_919 (by decide) (fun h919 => ?_) (fun h919 => absurd (by decide) h919)
      refine x_goto B (pc := 924) 1137 dL_law_924 (by decide) ?_
      refine x_lv B [2, 3, 4, 5, 6] [(4, .int (nI i)), (3, .ref oa), (2, .ref (am 0)), (1, .ref (ad 0)), (0, .ref b)] rfl ?_
      refine x_wid B (k + 4) (n + 300) (by omega) (by omega) ?_
      exact K da hs ht g1 gb om (jnL L 4) ((jn S qf N).1) N ((jn S qf N).2.1) qb 1 op tr tq tf tt1 bf bt tg1 bg td 0 (vp_updL f 0 (((jn S qf N).2.2).toInt64)) ⟨aInv_more (aInv_join hI hc) (by omega), ⟨hok, hot, hf0, hqb⟩, ⟨mf1, hmb, htd⟩, (by omega), (by omega)⟩
    · exact absurd hc hc2
  · show G 888 [(4, .int (nI i)), (3, .ref oa), (2, .ref (am 0)), (1, .ref (ad 0)), (0, .ref b)] [.int (nI (cod (decide (up = 0)) true true))] [xoW ad up op tr, lkW D ad L, alW D e0 (ad 2) hs N, rwW D (ad 3) (ad 10) (ad 11) (ad 12) gf qf.length, rwW D (ad 4) (ad 13) (ad 14) (ad 15) gb qb.length, alW D e0 (ad 5) ht tq.length, dvW da N S om, moW am N tf tt bf bt up op tr tq.length th, mlW D am L, mdW D am S, rtW D am tg, rbW D am bg, tdW D am td, [(oa, .inl (D.1 12, 1, .inr (.inl f)))]] (k + 1) (n + 6)
    refine x_istore B (pc := 888) [(5, .int (nI (cod (decide (up = 0)) true true))), (4, .int (nI i)), (3, .ref oa), (2, .ref (am 0)), (1, .ref (ad 0)), (0, .ref b)] dL_law_888 (by decide) rfl ?_
    refine x_aload_n B (pc := 890) 3 dL_law_890 rfl rfl ?_
    refine x_callV B (pc := 891) (As := []) (c_X4_join hl D e0 hup hN hmf (by omega) (by omega) h69 h99 h79) xcl_M rfl 0 0 rfl rfl tm834 tm835 tm836 tm7 tm837 md_X4_join ⟨Nat.le_of_ble_eq_true rfl, Nat.le_of_ble_eq_true rfl⟩ [7, 8, 9, 10] rfl rfl rfl (Nat.le_of_ble_eq_true rfl) (by show k + 1 ≤ (601024 : Nat); omega) (by show n + 6 ≤ (7293034 : Nat); omega) dL_law_891 (fun E hE => False.elim hE) (fun v cs1 hp => ?_)
    rcases hp with ⟨hc2, hz2⟩ | ⟨hc2, ⟨z9, rfl⟩, rfl⟩
    · exact absurd hc2 hc
    · show G 894 [(5, .int (nI (cod (decide (up = 0)) true true))), (4, .int (nI i)), (3, .ref oa), (2, .ref (am 0)), (1, .ref (ad 0)), (0, .ref b)] [.int z9] [xoW ad up op tr, lkW D ad L, alW D e0 (ad 2) hs N, rwW D (ad 3) (ad 10) (ad 11) (ad 12) gf qf.length, rwW D (ad 4) (ad 13) (ad 14) (ad 15) gb qb.length, alW D e0 (ad 5) ht tq.length, dvW da N S om, moW am N tf tt bf bt up op tr tq.length (nI (cod (decide (up = 0)) true true)), mlW D am L, mdW D am S, rtW D am tg, rbW D am bg, tdW D am td, [(oa, .inl (D.1 12, 1, .inr (.inl f)))]] (k + 1) (n + 6)
      refine x_istore B (pc := 894) [(6, .int z9), (5, .int (nI (cod (decide (up = 0)) true true))), (4, .int (nI i)), (3, .ref oa), (2, .ref (am 0)), (1, .ref (ad 0)), (0, .ref b)] dL_law_894 (by decide) rfl ?_
      refine x_aload_n B (pc := 896) 4 dL_law_896 rfl rfl ?_
      refine x_callV B (pc := 897) (As := []) (c_X4_thrown hl D e0 ) xcl_M rfl 0 0 rfl rfl tm716 tm717 tm718 tm7 tm719 md_X4_thrown ⟨Nat.le_of_ble_eq_true rfl, Nat.le_of_ble_eq_true rfl⟩ [7] rfl rfl rfl (Nat.le_of_ble_eq_true rfl) (by show k + 1 ≤ (601024 : Nat); omega) (by show n + 6 ≤ (7293034 : Nat); omega) dL_law_897 (fun E hE => False.elim hE) (fun v cs1 hp => ?_)
      obtain ⟨rfl, rfl⟩ := hp
      show G 900 [(6, .int z9), (5, .int (nI (cod (decide (up = 0)) true true))), (4, .int (nI i)), (3, .ref oa), (2, .ref (am 0)), (1, .ref (ad 0)), (0, .ref b)] [.int (nI (cod (decide (up = 0)) true true))] [xoW ad up op tr, lkW D ad L, alW D e0 (ad 2) hs N, rwW D (ad 3) (ad 10) (ad 11) (ad 12) gf qf.length, rwW D (ad 4) (ad 13) (ad 14) (ad 15) gb qb.length, alW D e0 (ad 5) ht tq.length, dvW da N S om, moW am N tf tt bf bt up op tr tq.length (nI (cod (decide (up = 0)) true true)), mlW D am L, mdW D am S, rtW D am tg, rbW D am bg, tdW D am td, [(oa, .inl (D.1 12, 1, .inr (.inl f)))]] (k + 1) (n + 6)
      refine x_iload B (pc := 900) 1 dL_law_900 rfl ?_
      refine x_icmp_eq B (pc := 902) 907 dL_law_902 (by decide) (fun h902 => ?_) (fun h902 => absurd rfl h902)
      refine x_iload B (pc := 907) 1 dL_law_907 rfl ?_
      refine x_if_ne B (pc := 909) 924 dL_law_909 (by decide) (fun h909 => ?_) (fun h909 => absurd h909 (cod_nz hc))
      refine x_goto B (pc := 924) 1137 dL_law_924 (by decide) ?_
      refine x_lv B [2, 3, 4, 5, 6] [(4, .int (nI i)), (3, .ref oa), (2, .ref (am 0)), (1, .ref (ad 0)), (0, .ref b)] rfl ?_
      refine x_wid B (k + 4) (n + 300) (by omega) (by omega) ?_
      exact K da hs ht gf gb om L S N qf qb up op tr tq tf tt bf bt tg bg td (nI (cod (decide (up = 0)) true true)) f ⟨aInv_more (hI) (by omega), ⟨hok, hot, hq, hqb⟩, ⟨hmf, hmb, htd⟩, (by omega), (by omega)⟩
