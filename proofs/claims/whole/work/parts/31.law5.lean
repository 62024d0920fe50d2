/-! the law, call by call -/
set_option maxRecDepth 100000 in
set_option maxHeartbeats 4000000 in
/-- the call wouldResend -/
theorem st_wouldResend {l : Launch} (hl : l.stackTraces = false) (D : va_G) (e0 : Nat) {b Ls : Nat} {xs : Nat → Int32} {G : xGt} {X : xXt} (B0 : xL l D e0 b Ls xs G X) {ad am : Nat → Nat} {oa i t k n : Nat} (hi : i + 3 ≤ Ls) (hLs : Ls ≤ 1536) (ht9 : t < 512) (hk : k ≤ 4000) (hn : n ≤ 300000) (K : lTo G D e0 ad am oa b i (t + 1) (k + 4) (n + 300) 1137) : lTo G D e0 ad am oa b i t k n 927 := by
  intro da hs ht gf gb om L S N qf qb up op tr tq tf tt bf bt tg bg td th f hg
  obtain ⟨hI, ⟨hok, hot, hq, hqb⟩, ⟨hmf, hmb, htd⟩, htt, hbt⟩ := hg
  obtain ⟨hup, hop, hL, hN, hS, hF, hB, hPhi, hlen, hdn⟩ := id hI
  have hT := tq_len hI
  have hin := tq_in hS
  have hin60 : ∀ i, i < tq.length → tq.getD i 0 < 60 := fun i h => Nat.lt_of_lt_of_le (hin i h) hN
  have hl4 : ∀ d, d < N → ∃ j, j < 4 ∧ S 4 d = nI j := fun d hd => (hS.2.1 d hd).1
  have h69 : ∀ d, d < N → ∃ m, m ≤ 4 ∧ S 6 d = nI m := fun d hd => (hS.2.1 d hd).2.1
  have h79 : ∀ d, d < N → S 7 d = 0 ∨ S 7 d = 1 := fun d hd => (hS.2.1 d hd).2.2.1
  have h99 : ∀ d, d < N → S 9 d = 0 ∨ S 9 d = 1 ∨ S 9 d = 2 ∨ S 9 d = 3 ∨ S 9 d = 4 := fun d hd => (hS.2.1 d hd).2.2.2.1
  have hfe := hmf.1
  have hbe := hmb.1
  obtain ⟨hh, B⟩ := B0.base
  show G 927 [(4, .int (nI i)), (3, .ref oa), (2, .ref (am 0)), (1, .ref (ad 0)), (0, .ref b)] [] [xoW ad up op tr, lkW D ad L, alW D e0 (ad 2) hs N, rwW D (ad 3) (ad 10) (ad 11) (ad 12) gf qf.length, rwW D (ad 4) (ad 13) (ad 14) (ad 15) gb qb.length, alW D e0 (ad 5) ht tq.length, dvW da N S om, moW am N tf tt bf bt up op tr tq.length th, mlW D am L, mdW D am S, rtW D am tg, rbW D am bg, tdW D am td, [(oa, .inl (D.1 12, 1, .inr (.inl f)))]] k n
  refine x_aload_n B (pc := 927) 3 dL_law_927 rfl rfl ?_
  refine x_callV B (pc := 928) (As := []) (c_X3_wouldResend hl D e0 hok hN) xcl_X rfl 0 0 rfl rfl tm146 tm147 tm148 tm1 tm149 md_X3_wouldResend ⟨Nat.le_of_ble_eq_true rfl, Nat.le_of_ble_eq_true rfl⟩ [0, 2, 6] rfl rfl rfl (Nat.le_of_ble_eq_true rfl) (by show k ≤ (601024 : Nat); omega) (by show n ≤ (7293034 : Nat); omega) dL_law_928 (fun E hE => False.elim hE) (fun v cs1 hp => ?_)
  obtain ⟨rfl, rfl⟩ := hp
  show G 931 [(4, .int (nI i)), (3, .ref oa), (2, .ref (am 0)), (1, .ref (ad 0)), (0, .ref b)] [.int (wrN S N)] [xoW ad up op tr, lkW D ad L, alW D e0 (ad 2) hs N, rwW D (ad 3) (ad 10) (ad 11) (ad 12) gf qf.length, rwW D (ad 4) (ad 13) (ad 14) (ad 15) gb qb.length, alW D e0 (ad 5) ht tq.length, dvW da N S om, moW am N tf tt bf bt up op tr tq.length th, mlW D am L, mdW D am S, rtW D am tg, rbW D am bg, tdW D am td, [(oa, .inl (D.1 12, 1, .inr (.inl f)))]] k n
  refine x_aload_n B (pc := 931) 2 dL_law_931 rfl rfl ?_
  refine x_callV B (pc := 932) (As := []) (c_X4_wouldResend hl D e0 hN h99) xcl_M rfl 0 0 rfl rfl tm842 tm843 tm844 tm7 tm845 md_X4_wouldResend ⟨Nat.le_of_ble_eq_true rfl, Nat.le_of_ble_eq_true rfl⟩ [7, 9] rfl rfl rfl (Nat.le_of_ble_eq_true rfl) (by show k ≤ (601024 : Nat); omega) (by show n ≤ (7293034 : Nat); omega) dL_law_932 (fun E hE => False.elim hE) (fun v cs1 hp => ?_)
  obtain ⟨rfl, rfl⟩ := hp
  show G 935 [(4, .int (nI i)), (3, .ref oa), (2, .ref (am 0)), (1, .ref (ad 0)), (0, .ref b)] [.int (wrN S N), .int (wrN S N)] [xoW ad up op tr, lkW D ad L, alW D e0 (ad 2) hs N, rwW D (ad 3) (ad 10) (ad 11) (ad 12) gf qf.length, rwW D (ad 4) (ad 13) (ad 14) (ad 15) gb qb.length, alW D e0 (ad 5) ht tq.length, dvW da N S om, moW am N tf tt bf bt up op tr tq.length 0, mlW D am L, mdW D am S, rtW D am tg, rbW D am bg, tdW D am td, [(oa, .inl (D.1 12, 1, .inr (.inl f)))]] k n
  refine x_icmp_eq B (pc := 935) 1137 dL_law_935 (by decide) (fun h935 => ?_) (fun h935 => absurd rfl h935)
  refine x_lv B [0, 1, 2, 3, 4] [(4, .int (nI i)), (3, .ref oa), (2, .ref (am 0)), (1, .ref (ad 0)), (0, .ref b)] rfl ?_
  refine x_wid B (k + 4) (n + 300) (by omega) (by omega) ?_
  exact K da hs ht gf gb om L S N qf qb up op tr tq tf tt bf bt tg bg td 0 f ⟨aInv_more (hI) (by omega), ⟨hok, hot, hq, hqb⟩, ⟨hmf, hmb, htd⟩, (by omega), (by omega)⟩

set_option maxRecDepth 100000 in
set_option maxHeartbeats 4000000 in
/-- the call isUp -/
theorem st_isUp {l : Launch} (hl : l.stackTraces = false) (D : va_G) (e0 : Nat) {b Ls : Nat} {xs : Nat → Int32} {G : xGt} {X : xXt} (B0 : xL l D e0 b Ls xs G X) {ad am : Nat → Nat} {oa i t k n : Nat} (hi : i + 3 ≤ Ls) (hLs : Ls ≤ 1536) (ht9 : t < 512) (hk : k ≤ 4000) (hn : n ≤ 300000) (K : lTo G D e0 ad am oa b i (t + 1) (k + 4) (n + 300) 1137) : lTo G D e0 ad am oa b i t k n 940 := by
  intro da hs ht gf gb om L S N qf qb up op tr tq tf tt bf bt tg bg td th f hg
  obtain ⟨hI, ⟨hok, hot, hq, hqb⟩, ⟨hmf, hmb, htd⟩, htt, hbt⟩ := hg
  obtain ⟨hup, hop, hL, hN, hS, hF, hB, hPhi, hlen, hdn⟩ := id hI
  have hT := tq_len hI
  have hin := tq_in hS
  have hin60 : ∀ i, i < tq.length → tq.getD i 0 < 60 := fun i h => Nat.lt_of_lt_of_le (hin i h) hN
  have hl4 : ∀ d, d < N → ∃ j, j < 4 ∧ S 4 d = nI j := fun d hd => (hS.2.1 d hd).1
  have h69 : ∀ d, d < N → ∃ m, m ≤ 4 ∧ S 6 d = nI m := fun d hd => (hS.2.1 d hd).2.1
  have h79 : ∀ d, d < N → S 7 d = 0 ∨ S 7 d = 1 := fun d hd => (hS.2.1 d hd).2.2.1
  have h99 : ∀ d, d < N → S 9 d = 0 ∨ S 9 d = 1 ∨ S 9 d = 2 ∨ S 9 d = 3 ∨ S 9 d = 4 := fun d hd => (hS.2.1 d hd).2.2.2.1
  have hfe := hmf.1
  have hbe := hmb.1
  obtain ⟨hh, B⟩ := B0.base
  show G 940 [(4, .int (nI i)), (3, .ref oa), (2, .ref (am 0)), (1, .ref (ad 0)), (0, .ref b)] [] [xoW ad up op tr, lkW D ad L, alW D e0 (ad 2) hs N, rwW D (ad 3) (ad 10) (ad 11) (ad 12) gf qf.length, rwW D (ad 4) (ad 13) (ad 14) (ad 15) gb qb.length, alW D e0 (ad 5) ht tq.length, dvW da N S om, moW am N tf tt bf bt up op tr tq.length th, mlW D am L, mdW D am S, rtW D am tg, rbW D am bg, tdW D am td, [(oa, .inl (D.1 12, 1, .inr (.inl f)))]] k n
  refine x_aload_n B (pc := 940) 3 dL_law_940 rfl rfl ?_
  refine x_callV B (pc := 941) (As := []) (c_X3_isUp hl D e0 hup) xcl_X rfl 0 0 rfl rfl tm169 tm170 tm171 tm1 tm172 md_X3_isUp ⟨Nat.le_of_ble_eq_true rfl, Nat.le_of_ble_eq_true rfl⟩ [0] rfl rfl rfl (Nat.le_of_ble_eq_true rfl) (by show k ≤ (601024 : Nat); omega) (by show n ≤ (7293034 : Nat); omega) dL_law_941 (fun E hE => False.elim hE) (fun v cs1 hp => ?_)
  obtain ⟨rfl, rfl⟩ := hp
  show G 944 [(4, .int (nI i)), (3, .ref oa), (2, .ref (am 0)), (1, .ref (ad 0)), (0, .ref b)] [.int up] [xoW ad up op tr, lkW D ad L, alW D e0 (ad 2) hs N, rwW D (ad 3) (ad 10) (ad 11) (ad 12) gf qf.length, rwW D (ad 4) (ad 13) (ad 14) (ad 15) gb qb.length, alW D e0 (ad 5) ht tq.length, dvW da N S om, moW am N tf tt bf bt up op tr tq.length th, mlW D am L, mdW D am S, rtW D am tg, rbW D am bg, tdW D am td, [(oa, .inl (D.1 12, 1, .inr (.inl f)))]] k n
  refine x_aload_n B (pc := 944) 2 dL_law_944 rfl rfl ?_
  refine x_callV B (pc := 945) (As := []) (c_X4_isUp hl D e0 hup) xcl_M rfl 0 0 rfl rfl tm846 tm847 tm848 tm7 tm849 md_X4_isUp ⟨Nat.le_of_ble_eq_true rfl, Nat.le_of_ble_eq_true rfl⟩ [7] rfl rfl rfl (Nat.le_of_ble_eq_true rfl) (by show k ≤ (601024 : Nat); omega) (by show n ≤ (7293034 : Nat); omega) dL_law_945 (fun E hE => False.elim hE) (fun v cs1 hp => ?_)
  obtain ⟨rfl, rfl⟩ := hp
  show G 948 [(4, .int (nI i)), (3, .ref oa), (2, .ref (am 0)), (1, .ref (ad 0)), (0, .ref b)] [.int up, .int up] [xoW ad up op tr, lkW D ad L, alW D e0 (ad 2) hs N, rwW D (ad 3) (ad 10) (ad 11) (ad 12) gf qf.length, rwW D (ad 4) (ad 13) (ad 14) (ad 15) gb qb.length, alW D e0 (ad 5) ht tq.length, dvW da N S om, moW am N tf tt bf bt up op tr tq.length 0, mlW D am L, mdW D am S, rtW D am tg, rbW D am bg, tdW D am td, [(oa, .inl (D.1 12, 1, .inr (.inl f)))]] k n
  refine x_icmp_eq B (pc := 948) 1137 dL_law_948 (by decide) (fun h948 => ?_) (fun h948 => absurd rfl h948)
  refine x_lv B [0, 1, 2, 3, 4] [(4, .int (nI i)), (3, .ref oa), (2, .ref (am 0)), (1, .ref (ad 0)), (0, .ref b)] rfl ?_
  refine x_wid B (k + 4) (n + 300) (by omega) (by omega) ?_
  exact K da hs ht gf gb om L S N qf qb up op tr tq tf tt bf bt tg bg td 0 f ⟨aInv_more (hI) (by omega), ⟨hok, hot, hq, hqb⟩, ⟨hmf, hmb, htd⟩, (by omega), (by omega)⟩

set_option maxRecDepth 100000 in
set_option maxHeartbeats 4000000 in
/-- the call begin -/
theorem st_begin {l : Launch} (hl : l.stackTraces = false) (D : va_G) (e0 : Nat) {b Ls : Nat} {xs : Nat → Int32} {G : xGt} {X : xXt} (B0 : xL l D e0 b Ls xs G X) {ad am : Nat → Nat} {oa i t k n : Nat} (hi : i + 3 ≤ Ls) (hLs : Ls ≤ 1536) (ht9 : t < 512) (hk : k ≤ 4000) (hn : n ≤ 300000) (K : lTo G D e0 ad am oa b i (t + 1) (k + 4) (n + 300) 1137) : lTo G D e0 ad am oa b i t k n 953 := by
  intro da hs ht gf gb om L S N qf qb up op tr tq tf tt bf bt tg bg td th f hg
  obtain ⟨hI, ⟨hok, hot, hq, hqb⟩, ⟨hmf, hmb, htd⟩, htt, hbt⟩ := hg
  obtain ⟨hup, hop, hL, hN, hS, hF, hB, hPhi, hlen, hdn⟩ := id hI
  have hT := tq_len hI
  have hin := tq_in hS
  have hin60 : ∀ i, i < tq.length → tq.getD i 0 < 60 := fun i h => Nat.lt_of_lt_of_le (hin i h) hN
  have hl4 : ∀ d, d < N → ∃ j, j < 4 ∧ S 4 d = nI j := fun d hd => (hS.2.1 d hd).1
  have h69 : ∀ d, d < N → ∃ m, m ≤ 4 ∧ S 6 d = nI m := fun d hd => (hS.2.1 d hd).2.1
  have h79 : ∀ d, d < N → S 7 d = 0 ∨ S 7 d = 1 := fun d hd => (hS.2.1 d hd).2.2.1
  have h99 : ∀ d, d < N → S 9 d = 0 ∨ S 9 d = 1 ∨ S 9 d = 2 ∨ S 9 d = 3 ∨ S 9 d = 4 := fun d hd => (hS.2.1 d hd).2.2.2.1
  have hfe := hmf.1
  have hbe := hmb.1
  obtain ⟨hh, B⟩ := B0.base
  show G 953 [(4, .int (nI i)), (3, .ref oa), (2, .ref (am 0)), (1, .ref (ad 0)), (0, .ref b)] [] [xoW ad up op tr, lkW D ad L, alW D e0 (ad 2) hs N, rwW D (ad 3) (ad 10) (ad 11) (ad 12) gf qf.length, rwW D (ad 4) (ad 13) (ad 14) (ad 15) gb qb.length, alW D e0 (ad 5) ht tq.length, dvW da N S om, moW am N tf tt bf bt up op tr tq.length th, mlW D am L, mdW D am S, rtW D am tg, rbW D am bg, tdW D am td, [(oa, .inl (D.1 12, 1, .inr (.inl f)))]] k n
  refine x_aload_n B (pc := 953) 3 dL_law_953 rfl rfl ?_
  refine x_aload_n B (pc := 954) 1 dL_law_954 rfl rfl ?_
  refine x_callSX B (pc := 955) (As := [.ref (ad 0), .ref oa]) (c_L_begin hl D e0 hup hop) tm597 tm598 tm0 tm599 md_L_begin ⟨Nat.le_of_ble_eq_true rfl, Nat.le_of_ble_eq_true rfl⟩ [0, 13] rfl rfl rfl (Nat.le_of_ble_eq_true rfl) (by show k + 1 ≤ (601024 : Nat); omega) (by show n + 6 ≤ (7293034 : Nat); omega) dL_law_955 (fun E hE => False.elim hE) (fun v cs1 hp => ?_)
  rcases hp with ⟨hc, rfl, rfl⟩ | ⟨hc, rfl, rfl⟩
  · show G 958 [(4, .int (nI i)), (3, .ref oa), (2, .ref (am 0)), (1, .ref (ad 0)), (0, .ref b)] [.int 0] [xoW ad up 1 (tr + 1), lkW D ad L, alW D e0 (ad 2) hs N, rwW D (ad 3) (ad 10) (ad 11) (ad 12) gf qf.length, rwW D (ad 4) (ad 13) (ad 14) (ad 15) gb qb.length, alW D e0 (ad 5) ht tq.length, dvW da N S om, moW am N tf tt bf bt up op tr tq.length th, mlW D am L, mdW D am S, rtW D am tg, rbW D am bg, tdW D am td, [(oa, .inl (D.1 12, 1, .inr (.inl (vp_updL f 0 ((tr + 1).toInt64)))))]] (k + 1) (n + 6)
    refine x_istore B (pc := 958) [(5, .int 0), (4, .int (nI i)), (3, .ref oa), (2, .ref (am 0)), (1, .ref (ad 0)), (0, .ref b)] dL_law_958 (by decide) rfl ?_
    refine x_aload_n B (pc := 960) 3 dL_law_960 rfl rfl ?_
    refine x_callV B (pc := 961) (As := []) (c_X4_begin hl D e0 hup hop) xcl_M rfl 0 0 rfl rfl tm850 tm851 tm852 tm7 tm853 md_X4_begin ⟨Nat.le_of_ble_eq_true rfl, Nat.le_of_ble_eq_true rfl⟩ [7] rfl rfl rfl (Nat.le_of_ble_eq_true rfl) (by show k + 1 ≤ (601024 : Nat); omega) (by show n + 6 ≤ (7293034 : Nat); omega) dL_law_961 (fun E hE => False.elim hE) (fun v cs1 hp => ?_)
    rcases hp with ⟨hc2, rfl, rfl⟩ | ⟨hc2, hz2⟩
    · show G 964 [(5, .int 0), (4, .int (nI i)), (3, .ref oa), (2, .ref (am 0)), (1, .ref (ad 0)), (0, .ref b)] [.int (tr + 1)] [xoW ad up 1 (tr + 1), lkW D ad L, alW D e0 (ad 2) hs N, rwW D (ad 3) (ad 10) (ad 11) (ad 12) gf qf.length, rwW D (ad 4) (ad 13) (ad 14) (ad 15) gb qb.length, alW D e0 (ad 5) ht tq.length, dvW da N S om, moW am N tf tt bf bt up 1 (tr + 1) tq.length 0, mlW D am L, mdW D am S, rtW D am tg, rbW D am bg, tdW D am td, [(oa, .inl (D.1 12, 1, .inr (.inl (vp_updL f 0 ((tr + 1).toInt64)))))]] (k + 1) (n + 6)
      refine x_istore B (pc := 964) [(6, .int (tr + 1)), (5, .int 0), (4, .int (nI i)), (3, .ref oa), (2, .ref (am 0)), (1, .ref (ad 0)), (0, .ref b)] dL_law_964 (by decide) rfl ?_
      refine x_aload_n B (pc := 966) 4 dL_law_966 rfl rfl ?_
      refine x_callV B (pc := 967) (As := []) (c_X4_thrown hl D e0 ) xcl_M rfl 0 0 rfl rfl tm716 tm717 tm718 tm7 tm719 md_X4_thrown ⟨Nat.le_of_ble_eq_true rfl, Nat.le_of_ble_eq_true rfl⟩ [7] rfl rfl rfl (Nat.le_of_ble_eq_true rfl) (by show k + 1 ≤ (601024 : Nat); omega) (by show n + 6 ≤ (7293034 : Nat); omega) dL_law_967 (fun E hE => False.elim hE) (fun v cs1 hp => ?_)
      obtain ⟨rfl, rfl⟩ := hp
      show G 970 [(6, .int (tr + 1)), (5, .int 0), (4, .int (nI i)), (3, .ref oa), (2, .ref (am 0)), (1, .ref (ad 0)), (0, .ref b)] [.int 0] [xoW ad up 1 (tr + 1), lkW D ad L, alW D e0 (ad 2) hs N, rwW D (ad 3) (ad 10) (ad 11) (ad 12) gf qf.length, rwW D (ad 4) (ad 13) (ad 14) (ad 15) gb qb.length, alW D e0 (ad 5) ht tq.length, dvW da N S om, moW am N tf tt bf bt up 1 (tr + 1) tq.length 0, mlW D am L, mdW D am S, rtW D am tg, rbW D am bg, tdW D am td, [(oa, .inl (D.1 12, 1, .inr (.inl (vp_updL f 0 ((tr + 1).toInt64)))))]] (k + 1) (n + 6)
      refine x_iload B (pc := 970) 1 dL_law_970 rfl ?_
      refine x_icmp_eq B (pc := 972) 977 dL_law_972 (by decide) (fun h972 => ?_) (fun h972 => absurd (by decide) h972)
      refine x_iload B (pc := 977) 1 dL_law_977 rfl ?_
      refine x_if_ne B (pc := 979) 994 dL_law_979 (by decide) (fun h979 => absurd (by decide) h979) (fun h979 => ?_)
      refine x_aload_n B (pc := 982) 3 dL_law_982 rfl rfl ?_
      refine x_iconst B (pc := 983) 0 dL_law_983 (by decide) ?_
      refine x_val B (y := nI 0) rfl ?_
      refine x_laldN B (pc := 984) 0 13 0 (by decide) (by decide) rfl rfl dL_law_984 ?_
      refine x_iload B (pc := 985) 0 dL_law_985 rfl ?_
      refine x_i2l B (pc := 987) dL_law_987 ?_
      refine x_lcmp B (pc := 988) dL_law_988 ?_
      refine x_val B (y := 0) out_cmp ?_
      refine x_if_eq B (pc := 989) 994 dL_law_989 (by decide) (fun h989 => ?_) (fun h989 => absurd (by decide) h989)
      refine x_goto B (pc := 994) 1137 dL_law_994 (by decide) ?_
      refine x_lv B [2, 3, 4, 5, 6] [(4, .int (nI i)), (3, .ref oa), (2, .ref (am 0)), (1, .ref (ad 0)), (0, .ref b)] rfl ?_
      refine x_wid B (k + 4) (n + 300) (by omega) (by omega) ?_
      exact K da hs ht gf gb om L S N qf qb up 1 (tr + 1) tq tf tt bf bt tg bg td 0 (vp_updL f 0 ((tr + 1).toInt64)) ⟨aInv_more (aInv_begin hI hc) (by omega), ⟨hok, hot, hq, hqb⟩, ⟨hmf, hmb, htd⟩, (by omega), (by omega)⟩
    · exact absurd hc hc2
  · show G 958 [(4, .int (nI i)), (3, .ref oa), (2, .ref (am 0)), (1, .ref (ad 0)), (0, .ref b)] [.int (nI (cod (decide (up = 1) && decide (op = 0)) true true))] [xoW ad up op tr, lkW D ad L, alW D e0 (ad 2) hs N, rwW D (ad 3) (ad 10) (ad 11) (ad 12) gf qf.length, rwW D (ad 4) (ad 13) (ad 14) (ad 15) gb qb.length, alW D e0 (ad 5) ht tq.length, dvW da N S om, moW am N tf tt bf bt up op tr tq.length th, mlW D am L, mdW D am S, rtW D am tg, rbW D am bg, tdW D am td, [(oa, .inl (D.1 12, 1, .inr (.inl f)))]] (k + 1) (n + 6)
    refine x_istore B (pc := 958) [(5, .int (nI (cod (decide (up = 1) && decide (op = 0)) true true))), (4, .int (nI i)), (3, .ref oa), (2, .ref (am 0)), (1, .ref (ad 0)), (0, .ref b)] dL_law_958 (by decide) rfl ?_
    refine x_aload_n B (pc := 960) 3 dL_law_960 rfl rfl ?_
    refine x_callV B (pc := 961) (As := []) (c_X4_begin hl D e0 hup hop) xcl_M rfl 0 0 rfl rfl tm850 tm851 tm852 tm7 tm853 md_X4_begin ⟨Nat.le_of_ble_eq_true rfl, Nat.le_of_ble_eq_true rfl⟩ [7] rfl rfl rfl (Nat.le_of_ble_eq_true rfl) (by show k + 1 ≤ (601024 : Nat); omega) (by show n + 6 ≤ (7293034 : Nat); omega) dL_law_961 (fun E hE => False.elim hE) (fun v cs1 hp => ?_)
    rcases hp with ⟨hc2, hz2⟩ | ⟨hc2, ⟨z9, rfl⟩, rfl⟩
    · exact absurd hc2 hc
    · show G 964 [(5, .int (nI (cod (decide (up = 1) && decide (op = 0)) true true))), (4, .int (nI i)), (3, .ref oa), (2, .ref (am 0)), (1, .ref (ad 0)), (0, .ref b)] [.int z9] [xoW ad up op tr, lkW D ad L, alW D e0 (ad 2) hs N, rwW D (ad 3) (ad 10) (ad 11) (ad 12) gf qf.length, rwW D (ad 4) (ad 13) (ad 14) (ad 15) gb qb.length, alW D e0 (ad 5) ht tq.length, dvW da N S om, moW am N tf tt bf bt up op tr tq.length (nI (cod (decide (up = 1) && decide (op = 0)) true true)), mlW D am L, mdW D am S, rtW D am tg, rbW D am bg, tdW D am td, [(oa, .inl (D.1 12, 1, .inr (.inl f)))]] (k + 1) (n + 6)
      refine x_istore B (pc := 964) [(6, .int z9), (5, .int (nI (cod (decide (up = 1) && decide (op = 0)) true true))), (4, .int (nI i)), (3, .ref oa), (2, .ref (am 0)), (1, .ref (ad 0)), (0, .ref b)] dL_law_964 (by decide) rfl ?_
      refine x_aload_n B (pc := 966) 4 dL_law_966 rfl rfl ?_
      refine x_callV B (pc := 967) (As := []) (c_X4_thrown hl D e0 ) xcl_M rfl 0 0 rfl rfl tm716 tm717 tm718 tm7 tm719 md_X4_thrown ⟨Nat.le_of_ble_eq_true rfl, Nat.le_of_ble_eq_true rfl⟩ [7] rfl rfl rfl (Nat.le_of_ble_eq_true rfl) (by show k + 1 ≤ (601024 : Nat); omega) (by show n + 6 ≤ (7293034 : Nat); omega) dL_law_967 (fun E hE => False.elim hE) (fun v cs1 hp => ?_)
      obtain ⟨rfl, rfl⟩ := hp
      show G 970 [(6, .int z9), (5, .int (nI (cod (decide (up = 1) && decide (op = 0)) true true))), (4, .int (nI i)), (3, .ref oa), (2, .ref (am 0)), (1, .ref (ad 0)), (0, .ref b)] [.int (nI (cod (decide (up = 1) && decide (op = 0)) true true))] [xoW ad up op tr, lkW D ad L, alW D e0 (ad 2) hs N, rwW D (ad 3) (ad 10) (ad 11) (ad 12) gf qf.length, rwW D (ad 4) (ad 13) (ad 14) (ad 15) gb qb.length, alW D e0 (ad 5) ht tq.length, dvW da N S om, moW am N tf tt bf bt up op tr tq.length (nI (cod (decide (up = 1) && decide (op = 0)) true true)), mlW D am L, mdW D am S, rtW D am tg, rbW D am bg, tdW D am td, [(oa, .inl (D.1 12, 1, .inr (.inl f)))]] (k + 1) (n + 6)
      refine x_iload B (pc := 970) 1 dL_law_970 rfl ?_
      refine x_icmp_eq B (pc := 972) 977 dL_law_972 (by decide) (fun h972 => ?_) (fun h972 => absurd rfl h972)
      refine x_iload B (pc := 977) 1 dL_law_977 rfl ?_
      refine x_if_ne B (pc := 979) 994 dL_law_979 (by decide) (fun h979 => ?_) (fun h979 => absurd h979 (cod_nz hc))
      refine x_goto B (pc := 994) 1137 dL_law_994 (by decide) ?_
      refine x_lv B [2, 3, 4, 5, 6] [(4, .int (nI i)), (3, .ref oa), (2, .ref (am 0)), (1, .ref (ad 0)), (0, .ref b)] rfl ?_
      refine x_wid B (k + 4) (n + 300) (by omega) (by omega) ?_
      exact K da hs ht gf gb om L S N qf qb up op tr tq tf tt bf bt tg bg td (nI (cod (decide (up = 1) && decide (op = 0)) true true)) f ⟨aInv_more (hI) (by omega), ⟨hok, hot, hq, hqb⟩, ⟨hmf, hmb, htd⟩, (by omega), (by omega)⟩

set_option maxRecDepth 100000 in
set_option maxHeartbeats 4000000 in
/-- the call tell -/
theorem st_tell {l : Launch} (hl : l.stackTraces = false) (D : va_G) (e0 : Nat) {b Ls : Nat} {xs : Nat → Int32} {G : xGt} {X : xXt} (B0 : xL l D e0 b Ls xs G X) {ad am : Nat → Nat} {oa i t k n : Nat} (hi : i + 3 ≤ Ls) (hLs : Ls ≤ 1536) (ht9 : t < 512) (hk : k ≤ 4000) (hn : n ≤ 300000) (K : lTo G D e0 ad am oa b i (t + 1) (k + 4) (n + 300) 1137) : lTo G D e0 ad am oa b i t k n 997 := by
  intro da hs ht gf gb om L S N qf qb up op tr tq tf tt bf bt tg bg td th f hg
  obtain ⟨hI, ⟨hok, hot, hq, hqb⟩, ⟨hmf, hmb, htd⟩, htt, hbt⟩ := hg
  obtain ⟨hup, hop, hL, hN, hS, hF, hB, hPhi, hlen, hdn⟩ := id hI
  have hT := tq_len hI
  have hin := tq_in hS
  have hin60 : ∀ i, i < tq.length → tq.getD i 0 < 60 := fun i h => Nat.lt_of_lt_of_le (hin i h) hN
  have hl4 : ∀ d, d < N → ∃ j, j < 4 ∧ S 4 d = nI j := fun d hd => (hS.2.1 d hd).1
  have h69 : ∀ d, d < N → ∃ m, m ≤ 4 ∧ S 6 d = nI m := fun d hd => (hS.2.1 d hd).2.1
  have h79 : ∀ d, d < N → S 7 d = 0 ∨ S 7 d = 1 := fun d hd => (hS.2.1 d hd).2.2.1
  have h99 : ∀ d, d < N → S 9 d = 0 ∨ S 9 d = 1 ∨ S 9 d = 2 ∨ S 9 d = 3 ∨ S 9 d = 4 := fun d hd => (hS.2.1 d hd).2.2.2.1
  have hfe := hmf.1
  have hbe := hmb.1
  obtain ⟨hh, B⟩ := B0.base
  show G 997 [(4, .int (nI i)), (3, .ref oa), (2, .ref (am 0)), (1, .ref (ad 0)), (0, .ref b)] [] [xoW ad up op tr, lkW D ad L, alW D e0 (ad 2) hs N, rwW D (ad 3) (ad 10) (ad 11) (ad 12) gf qf.length, rwW D (ad 4) (ad 13) (ad 14) (ad 15) gb qb.length, alW D e0 (ad 5) ht tq.length, dvW da N S om, moW am N tf tt bf bt up op tr tq.length th, mlW D am L, mdW D am S, rtW D am tg, rbW D am bg, tdW D am td, [(oa, .inl (D.1 12, 1, .inr (.inl f)))]] k n
  refine x_aload_n B (pc := 997) 3 dL_law_997 rfl rfl ?_
  refine x_aload_n B (pc := 998) 4 dL_law_998 rfl rfl ?_
  refine x_iload B (pc := 999) 0 dL_law_999 rfl ?_
  refine x_iconst B (pc := 1001) 1 dL_law_1001 (by decide) ?_
  refine x_iadd B (pc := 1002) dL_law_1002 ?_
  refine x_val B (y := nI (i + 1)) (nI_add i 1) ?_
  refine x_sldN B0 (pc := 1003) (d := (i + 1)) (by omega) (by omega) dL_law_1003 ?_
  refine x_aload_n B (pc := 1004) 4 dL_law_1004 rfl rfl ?_
  refine x_iload B (pc := 1005) 0 dL_law_1005 rfl ?_
  refine x_iconst B (pc := 1007) 2 dL_law_1007 (by decide) ?_
  refine x_iadd B (pc := 1008) dL_law_1008 ?_
  refine x_val B (y := nI (i + 2)) (nI_add i 2) ?_
  refine x_sldN B0 (pc := 1009) (d := (i + 2)) (by omega) (by omega) dL_law_1009 ?_
  refine x_aload_n B (pc := 1010) 1 dL_law_1010 rfl rfl ?_
  refine x_callSX B (pc := 1011) (As := [.ref (ad 0), .int (xs (i + 1)), .int (xs (i + 2)), .ref oa]) (c_L_tell hl D e0 hop hok hN hot hT hin) tm605 tm606 tm0 tm607 md_L_tell ⟨Nat.le_of_ble_eq_true rfl, Nat.le_of_ble_eq_true rfl⟩ [0, 2, 5, 6, 13] rfl rfl rfl (Nat.le_of_ble_eq_true rfl) (by show k + 1 ≤ (601024 : Nat); omega) (by show n + 200 ≤ (7293034 : Nat); omega) dL_law_1011 (fun E hE => False.elim hE) (fun v cs1 hp => ?_)
  rcases hp with ⟨hc, rfl, h1, hf0, rfl⟩ | ⟨hc, rfl, rfl⟩
  · show G 1014 [(4, .int (nI i)), (3, .ref oa), (2, .ref (am 0)), (1, .ref (ad 0)), (0, .ref b)] [.int 0] [xoW ad up op tr, lkW D ad L, alW D e0 (ad 2) hs N, rwW D (ad 3) (ad 10) (ad 11) (ad 12) gf qf.length, rwW D (ad 4) (ad 13) (ad 14) (ad 15) gb qb.length, alW D e0 (ad 5) h1 (tq.length + 1), dvW da N (xup S 14 (ix (xs (i + 1))) (xs (i + 2))) om, moW am N tf tt bf bt up op tr tq.length th, mlW D am L, mdW D am S, rtW D am tg, rbW D am bg, tdW D am td, [(oa, .inl (D.1 12, 1, .inr (.inl (vp_updL f 0 ((nI (tq.length + 1)).toInt64)))))]] (k + 1) (n + 200)
    refine x_istore B (pc := 1014) [(5, .int 0), (4, .int (nI i)), (3, .ref oa), (2, .ref (am 0)), (1, .ref (ad 0)), (0, .ref b)] dL_law_1014 (by decide) rfl ?_
    refine x_aload_n B (pc := 1016) 3 dL_law_1016 rfl rfl ?_
    refine x_aload_n B (pc := 1017) 5 dL_law_1017 rfl rfl ?_
    refine x_iload B (pc := 1018) 1 dL_law_1018 rfl ?_
    refine x_iconst B (pc := 1020) 1 dL_law_1020 (by decide) ?_
    refine x_iadd B (pc := 1021) dL_law_1021 ?_
    refine x_val B (y := nI (i + 1)) (nI_add i 1) ?_
    refine x_sldN B0 (pc := 1022) (d := (i + 1)) (by omega) (by omega) dL_law_1022 ?_
    refine x_aload_n B (pc := 1023) 5 dL_law_1023 rfl rfl ?_
    refine x_iload B (pc := 1024) 1 dL_law_1024 rfl ?_
    refine x_iconst B (pc := 1026) 2 dL_law_1026 (by decide) ?_
    refine x_iadd B (pc := 1027) dL_law_1027 ?_
    refine x_val B (y := nI (i + 2)) (nI_add i 2) ?_
    refine x_sldN B0 (pc := 1028) (d := (i + 2)) (by omega) (by omega) dL_law_1028 ?_
    refine x_callV B (pc := 1029) (As := [.int (xs (i + 1)), .int (xs (i + 2))]) (c_X4_tell hl D e0 (tn := 0) hop hN (fun hc9 => by have h9 := tq_len (aInv_tell hI hc9); rw [List.length_append] at h9; exact h9) htd) xcl_M rfl 0 0 rfl rfl tm854 tm855 tm856 tm7 tm857 md_X4_tell ⟨Nat.le_of_ble_eq_true rfl, Nat.le_of_ble_eq_true rfl⟩ [7, 9, 12] rfl rfl rfl (Nat.le_of_ble_eq_true rfl) (by show k + 1 ≤ (601024 : Nat); omega) (by show n + 200 ≤ (7293034 : Nat); omega) dL_law_1029 (fun E hE => False.elim hE) (fun v cs1 hp => ?_)
    rcases hp with ⟨hc2, rfl, td1, mf0, rfl⟩ | ⟨hc2, hz2⟩
    · show G 1032 [(5, .int 0), (4, .int (nI i)), (3, .ref oa), (2, .ref (am 0)), (1, .ref (ad 0)), (0, .ref b)] [.int (nI (tq.length + 1))] [xoW ad up op tr, lkW D ad L, alW D e0 (ad 2) hs N, rwW D (ad 3) (ad 10) (ad 11) (ad 12) gf qf.length, rwW D (ad 4) (ad 13) (ad 14) (ad 15) gb qb.length, alW D e0 (ad 5) h1 (tq.length + 1), dvW da N (xup S 14 (ix (xs (i + 1))) (xs (i + 2))) om, moW am N tf tt bf bt up op tr (tq.length + 1) 0, mlW D am L, mdW D am (xup S 14 (ix (xs (i + 1))) (xs (i + 2))), rtW D am tg, rbW D am bg, tdW D am td1, [(oa, .inl (D.1 12, 1, .inr (.inl (vp_updL f 0 ((nI (tq.length + 1)).toInt64)))))]] (k + 1) (n + 200)
      refine x_istore B (pc := 1032) [(6, .int (nI (tq.length + 1))), (5, .int 0), (4, .int (nI i)), (3, .ref oa), (2, .ref (am 0)), (1, .ref (ad 0)), (0, .ref b)] dL_law_1032 (by decide) rfl ?_
      refine x_aload_n B (pc := 1034) 4 dL_law_1034 rfl rfl ?_
      refine x_callV B (pc := 1035) (As := []) (c_X4_thrown hl D e0 ) xcl_M rfl 0 0 rfl rfl tm716 tm717 tm718 tm7 tm719 md_X4_thrown ⟨Nat.le_of_ble_eq_true rfl, Nat.le_of_ble_eq_true rfl⟩ [7] rfl rfl rfl (Nat.le_of_ble_eq_true rfl) (by show k + 1 ≤ (601024 : Nat); omega) (by show n + 200 ≤ (7293034 : Nat); omega) dL_law_1035 (fun E hE => False.elim hE) (fun v cs1 hp => ?_)
      obtain ⟨rfl, rfl⟩ := hp
      show G 1038 [(6, .int (nI (tq.length + 1))), (5, .int 0), (4, .int (nI i)), (3, .ref oa), (2, .ref (am 0)), (1, .ref (ad 0)), (0, .ref b)] [.int 0] [xoW ad up op tr, lkW D ad L, alW D e0 (ad 2) hs N, rwW D (ad 3) (ad 10) (ad 11) (ad 12) gf qf.length, rwW D (ad 4) (ad 13) (ad 14) (ad 15) gb qb.length, alW D e0 (ad 5) h1 (tq.length + 1), dvW da N (xup S 14 (ix (xs (i + 1))) (xs (i + 2))) om, moW am N tf tt bf bt up op tr (tq.length + 1) 0, mlW D am L, mdW D am (xup S 14 (ix (xs (i + 1))) (xs (i + 2))), rtW D am tg, rbW D am bg, tdW D am td1, [(oa, .inl (D.1 12, 1, .inr (.inl (vp_updL f 0 ((nI (tq.length + 1)).toInt64)))))]] (k + 1) (n + 200)
      refine x_iload B (pc := 1038) 1 dL_law_1038 rfl ?_
      refine x_icmp_eq B (pc := 1040) 1045 dL_law_1040 (by decide) (fun h1040 => ?_) (fun h1040 => absurd (by decide) h1040)
      refine x_iload B (pc := 1045) 1 dL_law_1045 rfl ?_
      refine x_if_ne B (pc := 1047) 1062 dL_law_1047 (by decide) (fun h1047 => absurd (by decide) h1047) (fun h1047 => ?_)
      refine x_aload_n B (pc := 1050) 3 dL_law_1050 rfl rfl ?_
      refine x_iconst B (pc := 1051) 0 dL_law_1051 (by decide) ?_
      refine x_val B (y := nI 0) rfl ?_
      refine x_laldN B (pc := 1052) 0 13 0 (by decide) (by decide) rfl rfl dL_law_1052 ?_
      refine x_iload B (pc := 1053) 0 dL_law_1053 rfl ?_
      refine x_i2l B (pc := 1055) dL_law_1055 ?_
      refine x_lcmp B (pc := 1056) dL_law_1056 ?_
      refine x_val B (y := 0) out_cmp ?_
      refine x_if_eq B (pc := 1057) 1062 dL_law_1057 (by decide) (fun h1057 => ?_) (fun h1057 => absurd (by decide) h1057)
      refine x_goto B (pc := 1062) 1137 dL_law_1062 (by decide) ?_
      refine x_lv B [2, 3, 4, 5, 6] [(4, .int (nI i)), (3, .ref oa), (2, .ref (am 0)), (1, .ref (ad 0)), (0, .ref b)] rfl ?_
      rw [show tq.length + 1 = (tq ++ [ix (xs (i + 1))]).length from by rw [List.length_append]; rfl]
      refine x_wid B (k + 4) (n + 300) (by omega) (by omega) ?_
      exact K da hs h1 gf gb om L (xup S 14 (ix (xs (i + 1))) (xs (i + 2))) N qf qb up op tr (tq ++ [ix (xs (i + 1))]) tf tt bf bt tg bg td1 0 (vp_updL f 0 ((nI (tq ++ [ix (xs (i + 1))]).length).toInt64)) ⟨aInv_more (aInv_tell hI hc) (by omega), ⟨hok, by rw [List.length_append]; exact hf0, hq, hqb⟩, ⟨hmf, hmb, mf0⟩, (by omega), (by omega)⟩
    · exact absurd hc hc2
  · show G 1014 [(4, .int (nI i)), (3, .ref oa), (2, .ref (am 0)), (1, .ref (ad 0)), (0, .ref b)] [.int (nI (cod (xinD N (xs (i + 1))) (xinB 0 2 (xs (i + 2))) (decide (op = 1) && (decide (S 9 (ix (xs (i + 1))) = 2) && decide (S 14 (ix (xs (i + 1))) = -1)))))] [xoW ad up op tr, lkW D ad L, alW D e0 (ad 2) hs N, rwW D (ad 3) (ad 10) (ad 11) (ad 12) gf qf.length, rwW D (ad 4) (ad 13) (ad 14) (ad 15) gb qb.length, alW D e0 (ad 5) ht tq.length, dvW da N S om, moW am N tf tt bf bt up op tr tq.length th, mlW D am L, mdW D am S, rtW D am tg, rbW D am bg, tdW D am td, [(oa, .inl (D.1 12, 1, .inr (.inl f)))]] (k + 1) (n + 200)
    refine x_istore B (pc := 1014) [(5, .int (nI (cod (xinD N (xs (i + 1))) (xinB 0 2 (xs (i + 2))) (decide (op = 1) && (decide (S 9 (ix (xs (i + 1))) = 2) && decide (S 14 (ix (xs (i + 1))) = -1)))))), (4, .int (nI i)), (3, .ref oa), (2, .ref (am 0)), (1, .ref (ad 0)), (0, .ref b)] dL_law_1014 (by decide) rfl ?_
    refine x_aload_n B (pc := 1016) 3 dL_law_1016 rfl rfl ?_
    refine x_aload_n B (pc := 1017) 5 dL_law_1017 rfl rfl ?_
    refine x_iload B (pc := 1018) 1 dL_law_1018 rfl ?_
    refine x_iconst B (pc := 1020) 1 dL_law_1020 (by decide) ?_
    refine x_iadd B (pc := 1021) dL_law_1021 ?_
    refine x_val B (y := nI (i + 1)) (nI_add i 1) ?_
    refine x_sldN B0 (pc := 1022) (d := (i + 1)) (by omega) (by omega) dL_law_1022 ?_
    refine x_aload_n B (pc := 1023) 5 dL_law_1023 rfl rfl ?_
    refine x_iload B (pc := 1024) 1 dL_law_1024 rfl ?_
    refine x_iconst B (pc := 1026) 2 dL_law_1026 (by decide) ?_
    refine x_iadd B (pc := 1027) dL_law_1027 ?_
    refine x_val B (y := nI (i + 2)) (nI_add i 2) ?_
    refine x_sldN B0 (pc := 1028) (d := (i + 2)) (by omega) (by omega) dL_law_1028 ?_
    refine x_callV B (pc := 1029) (As := [.int (xs (i + 1)), .int (xs (i + 2))]) (c_X4_tell hl D e0 (tn := 0) hop hN (fun hc9 => by have h9 := tq_len (aInv_tell hI hc9); rw [List.length_append] at h9; exact h9) htd) xcl_M rfl 0 0 rfl rfl tm854 tm855 tm856 tm7 tm857 md_X4_tell ⟨Nat.le_of_ble_eq_true rfl, Nat.le_of_ble_eq_true rfl⟩ [7, 9, 12] rfl rfl rfl (Nat.le_of_ble_eq_true rfl) (by show k + 1 ≤ (601024 : Nat); omega) (by show n + 200 ≤ (7293034 : Nat); omega) dL_law_1029 (fun E hE => False.elim hE) (fun v cs1 hp => ?_)
    rcases hp with ⟨hc2, hz2⟩ | ⟨hc2, ⟨z9, rfl⟩, rfl⟩
    · exact absurd hc2 hc
    · show G 1032 [(5, .int (nI (cod (xinD N (xs (i + 1))) (xinB 0 2 (xs (i + 2))) (decide (op = 1) && (decide (S 9 (ix (xs (i + 1))) = 2) && decide (S 14 (ix (xs (i + 1))) = -1)))))), (4, .int (nI i)), (3, .ref oa), (2, .ref (am 0)), (1, .ref (ad 0)), (0, .ref b)] [.int z9] [xoW ad up op tr, lkW D ad L, alW D e0 (ad 2) hs N, rwW D (ad 3) (ad 10) (ad 11) (ad 12) gf qf.length, rwW D (ad 4) (ad 13) (ad 14) (ad 15) gb qb.length, alW D e0 (ad 5) ht tq.length, dvW da N S om, moW am N tf tt bf bt up op tr tq.length (nI (cod (xinD N (xs (i + 1))) (xinB 0 2 (xs (i + 2))) (decide (op = 1) && (decide (S 9 (ix (xs (i + 1))) = 2) && decide (S 14 (ix (xs (i + 1))) = -1))))), mlW D am L, mdW D am S, rtW D am tg, rbW D am bg, tdW D am td, [(oa, .inl (D.1 12, 1, .inr (.inl f)))]] (k + 1) (n + 200)
      refine x_istore B (pc := 1032) [(6, .int z9), (5, .int (nI (cod (xinD N (xs (i + 1))) (xinB 0 2 (xs (i + 2))) (decide (op = 1) && (decide (S 9 (ix (xs (i + 1))) = 2) && decide (S 14 (ix (xs (i + 1))) = -1)))))), (4, .int (nI i)), (3, .ref oa), (2, .ref (am 0)), (1, .ref (ad 0)), (0, .ref b)] dL_law_1032 (by decide) rfl ?_
      refine x_aload_n B (pc := 1034) 4 dL_law_1034 rfl rfl ?_
      refine x_callV B (pc := 1035) (As := []) (c_X4_thrown hl D e0 ) xcl_M rfl 0 0 rfl rfl tm716 tm717 tm718 tm7 tm719 md_X4_thrown ⟨Nat.le_of_ble_eq_true rfl, Nat.le_of_ble_eq_true rfl⟩ [7] rfl rfl rfl (Nat.le_of_ble_eq_true rfl) (by show k + 1 ≤ (601024 : Nat); omega) (by show n + 200 ≤ (7293034 : Nat); omega) dL_law_1035 (fun E hE => False.elim hE) (fun v cs1 hp => ?_)
      obtain ⟨rfl, rfl⟩ := hp
      show G 1038 [(6, .int z9), (5, .int (nI (cod (xinD N (xs (i + 1))) (xinB 0 2 (xs (i + 2))) (decide (op = 1) && (decide (S 9 (ix (xs (i + 1))) = 2) && decide (S 14 (ix (xs (i + 1))) = -1)))))), (4, .int (nI i)), (3, .ref oa), (2, .ref (am 0)), (1, .ref (ad 0)), (0, .ref b)] [.int (nI (cod (xinD N (xs (i + 1))) (xinB 0 2 (xs (i + 2))) (decide (op = 1) && (decide (S 9 (ix (xs (i + 1))) = 2) && decide (S 14 (ix (xs (i + 1))) = -1)))))] [xoW ad up op tr, lkW D ad L, alW D e0 (ad 2) hs N, rwW D (ad 3) (ad 10) (ad 11) (ad 12) gf qf.length, rwW D (ad 4) (ad 13) (ad 14) (ad 15) gb qb.length, alW D e0 (ad 5) ht tq.length, dvW da N S om, moW am N tf tt bf bt up op tr tq.length (nI (cod (xinD N (xs (i + 1))) (xinB 0 2 (xs (i + 2))) (decide (op = 1) && (decide (S 9 (ix (xs (i + 1))) = 2) && decide (S 14 (ix (xs (i + 1))) = -1))))), mlW D am L, mdW D am S, rtW D am tg, rbW D am bg, tdW D am td, [(oa, .inl (D.1 12, 1, .inr (.inl f)))]] (k + 1) (n + 200)
      refine x_iload B (pc := 1038) 1 dL_law_1038 rfl ?_
      refine x_icmp_eq B (pc := 1040) 1045 dL_law_1040 (by decide) (fun h1040 => ?_) (fun h1040 => absurd rfl h1040)
      refine x_iload B (pc := 1045) 1 dL_law_1045 rfl ?_
      refine x_if_ne B (pc := 1047) 1062 dL_law_1047 (by decide) (fun h1047 => ?_) (fun h1047 => absurd h1047 (cod_nz hc))
      refine x_goto B (pc := 1062) 1137 dL_law_1062 (by decide) ?_
      refine x_lv B [2, 3, 4, 5, 6] [(4, .int (nI i)), (3, .ref oa), (2, .ref (am 0)), (1, .ref (ad 0)), (0, .ref b)] rfl ?_
      refine x_wid B (k + 4) (n + 300) (by omega) (by omega) ?_
      exact K da hs ht gf gb om L S N qf qb up op tr tq tf tt bf bt tg bg td (nI (cod (xinD N (xs (i + 1))) (xinB 0 2 (xs (i + 2))) (decide (op = 1) && (decide (S 9 (ix (xs (i + 1))) = 2) && decide (S 14 (ix (xs (i + 1))) = -1))))) f ⟨aInv_more (hI) (by omega), ⟨hok, hot, hq, hqb⟩, ⟨hmf, hmb, htd⟩, (by omega), (by omega)⟩

set_option maxRecDepth 100000 in
set_option maxHeartbeats 4000000 in
/-- the call end -/
theorem st_end {l : Launch} (hl : l.stackTraces = false) (D : va_G) (e0 : Nat) {b Ls : Nat} {xs : Nat → Int32} {G : xGt} {X : xXt} (B0 : xL l D e0 b Ls xs G X) {ad am : Nat → Nat} {oa i t k n : Nat} (hi : i + 3 ≤ Ls) (hLs : Ls ≤ 1536) (ht9 : t < 512) (hk : k ≤ 4000) (hn : n ≤ 300000) (K : lTo G D e0 ad am oa b i (t + 1) (k + 4) (n + 300) 1137) : lTo G D e0 ad am oa b i t k n 1065 := by
  intro da hs ht gf gb om L S N qf qb up op tr tq tf tt bf bt tg bg td th f hg
  obtain ⟨hI, ⟨hok, hot, hq, hqb⟩, ⟨hmf, hmb, htd⟩, htt, hbt⟩ := hg
  obtain ⟨hup, hop, hL, hN, hS, hF, hB, hPhi, hlen, hdn⟩ := id hI
  have hT := tq_len hI
  have hin := tq_in hS
  have hin60 : ∀ i, i < tq.length → tq.getD i 0 < 60 := fun i h => Nat.lt_of_lt_of_le (hin i h) hN
  have hl4 : ∀ d, d < N → ∃ j, j < 4 ∧ S 4 d = nI j := fun d hd => (hS.2.1 d hd).1
  have h69 : ∀ d, d < N → ∃ m, m ≤ 4 ∧ S 6 d = nI m := fun d hd => (hS.2.1 d hd).2.1
  have h79 : ∀ d, d < N → S 7 d = 0 ∨ S 7 d = 1 := fun d hd => (hS.2.1 d hd).2.2.1
  have h99 : ∀ d, d < N → S 9 d = 0 ∨ S 9 d = 1 ∨ S 9 d = 2 ∨ S 9 d = 3 ∨ S 9 d = 4 := fun d hd => (hS.2.1 d hd).2.2.2.1
  have hfe := hmf.1
  have hbe := hmb.1
  obtain ⟨hh, B⟩ := B0.base
  show G 1065 [(4, .int (nI i)), (3, .ref oa), (2, .ref (am 0)), (1, .ref (ad 0)), (0, .ref b)] [] [xoW ad up op tr, lkW D ad L, alW D e0 (ad 2) hs N, rwW D (ad 3) (ad 10) (ad 11) (ad 12) gf qf.length, rwW D (ad 4) (ad 13) (ad 14) (ad 15) gb qb.length, alW D e0 (ad 5) ht tq.length, dvW da N S om, moW am N tf tt bf bt up op tr tq.length th, mlW D am L, mdW D am S, rtW D am tg, rbW D am bg, tdW D am td, [(oa, .inl (D.1 12, 1, .inr (.inl f)))]] k n
  refine x_aload_n B (pc := 1065) 3 dL_law_1065 rfl rfl ?_
  refine x_aload_n B (pc := 1066) 4 dL_law_1066 rfl rfl ?_
  refine x_iload B (pc := 1067) 0 dL_law_1067 rfl ?_
  refine x_iconst B (pc := 1069) 1 dL_law_1069 (by decide) ?_
  refine x_iadd B (pc := 1070) dL_law_1070 ?_
  refine x_val B (y := nI (i + 1)) (nI_add i 1) ?_
  refine x_sldN B0 (pc := 1071) (d := (i + 1)) (by omega) (by omega) dL_law_1071 ?_
  refine x_if_eq B (pc := 1072) 1079 dL_law_1072 (by decide) (fun h9 => ?_) (fun h9 => ?_)
  · skip
    refine x_iconst B (pc := 1079) 0 dL_law_1079 (by decide) ?_
    refine x_aload_n B (pc := 1080) 1 dL_law_1080 rfl rfl ?_
    refine x_callSX B (pc := 1081) (As := [.ref (ad 0), .int 0, .ref oa]) (c_L_end hl D e0 hop hot hT hin hqb (by omega) (tq_w hS)) tm617 tm618 tm0 tm619 md_L_end ⟨Nat.le_of_ble_eq_true rfl, Nat.le_of_ble_eq_true rfl⟩ [0, 4, 5, 6, 13] rfl rfl rfl (Nat.le_of_ble_eq_true rfl) (by show k + 1 ≤ (601024 : Nat); omega) (by show n + 6 ≤ (7293034 : Nat); omega) dL_law_1081 (fun E hE => False.elim hE) (fun v cs1 hp => ?_)
    rcases hp with ⟨hc, rfl, h1, g1, hf0, hf1, rfl⟩ | ⟨hc, rfl, rfl⟩
    · show G 1084 [(4, .int (nI i)), (3, .ref oa), (2, .ref (am 0)), (1, .ref (ad 0)), (0, .ref b)] [.int 0] [xoW ad up 0 tr, lkW D ad L, alW D e0 (ad 2) hs N, rwW D (ad 3) (ad 10) (ad 11) (ad 12) gf qf.length, rwW D (ad 4) (ad 13) (ad 14) (ad 15) g1 ((eQ S qb tq 0).length), alW D e0 (ad 5) h1 0, dvW da N (eS S tq 0) (eM S om tq 0), moW am N tf tt bf bt up op tr tq.length th, mlW D am L, mdW D am S, rtW D am tg, rbW D am bg, tdW D am td, [(oa, .inl (D.1 12, 1, .inr (.inl (vp_updL f 0 ((eR tq 0).toInt64)))))]] (k + 1) (n + 6)
      refine x_istore B (pc := 1084) [(5, .int 0), (4, .int (nI i)), (3, .ref oa), (2, .ref (am 0)), (1, .ref (ad 0)), (0, .ref b)] dL_law_1084 (by decide) rfl ?_
      refine x_aload_n B (pc := 1086) 3 dL_law_1086 rfl rfl ?_
      refine x_aload_n B (pc := 1087) 5 dL_law_1087 rfl rfl ?_
      refine x_iload B (pc := 1088) 1 dL_law_1088 rfl ?_
      refine x_iconst B (pc := 1090) 1 dL_law_1090 (by decide) ?_
      refine x_iadd B (pc := 1091) dL_law_1091 ?_
      refine x_val B (y := nI (i + 1)) (nI_add i 1) ?_
      refine x_sldN B0 (pc := 1092) (d := (i + 1)) (by omega) (by omega) dL_law_1092 ?_
      refine x_if_eq B (pc := 1093) 1100 dL_law_1093 (by decide) (fun h10 => ?_) (fun h10 => absurd h9 h10)
      refine x_iconst B (pc := 1100) 0 dL_law_1100 (by decide) ?_
      refine x_callV B (pc := 1101) (As := [.int 0]) (c_X4_end hl D e0 (tn := 0) hop hT hin60 htd hmb (by omega) (by omega) (tq_w hS)) xcl_M rfl 0 0 rfl rfl tm858 tm859 tm860 tm7 tm861 md_X4_end ⟨Nat.le_of_ble_eq_true rfl, Nat.le_of_ble_eq_true rfl⟩ [7, 9, 11, 12] rfl rfl rfl (Nat.le_of_ble_eq_true rfl) (by show k + 1 ≤ (601024 : Nat); omega) (by show n + 6 ≤ (7293034 : Nat); omega) dL_law_1101 (fun E hE => False.elim hE) (fun v cs1 hp => ?_)
      rcases hp with ⟨hc2, rfl, bt1, bg1, mf0, mf1, rfl⟩ | ⟨hc2, hz2⟩
      · show G 1104 [(5, .int 0), (4, .int (nI i)), (3, .ref oa), (2, .ref (am 0)), (1, .ref (ad 0)), (0, .ref b)] [.int (eR tq 0)] [xoW ad up 0 tr, lkW D ad L, alW D e0 (ad 2) hs N, rwW D (ad 3) (ad 10) (ad 11) (ad 12) gf qf.length, rwW D (ad 4) (ad 13) (ad 14) (ad 15) g1 ((eQ S qb tq 0).length), alW D e0 (ad 5) h1 0, dvW da N (eS S tq 0) (eM S om tq 0), moW am N tf tt bf bt1 up 0 tr 0 0, mlW D am L, mdW D am (eS S tq 0), rtW D am tg, rbW D am bg1, tdW D am td, [(oa, .inl (D.1 12, 1, .inr (.inl (vp_updL f 0 ((eR tq 0).toInt64)))))]] (k + 1) (n + 6)
        refine x_istore B (pc := 1104) [(6, .int (eR tq 0)), (5, .int 0), (4, .int (nI i)), (3, .ref oa), (2, .ref (am 0)), (1, .ref (ad 0)), (0, .ref b)] dL_law_1104 (by decide) rfl ?_
        refine x_aload_n B (pc := 1106) 4 dL_law_1106 rfl rfl ?_
        refine x_callV B (pc := 1107) (As := []) (c_X4_thrown hl D e0 ) xcl_M rfl 0 0 rfl rfl tm716 tm717 tm718 tm7 tm719 md_X4_thrown ⟨Nat.le_of_ble_eq_true rfl, Nat.le_of_ble_eq_true rfl⟩ [7] rfl rfl rfl (Nat.le_of_ble_eq_true rfl) (by show k + 1 ≤ (601024 : Nat); omega) (by show n + 6 ≤ (7293034 : Nat); omega) dL_law_1107 (fun E hE => False.elim hE) (fun v cs1 hp => ?_)
        obtain ⟨rfl, rfl⟩ := hp
        show G 1110 [(6, .int (eR tq 0)), (5, .int 0), (4, .int (nI i)), (3, .ref oa), (2, .ref (am 0)), (1, .ref (ad 0)), (0, .ref b)] [.int 0] [xoW ad up 0 tr, lkW D ad L, alW D e0 (ad 2) hs N, rwW D (ad 3) (ad 10) (ad 11) (ad 12) gf qf.length, rwW D (ad 4) (ad 13) (ad 14) (ad 15) g1 ((eQ S qb tq 0).length), alW D e0 (ad 5) h1 0, dvW da N (eS S tq 0) (eM S om tq 0), moW am N tf tt bf bt1 up 0 tr 0 0, mlW D am L, mdW D am (eS S tq 0), rtW D am tg, rbW D am bg1, tdW D am td, [(oa, .inl (D.1 12, 1, .inr (.inl (vp_updL f 0 ((eR tq 0).toInt64)))))]] (k + 1) (n + 6)
        refine x_iload B (pc := 1110) 1 dL_law_1110 rfl ?_
        refine x_icmp_eq B (pc := 1112) 1117 dL_law_1112 (by decide) (fun h1112 => ?_) (fun h1112 => absurd (by decide) h1112)
        refine x_iload B (pc := 1117) 1 dL_law_1117 rfl ?_
        refine x_if_ne B (pc := 1119) 1134 dL_law_1119 (by decide) (fun h1119 => absurd (by decide) h1119) (fun h1119 => ?_)
        refine x_aload_n B (pc := 1122) 3 dL_law_1122 rfl rfl ?_
        refine x_iconst B (pc := 1123) 0 dL_law_1123 (by decide) ?_
        refine x_val B (y := nI 0) rfl ?_
        refine x_laldN B (pc := 1124) 0 13 0 (by decide) (by decide) rfl rfl dL_law_1124 ?_
        refine x_iload B (pc := 1125) 0 dL_law_1125 rfl ?_
        refine x_i2l B (pc := 1127) dL_law_1127 ?_
        refine x_lcmp B (pc := 1128) dL_law_1128 ?_
        refine x_val B (y := 0) out_cmp ?_
        refine x_if_eq B (pc := 1129) 1134 dL_law_1129 (by decide) (fun h1129 => ?_) (fun h1129 => absurd (by decide) h1129)
        refine x_goto B (pc := 1134) 1137 dL_law_1134 (by decide) ?_
        refine x_lv B [2, 3, 4, 5, 6] [(4, .int (nI i)), (3, .ref oa), (2, .ref (am 0)), (1, .ref (ad 0)), (0, .ref b)] rfl ?_
        refine x_wid B (k + 4) (n + 300) (by omega) (by omega) ?_
        exact K da hs h1 gf g1 (eM S om tq 0) L (eS S tq 0) N qf (eQ S qb tq 0) up 0 tr ([]) tf tt bf bt1 tg bg1 td 0 (vp_updL f 0 ((eR tq 0).toInt64)) ⟨aInv_more (aInv_end hI hc) (by omega), ⟨hok, hf0 _, hq, hf1⟩, ⟨hmf, mf1, (fun i hi => absurd hi (Nat.not_lt_zero i))⟩, (by omega), (by omega)⟩
      · exact absurd hc hc2
    · show G 1084 [(4, .int (nI i)), (3, .ref oa), (2, .ref (am 0)), (1, .ref (ad 0)), (0, .ref b)] [.int (nI (cod (decide (op = 1)) true true))] [xoW ad up op tr, lkW D ad L, alW D e0 (ad 2) hs N, rwW D (ad 3) (ad 10) (ad 11) (ad 12) gf qf.length, rwW D (ad 4) (ad 13) (ad 14) (ad 15) gb qb.length, alW D e0 (ad 5) ht tq.length, dvW da N S om, moW am N tf tt bf bt up op tr tq.length th, mlW D am L, mdW D am S, rtW D am tg, rbW D am bg, tdW D am td, [(oa, .inl (D.1 12, 1, .inr (.inl f)))]] (k + 1) (n + 6)
      refine x_istore B (pc := 1084) [(5, .int (nI (cod (decide (op = 1)) true true))), (4, .int (nI i)), (3, .ref oa), (2, .ref (am 0)), (1, .ref (ad 0)), (0, .ref b)] dL_law_1084 (by decide) rfl ?_
      refine x_aload_n B (pc := 1086) 3 dL_law_1086 rfl rfl ?_
      refine x_aload_n B (pc := 1087) 5 dL_law_1087 rfl rfl ?_
      refine x_iload B (pc := 1088) 1 dL_law_1088 rfl ?_
      refine x_iconst B (pc := 1090) 1 dL_law_1090 (by decide) ?_
      refine x_iadd B (pc := 1091) dL_law_1091 ?_
      refine x_val B (y := nI (i + 1)) (nI_add i 1) ?_
      refine x_sldN B0 (pc := 1092) (d := (i + 1)) (by omega) (by omega) dL_law_1092 ?_
      refine x_if_eq B (pc := 1093) 1100 dL_law_1093 (by decide) (fun h10 => ?_) (fun h10 => absurd h9 h10)
      refine x_iconst B (pc := 1100) 0 dL_law_1100 (by decide) ?_
      refine x_callV B (pc := 1101) (As := [.int 0]) (c_X4_end hl D e0 (tn := 0) hop hT hin60 htd hmb (by omega) (by omega) (tq_w hS)) xcl_M rfl 0 0 rfl rfl tm858 tm859 tm860 tm7 tm861 md_X4_end ⟨Nat.le_of_ble_eq_true rfl, Nat.le_of_ble_eq_true rfl⟩ [7, 9, 11, 12] rfl rfl rfl (Nat.le_of_ble_eq_true rfl) (by show k + 1 ≤ (601024 : Nat); omega) (by show n + 6 ≤ (7293034 : Nat); omega) dL_law_1101 (fun E hE => False.elim hE) (fun v cs1 hp => ?_)
      rcases hp with ⟨hc2, hz2⟩ | ⟨hc2, ⟨z9, rfl⟩, rfl⟩
      · exact absurd hc2 hc
      · show G 1104 [(5, .int (nI (cod (decide (op = 1)) true true))), (4, .int (nI i)), (3, .ref oa), (2, .ref (am 0)), (1, .ref (ad 0)), (0, .ref b)] [.int z9] [xoW ad up op tr, lkW D ad L, alW D e0 (ad 2) hs N, rwW D (ad 3) (ad 10) (ad 11) (ad 12) gf qf.length, rwW D (ad 4) (ad 13) (ad 14) (ad 15) gb qb.length, alW D e0 (ad 5) ht tq.length, dvW da N S om, moW am N tf tt bf bt up op tr tq.length (nI (cod (decide (op = 1)) true true)), mlW D am L, mdW D am S, rtW D am tg, rbW D am bg, tdW D am td, [(oa, .inl (D.1 12, 1, .inr (.inl f)))]] (k + 1) (n + 6)
        refine x_istore B (pc := 1104) [(6, .int z9), (5, .int (nI (cod (decide (op = 1)) true true))), (4, .int (nI i)), (3, .ref oa), (2, .ref (am 0)), (1, .ref (ad 0)), (0, .ref b)] dL_law_1104 (by decide) rfl ?_
        refine x_aload_n B (pc := 1106) 4 dL_law_1106 rfl rfl ?_
        refine x_callV B (pc := 1107) (As := []) (c_X4_thrown hl D e0 ) xcl_M rfl 0 0 rfl rfl tm716 tm717 tm718 tm7 tm719 md_X4_thrown ⟨Nat.le_of_ble_eq_true rfl, Nat.le_of_ble_eq_true rfl⟩ [7] rfl rfl rfl (Nat.le_of_ble_eq_true rfl) (by show k + 1 ≤ (601024 : Nat); omega) (by show n + 6 ≤ (7293034 : Nat); omega) dL_law_1107 (fun E hE => False.elim hE) (fun v cs1 hp => ?_)
        obtain ⟨rfl, rfl⟩ := hp
        show G 1110 [(6, .int z9), (5, .int (nI (cod (decide (op = 1)) true true))), (4, .int (nI i)), (3, .ref oa), (2, .ref (am 0)), (1, .ref (ad 0)), (0, .ref b)] [.int (nI (cod (decide (op = 1)) true true))] [xoW ad up op tr, lkW D ad L, alW D e0 (ad 2) hs N, rwW D (ad 3) (ad 10) (ad 11) (ad 12) gf qf.length, rwW D (ad 4) (ad 13) (ad 14) (ad 15) gb qb.length, alW D e0 (ad 5) ht tq.length, dvW da N S om, moW am N tf tt bf bt up op tr tq.length (nI (cod (decide (op = 1)) true true)), mlW D am L, mdW D am S, rtW D am tg, rbW D am bg, tdW D am td, [(oa, .inl (D.1 12, 1, .inr (.inl f)))]] (k + 1) (n + 6)
        refine x_iload B (pc := 1110) 1 dL_law_1110 rfl ?_
        refine x_icmp_eq B (pc := 1112) 1117 dL_law_1112 (by decide) (fun h1112 => ?_) (fun h1112 => absurd rfl h1112)
        refine x_iload B (pc := 1117) 1 dL_law_1117 rfl ?_
        refine x_if_ne B (pc := 1119) 1134 dL_law_1119 (by decide) (fun h1119 => ?_) (fun h1119 => absurd h1119 (cod_nz hc))
        refine x_goto B (pc := 1134) 1137 dL_law_1134 (by decide) ?_
        refine x_lv B [2, 3, 4, 5, 6] [(4, .int (nI i)), (3, .ref oa), (2, .ref (am 0)), (1, .ref (ad 0)), (0, .ref b)] rfl ?_
        refine x_wid B (k + 4) (n + 300) (by omega) (by omega) ?_
        exact K da hs ht gf gb om L S N qf qb up op tr tq tf tt bf bt tg bg td (nI (cod (decide (op = 1)) true true)) f ⟨aInv_more (hI) (by omega), ⟨hok, hot, hq, hqb⟩, ⟨hmf, hmb, htd⟩, (by omega), (by omega)⟩
  · skip
    refine x_iconst B (pc := 1075) 1 dL_law_1075 (by decide) ?_
    refine x_goto B (pc := 1076) 1080 dL_law_1076 (by decide) ?_
    refine x_aload_n B (pc := 1080) 1 dL_law_1080 rfl rfl ?_
    refine x_callSX B (pc := 1081) (As := [.ref (ad 0), .int 1, .ref oa]) (c_L_end hl D e0 hop hot hT hin hqb (by omega) (tq_w hS)) tm617 tm618 tm0 tm619 md_L_end ⟨Nat.le_of_ble_eq_true rfl, Nat.le_of_ble_eq_true rfl⟩ [0, 4, 5, 6, 13] rfl rfl rfl (Nat.le_of_ble_eq_true rfl) (by show k + 1 ≤ (601024 : Nat); omega) (by show n + 6 ≤ (7293034 : Nat); omega) dL_law_1081 (fun E hE => False.elim hE) (fun v cs1 hp => ?_)
    rcases hp with ⟨hc, rfl, h1, g1, hf0, hf1, rfl⟩ | ⟨hc, rfl, rfl⟩
    · show G 1084 [(4, .int (nI i)), (3, .ref oa), (2, .ref (am 0)), (1, .ref (ad 0)), (0, .ref b)] [.int 0] [xoW ad up 0 tr, lkW D ad L, alW D e0 (ad 2) hs N, rwW D (ad 3) (ad 10) (ad 11) (ad 12) gf qf.length, rwW D (ad 4) (ad 13) (ad 14) (ad 15) g1 ((eQ S qb tq 1).length), alW D e0 (ad 5) h1 0, dvW da N (eS S tq 1) (eM S om tq 1), moW am N tf tt bf bt up op tr tq.length th, mlW D am L, mdW D am S, rtW D am tg, rbW D am bg, tdW D am td, [(oa, .inl (D.1 12, 1, .inr (.inl (vp_updL f 0 ((eR tq 1).toInt64)))))]] (k + 1) (n + 6)
      refine x_istore B (pc := 1084) [(5, .int 0), (4, .int (nI i)), (3, .ref oa), (2, .ref (am 0)), (1, .ref (ad 0)), (0, .ref b)] dL_law_1084 (by decide) rfl ?_
      refine x_aload_n B (pc := 1086) 3 dL_law_1086 rfl rfl ?_
      refine x_aload_n B (pc := 1087) 5 dL_law_1087 rfl rfl ?_
      refine x_iload B (pc := 1088) 1 dL_law_1088 rfl ?_
      refine x_iconst B (pc := 1090) 1 dL_law_1090 (by decide) ?_
      refine x_iadd B (pc := 1091) dL_law_1091 ?_
      refine x_val B (y := nI (i + 1)) (nI_add i 1) ?_
      refine x_sldN B0 (pc := 1092) (d := (i + 1)) (by omega) (by omega) dL_law_1092 ?_
      refine x_if_eq B (pc := 1093) 1100 dL_law_1093 (by decide) (fun h10 => absurd h10 h9) (fun h10 => ?_)
      refine x_iconst B (pc := 1096) 1 dL_law_1096 (by decide) ?_
      refine x_goto B (pc := 1097) 1101 dL_law_1097 (by decide) ?_
      refine x_callV B (pc := 1101) (As := [.int 1]) (c_X4_end hl D e0 (tn := 0) hop hT hin60 htd hmb (by omega) (by omega) (tq_w hS)) xcl_M rfl 0 0 rfl rfl tm858 tm859 tm860 tm7 tm861 md_X4_end ⟨Nat.le_of_ble_eq_true rfl, Nat.le_of_ble_eq_true rfl⟩ [7, 9, 11, 12] rfl rfl rfl (Nat.le_of_ble_eq_true rfl) (by show k + 1 ≤ (601024 : Nat); omega) (by show n + 6 ≤ (7293034 : Nat); omega) dL_law_1101 (fun E hE => False.elim hE) (fun v cs1 hp => ?_)
      rcases hp with ⟨hc2, rfl, bt1, bg1, mf0, mf1, rfl⟩ | ⟨hc2, hz2⟩
      · show G 1104 [(5, .int 0), (4, .int (nI i)), (3, .ref oa), (2, .ref (am 0)), (1, .ref (ad 0)), (0, .ref b)] [.int (eR tq 1)] [xoW ad up 0 tr, lkW D ad L, alW D e0 (ad 2) hs N, rwW D (ad 3) (ad 10) (ad 11) (ad 12) gf qf.length, rwW D (ad 4) (ad 13) (ad 14) (ad 15) g1 ((eQ S qb tq 1).length), alW D e0 (ad 5) h1 0, dvW da N (eS S tq 1) (eM S om tq 1), moW am N tf tt bf bt1 up 0 tr 0 0, mlW D am L, mdW D am (eS S tq 1), rtW D am tg, rbW D am bg1, tdW D am td, [(oa, .inl (D.1 12, 1, .inr (.inl (vp_updL f 0 ((eR tq 1).toInt64)))))]] (k + 1) (n + 6)
        refine x_istore B (pc := 1104) [(6, .int (eR tq 1)), (5, .int 0), (4, .int (nI i)), (3, .ref oa), (2, .ref (am 0)), (1, .ref (ad 0)), (0, .ref b)] dL_law_1104 (by decide) rfl ?_
        refine x_aload_n B (pc := 1106) 4 dL_law_1106 rfl rfl ?_
        refine x_callV B (pc := 1107) (As := []) (c_X4_thrown hl D e0 ) xcl_M rfl 0 0 rfl rfl tm716 tm717 tm718 tm7 tm719 md_X4_thrown ⟨Nat.le_of_ble_eq_true rfl, Nat.le_of_ble_eq_true rfl⟩ [7] rfl rfl rfl (Nat.le_of_ble_eq_true rfl) (by show k + 1 ≤ (601024 : Nat); omega) (by show n + 6 ≤ (7293034 : Nat); omega) dL_law_1107 (fun E hE => False.elim hE) (fun v cs1 hp => ?_)
        obtain ⟨rfl, rfl⟩ := hp
        show G 1110 [(6, .int (eR tq 1)), (5, .int 0), (4, .int (nI i)), (3, .ref oa), (2, .ref (am 0)), (1, .ref (ad 0)), (0, .ref b)] [.int 0] [xoW ad up 0 tr, lkW D ad L, alW D e0 (ad 2) hs N, rwW D (ad 3) (ad 10) (ad 11) (ad 12) gf qf.length, rwW D (ad 4) (ad 13) (ad 14) (ad 15) g1 ((eQ S qb tq 1).length), alW D e0 (ad 5) h1 0, dvW da N (eS S tq 1) (eM S om tq 1), moW am N tf tt bf bt1 up 0 tr 0 0, mlW D am L, mdW D am (eS S tq 1), rtW D am tg, rbW D am bg1, tdW D am td, [(oa, .inl (D.1 12, 1, .inr (.inl (vp_updL f 0 ((eR tq 1).toInt64)))))]] (k + 1) (n + 6)
        refine x_iload B (pc := 1110) 1 dL_law_1110 rfl ?_
        refine x_icmp_eq B (pc := 1112) 1117 dL_law_1112 (by decide) (fun h1112 => ?_) (fun h1112 => absurd (by decide) h1112)
        refine x_iload B (pc := 1117) 1 dL_law_1117 rfl ?_
        refine x_if_ne B (pc := 1119) 1134 dL_law_1119 (by decide) (fun h1119 => absurd (by decide) h1119) (fun h1119 => ?_)
        refine x_aload_n B (pc := 1122) 3 dL_law_1122 rfl rfl ?_
        refine x_iconst B (pc := 1123) 0 dL_law_1123 (by decide) ?_
        refine x_val B (y := nI 0) rfl ?_
        refine x_laldN B (pc := 1124) 0 13 0 (by decide) (by decide) rfl rfl dL_law_1124 ?_
        refine x_iload B (pc := 1125) 0 dL_law_1125 rfl ?_
        refine x_i2l B (pc := 1127) dL_law_1127 ?_
        refine x_lcmp B (pc := 1128) dL_law_1128 ?_
        refine x_val B (y := 0) out_cmp ?_
        refine x_if_eq B (pc := 1129) 1134 dL_law_1129 (by decide) (fun h1129 => ?_) (fun h1129 => absurd (by decide) h1129)
        refine x_goto B (pc := 1134) 1137 dL_law_1134 (by decide) ?_
        refine x_lv B [2, 3, 4, 5, 6] [(4, .int (nI i)), (3, .ref oa), (2, .ref (am 0)), (1, .ref (ad 0)), (0, .ref b)] rfl ?_
        refine x_wid B (k + 4) (n + 300) (by omega) (by omega) ?_
        exact K da hs h1 gf g1 (eM S om tq 1) L (eS S tq 1) N qf (eQ S qb tq 1) up 0 tr ([]) tf tt bf bt1 tg bg1 td 0 (vp_updL f 0 ((eR tq 1).toInt64)) ⟨aInv_more (aInv_end hI hc) (by omega), ⟨hok, hf0 _, hq, hf1⟩, ⟨hmf, mf1, (fun i hi => absurd hi (Nat.not_lt_zero i))⟩, (by omega), (by omega)⟩
      · exact absurd hc hc2
    · show G 1084 [(4, .int (nI i)), (3, .ref oa), (2, .ref (am 0)), (1, .ref (ad 0)), (0, .ref b)] [.int (nI (cod (decide (op = 1)) true true))] [xoW ad up op tr, lkW D ad L, alW D e0 (ad 2) hs N, rwW D (ad 3) (ad 10) (ad 11) (ad 12) gf qf.length, rwW D (ad 4) (ad 13) (ad 14) (ad 15) gb qb.length, alW D e0 (ad 5) ht tq.length, dvW da N S om, moW am N tf tt bf bt up op tr tq.length th, mlW D am L, mdW D am S, rtW D am tg, rbW D am bg, tdW D am td, [(oa, .inl (D.1 12, 1, .inr (.inl f)))]] (k + 1) (n + 6)
      refine x_istore B (pc := 1084) [(5, .int (nI (cod (decide (op = 1)) true true))), (4, .int (nI i)), (3, .ref oa), (2, .ref (am 0)), (1, .ref (ad 0)), (0, .ref b)] dL_law_1084 (by decide) rfl ?_
      refine x_aload_n B (pc := 1086) 3 dL_law_1086 rfl rfl ?_
      refine x_aload_n B (pc := 1087) 5 dL_law_1087 rfl rfl ?_
      refine x_iload B (pc := 1088) 1 dL_law_1088 rfl ?_
      refine x_iconst B (pc := 1090) 1 dL_law_1090 (by decide) ?_
      refine x_iadd B (pc := 1091) dL_law_1091 ?_
      refine x_val B (y := nI (i + 1)) (nI_add i 1) ?_
      refine x_sldN B0 (pc := 1092) (d := (i + 1)) (by omega) (by omega) dL_law_1092 ?_
      refine x_if_eq B (pc := 1093) 1100 dL_law_1093 (by decide) (fun h10 => absurd h10 h9) (fun h10 => ?_)
      refine x_iconst B (pc := 1096) 1 dL_law_1096 (by decide) ?_
      refine x_goto B (pc := 1097) 1101 dL_law_1097 (by decide) ?_
      refine x_callV B (pc := 1101) (As := [.int 1]) (c_X4_end hl D e0 (tn := 0) hop hT hin60 htd hmb (by omega) (by omega) (tq_w hS)) xcl_M rfl 0 0 rfl rfl tm858 tm859 tm860 tm7 tm861 md_X4_end ⟨Nat.le_of_ble_eq_true rfl, Nat.le_of_ble_eq_true rfl⟩ [7, 9, 11, 12] rfl rfl rfl (Nat.le_of_ble_eq_true rfl) (by show k + 1 ≤ (601024 : Nat); omega) (by show n + 6 ≤ (7293034 : Nat); omega) dL_law_1101 (fun E hE => False.elim hE) (fun v cs1 hp => ?_)
      rcases hp with ⟨hc2, hz2⟩ | ⟨hc2, ⟨z9, rfl⟩, rfl⟩
      · exact absurd hc2 hc
      · show G 1104 [(5, .int (nI (cod (decide (op = 1)) true true))), (4, .int (nI i)), (3, .ref oa), (2, .ref (am 0)), (1, .ref (ad 0)), (0, .ref b)] [.int z9] [xoW ad up op tr, lkW D ad L, alW D e0 (ad 2) hs N, rwW D (ad 3) (ad 10) (ad 11) (ad 12) gf qf.length, rwW D (ad 4) (ad 13) (ad 14) (ad 15) gb qb.length, alW D e0 (ad 5) ht tq.length, dvW da N S om, moW am N tf tt bf bt up op tr tq.length (nI (cod (decide (op = 1)) true true)), mlW D am L, mdW D am S, rtW D am tg, rbW D am bg, tdW D am td, [(oa, .inl (D.1 12, 1, .inr (.inl f)))]] (k + 1) (n + 6)
        refine x_istore B (pc := 1104) [(6, .int z9), (5, .int (nI (cod (decide (op = 1)) true true))), (4, .int (nI i)), (3, .ref oa), (2, .ref (am 0)), (1, .ref (ad 0)), (0, .ref b)] dL_law_1104 (by decide) rfl ?_
        refine x_aload_n B (pc := 1106) 4 dL_law_1106 rfl rfl ?_
        refine x_callV B (pc := 1107) (As := []) (c_X4_thrown hl D e0 ) xcl_M rfl 0 0 rfl rfl tm716 tm717 tm718 tm7 tm719 md_X4_thrown ⟨Nat.le_of_ble_eq_true rfl, Nat.le_of_ble_eq_true rfl⟩ [7] rfl rfl rfl (Nat.le_of_ble_eq_true rfl) (by show k + 1 ≤ (601024 : Nat); omega) (by show n + 6 ≤ (7293034 : Nat); omega) dL_law_1107 (fun E hE => False.elim hE) (fun v cs1 hp => ?_)
        obtain ⟨rfl, rfl⟩ := hp
        show G 1110 [(6, .int z9), (5, .int (nI (cod (decide (op = 1)) true true))), (4, .int (nI i)), (3, .ref oa), (2, .ref (am 0)), (1, .ref (ad 0)), (0, .ref b)] [.int (nI (cod (decide (op = 1)) true true))] [xoW ad up op tr, lkW D ad L, alW D e0 (ad 2) hs N, rwW D (ad 3) (ad 10) (ad 11) (ad 12) gf qf.length, rwW D (ad 4) (ad 13) (ad 14) (ad 15) gb qb.length, alW D e0 (ad 5) ht tq.length, dvW da N S om, moW am N tf tt bf bt up op tr tq.length (nI (cod (decide (op = 1)) true true)), mlW D am L, mdW D am S, rtW D am tg, rbW D am bg, tdW D am td, [(oa, .inl (D.1 12, 1, .inr (.inl f)))]] (k + 1) (n + 6)
        refine x_iload B (pc := 1110) 1 dL_law_1110 rfl ?_
        refine x_icmp_eq B (pc := 1112) 1117 dL_law_1112 (by decide) (fun h1112 => ?_) (fun h1112 => absurd rfl h1112)
        refine x_iload B (pc := 1117) 1 dL_law_1117 rfl ?_
        refine x_if_ne B (pc := 1119) 1134 dL_law_1119 (by decide) (fun h1119 => ?_) (fun h1119 => absurd h1119 (cod_nz hc))
        refine x_goto B (pc := 1134) 1137 dL_law_1134 (by decide) ?_
        refine x_lv B [2, 3, 4, 5, 6] [(4, .int (nI i)), (3, .ref oa), (2, .ref (am 0)), (1, .ref (ad 0)), (0, .ref b)] rfl ?_
        refine x_wid B (k + 4) (n + 300) (by omega) (by omega) ?_
        exact K da hs ht gf gb om L S N qf qb up op tr tq tf tt bf bt tg bg td (nI (cod (decide (op = 1)) true true)) f ⟨aInv_more (hI) (by omega), ⟨hok, hot, hq, hqb⟩, ⟨hmf, hmb, htd⟩, (by omega), (by omega)⟩
