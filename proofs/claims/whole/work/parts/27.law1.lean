/-! the law, call by call -/
set_option maxRecDepth 100000 in
set_option maxHeartbeats 4000000 in
/-- the call setMode -/
theorem st_setMode {l : Launch} (hl : l.stackTraces = false) (D : va_G) (e0 : Nat) {b Ls : Nat} {xs : Nat → Int32} {G : xGt} {X : xXt} (B0 : xL l D e0 b Ls xs G X) {ad am : Nat → Nat} {oa i t k n : Nat} (hi : i + 3 ≤ Ls) (hLs : Ls ≤ 1536) (ht9 : t < 512) (hk : k ≤ 4000) (hn : n ≤ 300000) (K : lTo G D e0 ad am oa b i (t + 1) (k + 4) (n + 300) 1137) : lTo G D e0 ad am oa b i t k n 136 := by
  intro da hs ht gf gb om L S N qf qb up op tr tq tf tt bf bt tg bg td th f hg
  obtain ⟨hI, ⟨hok, hot, hq, hqb⟩, ⟨hmf, hmb, htd⟩, htt, hbt⟩ := hg
  obtain ⟨hup, hop, hL, hN, hS, hF, hB, hPhi, hlen, hdn⟩ := id hI
  have hT := tq_len hI
  have hin := tq_in hS
  have hin60 : ∀ i, i < tq.length → tq.getD i 0 < 60 := fun i h => Nat.lt_of_lt_of_le (hin i h) hN
  have hl4 : ∀ d, d < N → ∃ j, j < 4 ∧ S 4 d = nI j := fun d hd => (hS.2.1 d hd).1
  have h69 : ∀ d, d < N → ∃ m, m ≤ 4 ∧ S 6 d = nI m := fun d hd => (hS.2.1 d hd).2.1
  have h79 : ∀ d, d < N → S 7 d = 0 ∨ S 7 d = 1 := fun d hd => (hS.2.1 d hd).2.2.1
  have h99 : ∀ d, d < N → S 9 d = 0 ∨ S 9 d = 1 ∨ S 9 d = 2 ∨ S 9 d = 3 ∨ S 9 d = 4 := fun d hd => (hS.2.1 d hd).2.2.2.1
  have hfe := hmf.1
  have hbe := hmb.1
  obtain ⟨hh, B⟩ := B0.base
  show G 136 [(4, .int (nI i)), (3, .ref oa), (2, .ref (am 0)), (1, .ref (ad 0)), (0, .ref b)] [] [xoW ad up op tr, lkW D ad L, alW D e0 (ad 2) hs N, rwW D (ad 3) (ad 10) (ad 11) (ad 12) gf qf.length, rwW D (ad 4) (ad 13) (ad 14) (ad 15) gb qb.length, alW D e0 (ad 5) ht tq.length, dvW da N S om, moW am N tf tt bf bt up op tr tq.length th, mlW D am L, mdW D am S, rtW D am tg, rbW D am bg, tdW D am td, [(oa, .inl (D.1 12, 1, .inr (.inl f)))]] k n
  refine x_aload_n B (pc := 136) 3 dL_law_136 rfl rfl ?_
  refine x_aload_n B (pc := 137) 4 dL_law_137 rfl rfl ?_
  refine x_iload B (pc := 138) 0 dL_law_138 rfl ?_
  refine x_iconst B (pc := 140) 1 dL_law_140 (by decide) ?_
  refine x_iadd B (pc := 141) dL_law_141 ?_
  refine x_val B (y := nI (i + 1)) (nI_add i 1) ?_
  refine x_sldN B0 (pc := 142) (d := (i + 1)) (by omega) (by omega) dL_law_142 ?_
  refine x_aload_n B (pc := 143) 4 dL_law_143 rfl rfl ?_
  refine x_iload B (pc := 144) 0 dL_law_144 rfl ?_
  refine x_iconst B (pc := 146) 2 dL_law_146 (by decide) ?_
  refine x_iadd B (pc := 147) dL_law_147 ?_
  refine x_val B (y := nI (i + 2)) (nI_add i 2) ?_
  refine x_sldN B0 (pc := 148) (d := (i + 2)) (by omega) (by omega) dL_law_148 ?_
  refine x_aload_n B (pc := 149) 1 dL_law_149 rfl rfl ?_
  refine x_callSX B (pc := 150) (As := [.ref (ad 0), .int (xs (i + 1)), .int (xs (i + 2)), .ref oa]) (c_L_setMode hl D e0 ) tm173 tm174 tm0 tm175 md_L_setMode ⟨Nat.le_of_ble_eq_true rfl, Nat.le_of_ble_eq_true rfl⟩ [0, 1, 13] rfl rfl rfl (Nat.le_of_ble_eq_true rfl) (by show k + 1 ≤ (601024 : Nat); omega) (by show n + 6 ≤ (7293034 : Nat); omega) dL_law_150 (fun E hE => False.elim hE) (fun v cs1 hp => ?_)
  rcases hp with ⟨hc, rfl, rfl⟩ | ⟨hc, rfl, rfl⟩
  · show G 153 [(4, .int (nI i)), (3, .ref oa), (2, .ref (am 0)), (1, .ref (ad 0)), (0, .ref b)] [.int 0] [xoW ad up op tr, lkW D ad (xup L 0 (ix (xs (i + 1))) (xs (i + 2))), alW D e0 (ad 2) hs N, rwW D (ad 3) (ad 10) (ad 11) (ad 12) gf qf.length, rwW D (ad 4) (ad 13) (ad 14) (ad 15) gb qb.length, alW D e0 (ad 5) ht tq.length, dvW da N S om, moW am N tf tt bf bt up op tr tq.length th, mlW D am L, mdW D am S, rtW D am tg, rbW D am bg, tdW D am td, [(oa, .inl (D.1 12, 1, .inr (.inl (vp_updL f 0 ((L 0 (ix (xs (i + 1)))).toInt64)))))]] (k + 1) (n + 6)
    refine x_istore B (pc := 153) [(5, .int 0), (4, .int (nI i)), (3, .ref oa), (2, .ref (am 0)), (1, .ref (ad 0)), (0, .ref b)] dL_law_153 (by decide) rfl ?_
    refine x_aload_n B (pc := 155) 3 dL_law_155 rfl rfl ?_
    refine x_aload_n B (pc := 156) 5 dL_law_156 rfl rfl ?_
    refine x_iload B (pc := 157) 1 dL_law_157 rfl ?_
    refine x_iconst B (pc := 159) 1 dL_law_159 (by decide) ?_
    refine x_iadd B (pc := 160) dL_law_160 ?_
    refine x_val B (y := nI (i + 1)) (nI_add i 1) ?_
    refine x_sldN B0 (pc := 161) (d := (i + 1)) (by omega) (by omega) dL_law_161 ?_
    refine x_aload_n B (pc := 162) 5 dL_law_162 rfl rfl ?_
    refine x_iload B (pc := 163) 1 dL_law_163 rfl ?_
    refine x_iconst B (pc := 165) 2 dL_law_165 (by decide) ?_
    refine x_iadd B (pc := 166) dL_law_166 ?_
    refine x_val B (y := nI (i + 2)) (nI_add i 2) ?_
    refine x_sldN B0 (pc := 167) (d := (i + 2)) (by omega) (by omega) dL_law_167 ?_
    refine x_callV B (pc := 168) (As := [.int (xs (i + 1)), .int (xs (i + 2))]) (c_X4_setMode hl D e0 ) xcl_M rfl 0 0 rfl rfl tm720 tm721 tm722 tm7 tm723 md_X4_setMode ⟨Nat.le_of_ble_eq_true rfl, Nat.le_of_ble_eq_true rfl⟩ [7, 8] rfl rfl rfl (Nat.le_of_ble_eq_true rfl) (by show k + 1 ≤ (601024 : Nat); omega) (by show n + 6 ≤ (7293034 : Nat); omega) dL_law_168 (fun E hE => False.elim hE) (fun v cs1 hp => ?_)
    rcases hp with ⟨hc2, rfl, rfl⟩ | ⟨hc2, hz2⟩
    · show G 171 [(5, .int 0), (4, .int (nI i)), (3, .ref oa), (2, .ref (am 0)), (1, .ref (ad 0)), (0, .ref b)] [.int (L 0 (ix (xs (i + 1))))] [xoW ad up op tr, lkW D ad (xup L 0 (ix (xs (i + 1))) (xs (i + 2))), alW D e0 (ad 2) hs N, rwW D (ad 3) (ad 10) (ad 11) (ad 12) gf qf.length, rwW D (ad 4) (ad 13) (ad 14) (ad 15) gb qb.length, alW D e0 (ad 5) ht tq.length, dvW da N S om, moW am N tf tt bf bt up op tr tq.length 0, mlW D am (xup L 0 (ix (xs (i + 1))) (xs (i + 2))), mdW D am S, rtW D am tg, rbW D am bg, tdW D am td, [(oa, .inl (D.1 12, 1, .inr (.inl (vp_updL f 0 ((L 0 (ix (xs (i + 1)))).toInt64)))))]] (k + 1) (n + 6)
      refine x_istore B (pc := 171) [(6, .int (L 0 (ix (xs (i + 1))))), (5, .int 0), (4, .int (nI i)), (3, .ref oa), (2, .ref (am 0)), (1, .ref (ad 0)), (0, .ref b)] dL_law_171 (by decide) rfl ?_
      refine x_aload_n B (pc := 173) 4 dL_law_173 rfl rfl ?_
      refine x_callV B (pc := 174) (As := []) (c_X4_thrown hl D e0 ) xcl_M rfl 0 0 rfl rfl tm716 tm717 tm718 tm7 tm719 md_X4_thrown ⟨Nat.le_of_ble_eq_true rfl, Nat.le_of_ble_eq_true rfl⟩ [7] rfl rfl rfl (Nat.le_of_ble_eq_true rfl) (by show k + 1 ≤ (601024 : Nat); omega) (by show n + 6 ≤ (7293034 : Nat); omega) dL_law_174 (fun E hE => False.elim hE) (fun v cs1 hp => ?_)
      obtain ⟨rfl, rfl⟩ := hp
      show G 177 [(6, .int (L 0 (ix (xs (i + 1))))), (5, .int 0), (4, .int (nI i)), (3, .ref oa), (2, .ref (am 0)), (1, .ref (ad 0)), (0, .ref b)] [.int 0] [xoW ad up op tr, lkW D ad (xup L 0 (ix (xs (i + 1))) (xs (i + 2))), alW D e0 (ad 2) hs N, rwW D (ad 3) (ad 10) (ad 11) (ad 12) gf qf.length, rwW D (ad 4) (ad 13) (ad 14) (ad 15) gb qb.length, alW D e0 (ad 5) ht tq.length, dvW da N S om, moW am N tf tt bf bt up op tr tq.length 0, mlW D am (xup L 0 (ix (xs (i + 1))) (xs (i + 2))), mdW D am S, rtW D am tg, rbW D am bg, tdW D am td, [(oa, .inl (D.1 12, 1, .inr (.inl (vp_updL f 0 ((L 0 (ix (xs (i + 1)))).toInt64)))))]] (k + 1) (n + 6)
      refine x_iload B (pc := 177) 1 dL_law_177 rfl ?_
      refine x_icmp_eq B (pc := 179) 184 dL_law_179 (by decide) (fun h179 => ?_) (fun h179 => absurd (by decide) h179)
      refine x_iload B (pc := 184) 1 dL_law_184 rfl ?_
      refine x_if_ne B (pc := 186) 201 dL_law_186 (by decide) (fun h186 => absurd (by decide) h186) (fun h186 => ?_)
      refine x_aload_n B (pc := 189) 3 dL_law_189 rfl rfl ?_
      refine x_iconst B (pc := 190) 0 dL_law_190 (by decide) ?_
      refine x_val B (y := nI 0) rfl ?_
      refine x_laldN B (pc := 191) 0 13 0 (by decide) (by decide) rfl rfl dL_law_191 ?_
      refine x_iload B (pc := 192) 0 dL_law_192 rfl ?_
      refine x_i2l B (pc := 194) dL_law_194 ?_
      refine x_lcmp B (pc := 195) dL_law_195 ?_
      refine x_val B (y := 0) out_cmp ?_
      refine x_if_eq B (pc := 196) 201 dL_law_196 (by decide) (fun h196 => ?_) (fun h196 => absurd (by decide) h196)
      refine x_goto B (pc := 201) 1137 dL_law_201 (by decide) ?_
      refine x_lv B [2, 3, 4, 5, 6] [(4, .int (nI i)), (3, .ref oa), (2, .ref (am 0)), (1, .ref (ad 0)), (0, .ref b)] rfl ?_
      refine x_wid B (k + 4) (n + 300) (by omega) (by omega) ?_
      exact K da hs ht gf gb om (xup L 0 (ix (xs (i + 1))) (xs (i + 2))) S N qf qb up op tr tq tf tt bf bt tg bg td 0 (vp_updL f 0 ((L 0 (ix (xs (i + 1)))).toInt64)) ⟨aInv_more (aInv_setMode hI) (by omega), ⟨hok, hot, hq, hqb⟩, ⟨hmf, hmb, htd⟩, (by omega), (by omega)⟩
    · exact absurd hc hc2
  · show G 153 [(4, .int (nI i)), (3, .ref oa), (2, .ref (am 0)), (1, .ref (ad 0)), (0, .ref b)] [.int (nI (cod (xinB 0 3 (xs (i + 1))) (xinB 0 2 (xs (i + 2))) true))] [xoW ad up op tr, lkW D ad L, alW D e0 (ad 2) hs N, rwW D (ad 3) (ad 10) (ad 11) (ad 12) gf qf.length, rwW D (ad 4) (ad 13) (ad 14) (ad 15) gb qb.length, alW D e0 (ad 5) ht tq.length, dvW da N S om, moW am N tf tt bf bt up op tr tq.length th, mlW D am L, mdW D am S, rtW D am tg, rbW D am bg, tdW D am td, [(oa, .inl (D.1 12, 1, .inr (.inl f)))]] (k + 1) (n + 6)
    refine x_istore B (pc := 153) [(5, .int (nI (cod (xinB 0 3 (xs (i + 1))) (xinB 0 2 (xs (i + 2))) true))), (4, .int (nI i)), (3, .ref oa), (2, .ref (am 0)), (1, .ref (ad 0)), (0, .ref b)] dL_law_153 (by decide) rfl ?_
    refine x_aload_n B (pc := 155) 3 dL_law_155 rfl rfl ?_
    refine x_aload_n B (pc := 156) 5 dL_law_156 rfl rfl ?_
    refine x_iload B (pc := 157) 1 dL_law_157 rfl ?_
    refine x_iconst B (pc := 159) 1 dL_law_159 (by decide) ?_
    refine x_iadd B (pc := 160) dL_law_160 ?_
    refine x_val B (y := nI (i + 1)) (nI_add i 1) ?_
    refine x_sldN B0 (pc := 161) (d := (i + 1)) (by omega) (by omega) dL_law_161 ?_
    refine x_aload_n B (pc := 162) 5 dL_law_162 rfl rfl ?_
    refine x_iload B (pc := 163) 1 dL_law_163 rfl ?_
    refine x_iconst B (pc := 165) 2 dL_law_165 (by decide) ?_
    refine x_iadd B (pc := 166) dL_law_166 ?_
    refine x_val B (y := nI (i + 2)) (nI_add i 2) ?_
    refine x_sldN B0 (pc := 167) (d := (i + 2)) (by omega) (by omega) dL_law_167 ?_
    refine x_callV B (pc := 168) (As := [.int (xs (i + 1)), .int (xs (i + 2))]) (c_X4_setMode hl D e0 ) xcl_M rfl 0 0 rfl rfl tm720 tm721 tm722 tm7 tm723 md_X4_setMode ⟨Nat.le_of_ble_eq_true rfl, Nat.le_of_ble_eq_true rfl⟩ [7, 8] rfl rfl rfl (Nat.le_of_ble_eq_true rfl) (by show k + 1 ≤ (601024 : Nat); omega) (by show n + 6 ≤ (7293034 : Nat); omega) dL_law_168 (fun E hE => False.elim hE) (fun v cs1 hp => ?_)
    rcases hp with ⟨hc2, hz2⟩ | ⟨hc2, ⟨z9, rfl⟩, rfl⟩
    · exact absurd hc2 hc
    · show G 171 [(5, .int (nI (cod (xinB 0 3 (xs (i + 1))) (xinB 0 2 (xs (i + 2))) true))), (4, .int (nI i)), (3, .ref oa), (2, .ref (am 0)), (1, .ref (ad 0)), (0, .ref b)] [.int z9] [xoW ad up op tr, lkW D ad L, alW D e0 (ad 2) hs N, rwW D (ad 3) (ad 10) (ad 11) (ad 12) gf qf.length, rwW D (ad 4) (ad 13) (ad 14) (ad 15) gb qb.length, alW D e0 (ad 5) ht tq.length, dvW da N S om, moW am N tf tt bf bt up op tr tq.length (nI (cod (xinB 0 3 (xs (i + 1))) (xinB 0 2 (xs (i + 2))) true)), mlW D am L, mdW D am S, rtW D am tg, rbW D am bg, tdW D am td, [(oa, .inl (D.1 12, 1, .inr (.inl f)))]] (k + 1) (n + 6)
      refine x_istore B (pc := 171) [(6, .int z9), (5, .int (nI (cod (xinB 0 3 (xs (i + 1))) (xinB 0 2 (xs (i + 2))) true))), (4, .int (nI i)), (3, .ref oa), (2, .ref (am 0)), (1, .ref (ad 0)), (0, .ref b)] dL_law_171 (by decide) rfl ?_
      refine x_aload_n B (pc := 173) 4 dL_law_173 rfl rfl ?_
      refine x_callV B (pc := 174) (As := []) (c_X4_thrown hl D e0 ) xcl_M rfl 0 0 rfl rfl tm716 tm717 tm718 tm7 tm719 md_X4_thrown ⟨Nat.le_of_ble_eq_true rfl, Nat.le_of_ble_eq_true rfl⟩ [7] rfl rfl rfl (Nat.le_of_ble_eq_true rfl) (by show k + 1 ≤ (601024 : Nat); omega) (by show n + 6 ≤ (7293034 : Nat); omega) dL_law_174 (fun E hE => False.elim hE) (fun v cs1 hp => ?_)
      obtain ⟨rfl, rfl⟩ := hp
      show G 177 [(6, .int z9), (5, .int (nI (cod (xinB 0 3 (xs (i + 1))) (xinB 0 2 (xs (i + 2))) true))), (4, .int (nI i)), (3, .ref oa), (2, .ref (am 0)), (1, .ref (ad 0)), (0, .ref b)] [.int (nI (cod (xinB 0 3 (xs (i + 1))) (xinB 0 2 (xs (i + 2))) true))] [xoW ad up op tr, lkW D ad L, alW D e0 (ad 2) hs N, rwW D (ad 3) (ad 10) (ad 11) (ad 12) gf qf.length, rwW D (ad 4) (ad 13) (ad 14) (ad 15) gb qb.length, alW D e0 (ad 5) ht tq.length, dvW da N S om, moW am N tf tt bf bt up op tr tq.length (nI (cod (xinB 0 3 (xs (i + 1))) (xinB 0 2 (xs (i + 2))) true)), mlW D am L, mdW D am S, rtW D am tg, rbW D am bg, tdW D am td, [(oa, .inl (D.1 12, 1, .inr (.inl f)))]] (k + 1) (n + 6)
      refine x_iload B (pc := 177) 1 dL_law_177 rfl ?_
      refine x_icmp_eq B (pc := 179) 184 dL_law_179 (by decide) (fun h179 => ?_) (fun h179 => absurd rfl h179)
      refine x_iload B (pc := 184) 1 dL_law_184 rfl ?_
      refine x_if_ne B (pc := 186) 201 dL_law_186 (by decide) (fun h186 => ?_) (fun h186 => absurd h186 (cod_nz hc))
      refine x_goto B (pc := 201) 1137 dL_law_201 (by decide) ?_
      refine x_lv B [2, 3, 4, 5, 6] [(4, .int (nI i)), (3, .ref oa), (2, .ref (am 0)), (1, .ref (ad 0)), (0, .ref b)] rfl ?_
      refine x_wid B (k + 4) (n + 300) (by omega) (by omega) ?_
      exact K da hs ht gf gb om L S N qf qb up op tr tq tf tt bf bt tg bg td (nI (cod (xinB 0 3 (xs (i + 1))) (xinB 0 2 (xs (i + 2))) true)) f ⟨aInv_more (hI) (by omega), ⟨hok, hot, hq, hqb⟩, ⟨hmf, hmb, htd⟩, (by omega), (by omega)⟩

set_option maxRecDepth 100000 in
set_option maxHeartbeats 4000000 in
/-- the call grant -/
theorem st_grant {l : Launch} (hl : l.stackTraces = false) (D : va_G) (e0 : Nat) {b Ls : Nat} {xs : Nat → Int32} {G : xGt} {X : xXt} (B0 : xL l D e0 b Ls xs G X) {ad am : Nat → Nat} {oa i t k n : Nat} (hi : i + 3 ≤ Ls) (hLs : Ls ≤ 1536) (ht9 : t < 512) (hk : k ≤ 4000) (hn : n ≤ 300000) (K : lTo G D e0 ad am oa b i (t + 1) (k + 4) (n + 300) 1137) : lTo G D e0 ad am oa b i t k n 204 := by
  intro da hs ht gf gb om L S N qf qb up op tr tq tf tt bf bt tg bg td th f hg
  obtain ⟨hI, ⟨hok, hot, hq, hqb⟩, ⟨hmf, hmb, htd⟩, htt, hbt⟩ := hg
  obtain ⟨hup, hop, hL, hN, hS, hF, hB, hPhi, hlen, hdn⟩ := id hI
  have hT := tq_len hI
  have hin := tq_in hS
  have hin60 : ∀ i, i < tq.length → tq.getD i 0 < 60 := fun i h => Nat.lt_of_lt_of_le (hin i h) hN
  have hl4 : ∀ d, d < N → ∃ j, j < 4 ∧ S 4 d = nI j := fun d hd => (hS.2.1 d hd).1
  have h69 : ∀ d, d < N → ∃ m, m ≤ 4 ∧ S 6 d = nI m := fun d hd => (hS.2.1 d hd).2.1
  have h79 : ∀ d, d < N → S 7 d = 0 ∨ S 7 d = 1 := fun d hd => (hS.2.1 d hd).2.2.1
  have h99 : ∀ d, d < N → S 9 d = 0 ∨ S 9 d = 1 ∨ S 9 d = 2 ∨ S 9 d = 3 ∨ S 9 d = 4 := fun d hd => (hS.2.1 d hd).2.2.2.1
  have hfe := hmf.1
  have hbe := hmb.1
  obtain ⟨hh, B⟩ := B0.base
  show G 204 [(4, .int (nI i)), (3, .ref oa), (2, .ref (am 0)), (1, .ref (ad 0)), (0, .ref b)] [] [xoW ad up op tr, lkW D ad L, alW D e0 (ad 2) hs N, rwW D (ad 3) (ad 10) (ad 11) (ad 12) gf qf.length, rwW D (ad 4) (ad 13) (ad 14) (ad 15) gb qb.length, alW D e0 (ad 5) ht tq.length, dvW da N S om, moW am N tf tt bf bt up op tr tq.length th, mlW D am L, mdW D am S, rtW D am tg, rbW D am bg, tdW D am td, [(oa, .inl (D.1 12, 1, .inr (.inl f)))]] k n
  refine x_aload_n B (pc := 204) 3 dL_law_204 rfl rfl ?_
  refine x_aload_n B (pc := 205) 4 dL_law_205 rfl rfl ?_
  refine x_iload B (pc := 206) 0 dL_law_206 rfl ?_
  refine x_iconst B (pc := 208) 1 dL_law_208 (by decide) ?_
  refine x_iadd B (pc := 209) dL_law_209 ?_
  refine x_val B (y := nI (i + 1)) (nI_add i 1) ?_
  refine x_sldN B0 (pc := 210) (d := (i + 1)) (by omega) (by omega) dL_law_210 ?_
  refine x_aload_n B (pc := 211) 4 dL_law_211 rfl rfl ?_
  refine x_iload B (pc := 212) 0 dL_law_212 rfl ?_
  refine x_iconst B (pc := 214) 2 dL_law_214 (by decide) ?_
  refine x_iadd B (pc := 215) dL_law_215 ?_
  refine x_val B (y := nI (i + 2)) (nI_add i 2) ?_
  refine x_sldN B0 (pc := 216) (d := (i + 2)) (by omega) (by omega) dL_law_216 ?_
  refine x_aload_n B (pc := 217) 1 dL_law_217 rfl rfl ?_
  refine x_callSX B (pc := 218) (As := [.ref (ad 0), .int (xs (i + 1)), .int (xs (i + 2)), .ref oa]) (c_L_grant hl D e0 hup hqb (by omega)) tm270 tm271 tm0 tm272 md_L_grant ⟨Nat.le_of_ble_eq_true rfl, Nat.le_of_ble_eq_true rfl⟩ [0, 1, 4, 13] rfl rfl rfl (Nat.le_of_ble_eq_true rfl) (by show k + 1 ≤ (601024 : Nat); omega) (by show n + 6 ≤ (7293034 : Nat); omega) dL_law_218 (fun E hE => False.elim hE) (fun v cs1 hp => ?_)
  rcases hp with ⟨hc, rfl, g1, hf0, rfl⟩ | ⟨hc, rfl, rfl⟩
  · show G 221 [(4, .int (nI i)), (3, .ref oa), (2, .ref (am 0)), (1, .ref (ad 0)), (0, .ref b)] [.int 0] [xoW ad up op tr, lkW D ad L, alW D e0 (ad 2) hs N, rwW D (ad 3) (ad 10) (ad 11) (ad 12) gf qf.length, rwW D (ad 4) (ad 13) (ad 14) (ad 15) g1 ((qb ++ [(3, ix (xs (i + 1)), ix (grV L (xs (i + 1)) (xs (i + 2))))]).length), alW D e0 (ad 5) ht tq.length, dvW da N S om, moW am N tf tt bf bt up op tr tq.length th, mlW D am L, mdW D am S, rtW D am tg, rbW D am bg, tdW D am td, [(oa, .inl (D.1 12, 1, .inr (.inl (vp_updL f 0 ((grV L (xs (i + 1)) (xs (i + 2))).toInt64)))))]] (k + 1) (n + 6)
    refine x_istore B (pc := 221) [(5, .int 0), (4, .int (nI i)), (3, .ref oa), (2, .ref (am 0)), (1, .ref (ad 0)), (0, .ref b)] dL_law_221 (by decide) rfl ?_
    refine x_aload_n B (pc := 223) 3 dL_law_223 rfl rfl ?_
    refine x_aload_n B (pc := 224) 5 dL_law_224 rfl rfl ?_
    refine x_iload B (pc := 225) 1 dL_law_225 rfl ?_
    refine x_iconst B (pc := 227) 1 dL_law_227 (by decide) ?_
    refine x_iadd B (pc := 228) dL_law_228 ?_
    refine x_val B (y := nI (i + 1)) (nI_add i 1) ?_
    refine x_sldN B0 (pc := 229) (d := (i + 1)) (by omega) (by omega) dL_law_229 ?_
    refine x_aload_n B (pc := 230) 5 dL_law_230 rfl rfl ?_
    refine x_iload B (pc := 231) 1 dL_law_231 rfl ?_
    refine x_iconst B (pc := 233) 2 dL_law_233 (by decide) ?_
    refine x_iadd B (pc := 234) dL_law_234 ?_
    refine x_val B (y := nI (i + 2)) (nI_add i 2) ?_
    refine x_sldN B0 (pc := 235) (d := (i + 2)) (by omega) (by omega) dL_law_235 ?_
    refine x_callV B (pc := 236) (As := [.int (xs (i + 1)), .int (xs (i + 2))]) (c_X4_grant hl D e0 hup hL hmb (by omega) (by omega)) xcl_M rfl 0 0 rfl rfl tm734 tm735 tm736 tm7 tm737 md_X4_grant ⟨Nat.le_of_ble_eq_true rfl, Nat.le_of_ble_eq_true rfl⟩ [7, 8, 11] rfl rfl rfl (Nat.le_of_ble_eq_true rfl) (by show k + 1 ≤ (601024 : Nat); omega) (by show n + 6 ≤ (7293034 : Nat); omega) dL_law_236 (fun E hE => False.elim hE) (fun v cs1 hp => ?_)
    rcases hp with ⟨hc2, rfl, bg1, mf0, rfl⟩ | ⟨hc2, hz2⟩
    · show G 239 [(5, .int 0), (4, .int (nI i)), (3, .ref oa), (2, .ref (am 0)), (1, .ref (ad 0)), (0, .ref b)] [.int (grV L (xs (i + 1)) (xs (i + 2)))] [xoW ad up op tr, lkW D ad L, alW D e0 (ad 2) hs N, rwW D (ad 3) (ad 10) (ad 11) (ad 12) gf qf.length, rwW D (ad 4) (ad 13) (ad 14) (ad 15) g1 ((qb ++ [(3, ix (xs (i + 1)), ix (grV L (xs (i + 1)) (xs (i + 2))))]).length), alW D e0 (ad 5) ht tq.length, dvW da N S om, moW am N tf tt bf (bt + 1) up op tr tq.length 0, mlW D am L, mdW D am S, rtW D am tg, rbW D am bg1, tdW D am td, [(oa, .inl (D.1 12, 1, .inr (.inl (vp_updL f 0 ((grV L (xs (i + 1)) (xs (i + 2))).toInt64)))))]] (k + 1) (n + 6)
      refine x_istore B (pc := 239) [(6, .int (grV L (xs (i + 1)) (xs (i + 2)))), (5, .int 0), (4, .int (nI i)), (3, .ref oa), (2, .ref (am 0)), (1, .ref (ad 0)), (0, .ref b)] dL_law_239 (by decide) rfl ?_
      refine x_aload_n B (pc := 241) 4 dL_law_241 rfl rfl ?_
      refine x_callV B (pc := 242) (As := []) (c_X4_thrown hl D e0 ) xcl_M rfl 0 0 rfl rfl tm716 tm717 tm718 tm7 tm719 md_X4_thrown ⟨Nat.le_of_ble_eq_true rfl, Nat.le_of_ble_eq_true rfl⟩ [7] rfl rfl rfl (Nat.le_of_ble_eq_true rfl) (by show k + 1 ≤ (601024 : Nat); omega) (by show n + 6 ≤ (7293034 : Nat); omega) dL_law_242 (fun E hE => False.elim hE) (fun v cs1 hp => ?_)
      obtain ⟨rfl, rfl⟩ := hp
      show G 245 [(6, .int (grV L (xs (i + 1)) (xs (i + 2)))), (5, .int 0), (4, .int (nI i)), (3, .ref oa), (2, .ref (am 0)), (1, .ref (ad 0)), (0, .ref b)] [.int 0] [xoW ad up op tr, lkW D ad L, alW D e0 (ad 2) hs N, rwW D (ad 3) (ad 10) (ad 11) (ad 12) gf qf.length, rwW D (ad 4) (ad 13) (ad 14) (ad 15) g1 ((qb ++ [(3, ix (xs (i + 1)), ix (grV L (xs (i + 1)) (xs (i + 2))))]).length), alW D e0 (ad 5) ht tq.length, dvW da N S om, moW am N tf tt bf (bt + 1) up op tr tq.length 0, mlW D am L, mdW D am S, rtW D am tg, rbW D am bg1, tdW D am td, [(oa, .inl (D.1 12, 1, .inr (.inl (vp_updL f 0 ((grV L (xs (i + 1)) (xs (i + 2))).toInt64)))))]] (k + 1) (n + 6)
      refine x_iload B (pc := 245) 1 dL_law_245 rfl ?_
      refine x_icmp_eq B (pc := 247) 252 dL_law_247 (by decide) (fun h247 => ?_) (fun h247 => absurd (by decide) h247)
      refine x_iload B (pc := 252) 1 dL_law_252 rfl ?_
      refine x_if_ne B (pc := 254) 269 dL_law_254 (by decide) (fun h254 => absurd (by decide) h254) (fun h254 => ?_)
      refine x_aload_n B (pc := 257) 3 dL_law_257 rfl rfl ?_
      refine x_iconst B (pc := 258) 0 dL_law_258 (by decide) ?_
      refine x_val B (y := nI 0) rfl ?_
      refine x_laldN B (pc := 259) 0 13 0 (by decide) (by decide) rfl rfl dL_law_259 ?_
      refine x_iload B (pc := 260) 0 dL_law_260 rfl ?_
      refine x_i2l B (pc := 262) dL_law_262 ?_
      refine x_lcmp B (pc := 263) dL_law_263 ?_
      refine x_val B (y := 0) out_cmp ?_
      refine x_if_eq B (pc := 264) 269 dL_law_264 (by decide) (fun h264 => ?_) (fun h264 => absurd (by decide) h264)
      refine x_goto B (pc := 269) 1137 dL_law_269 (by decide) ?_
      refine x_lv B [2, 3, 4, 5, 6] [(4, .int (nI i)), (3, .ref oa), (2, .ref (am 0)), (1, .ref (ad 0)), (0, .ref b)] rfl ?_
      refine x_wid B (k + 4) (n + 300) (by omega) (by omega) ?_
      exact K da hs ht gf g1 om L S N qf (qb ++ [(3, ix (xs (i + 1)), ix (grV L (xs (i + 1)) (xs (i + 2))))]) up op tr tq tf tt bf (bt + 1) tg bg1 td 0 (vp_updL f 0 ((grV L (xs (i + 1)) (xs (i + 2))).toInt64)) ⟨aInv_more (aInv_grant hI hc) (by omega), ⟨hok, hot, hq, hf0⟩, ⟨hmf, mf0, htd⟩, (by omega), (by omega)⟩
    · exact absurd hc hc2
  · show G 221 [(4, .int (nI i)), (3, .ref oa), (2, .ref (am 0)), (1, .ref (ad 0)), (0, .ref b)] [.int (nI (cod (xinB 0 3 (xs (i + 1))) (xinB 0 15 (xs (i + 2))) (decide (up = 1))))] [xoW ad up op tr, lkW D ad L, alW D e0 (ad 2) hs N, rwW D (ad 3) (ad 10) (ad 11) (ad 12) gf qf.length, rwW D (ad 4) (ad 13) (ad 14) (ad 15) gb qb.length, alW D e0 (ad 5) ht tq.length, dvW da N S om, moW am N tf tt bf bt up op tr tq.length th, mlW D am L, mdW D am S, rtW D am tg, rbW D am bg, tdW D am td, [(oa, .inl (D.1 12, 1, .inr (.inl f)))]] (k + 1) (n + 6)
    refine x_istore B (pc := 221) [(5, .int (nI (cod (xinB 0 3 (xs (i + 1))) (xinB 0 15 (xs (i + 2))) (decide (up = 1))))), (4, .int (nI i)), (3, .ref oa), (2, .ref (am 0)), (1, .ref (ad 0)), (0, .ref b)] dL_law_221 (by decide) rfl ?_
    refine x_aload_n B (pc := 223) 3 dL_law_223 rfl rfl ?_
    refine x_aload_n B (pc := 224) 5 dL_law_224 rfl rfl ?_
    refine x_iload B (pc := 225) 1 dL_law_225 rfl ?_
    refine x_iconst B (pc := 227) 1 dL_law_227 (by decide) ?_
    refine x_iadd B (pc := 228) dL_law_228 ?_
    refine x_val B (y := nI (i + 1)) (nI_add i 1) ?_
    refine x_sldN B0 (pc := 229) (d := (i + 1)) (by omega) (by omega) dL_law_229 ?_
    refine x_aload_n B (pc := 230) 5 dL_law_230 rfl rfl ?_
    refine x_iload B (pc := 231) 1 dL_law_231 rfl ?_
    refine x_iconst B (pc := 233) 2 dL_law_233 (by decide) ?_
    refine x_iadd B (pc := 234) dL_law_234 ?_
    refine x_val B (y := nI (i + 2)) (nI_add i 2) ?_
    refine x_sldN B0 (pc := 235) (d := (i + 2)) (by omega) (by omega) dL_law_235 ?_
    refine x_callV B (pc := 236) (As := [.int (xs (i + 1)), .int (xs (i + 2))]) (c_X4_grant hl D e0 hup hL hmb (by omega) (by omega)) xcl_M rfl 0 0 rfl rfl tm734 tm735 tm736 tm7 tm737 md_X4_grant ⟨Nat.le_of_ble_eq_true rfl, Nat.le_of_ble_eq_true rfl⟩ [7, 8, 11] rfl rfl rfl (Nat.le_of_ble_eq_true rfl) (by show k + 1 ≤ (601024 : Nat); omega) (by show n + 6 ≤ (7293034 : Nat); omega) dL_law_236 (fun E hE => False.elim hE) (fun v cs1 hp => ?_)
    rcases hp with ⟨hc2, hz2⟩ | ⟨hc2, ⟨z9, rfl⟩, rfl⟩
    · exact absurd hc2 hc
    · show G 239 [(5, .int (nI (cod (xinB 0 3 (xs (i + 1))) (xinB 0 15 (xs (i + 2))) (decide (up = 1))))), (4, .int (nI i)), (3, .ref oa), (2, .ref (am 0)), (1, .ref (ad 0)), (0, .ref b)] [.int z9] [xoW ad up op tr, lkW D ad L, alW D e0 (ad 2) hs N, rwW D (ad 3) (ad 10) (ad 11) (ad 12) gf qf.length, rwW D (ad 4) (ad 13) (ad 14) (ad 15) gb qb.length, alW D e0 (ad 5) ht tq.length, dvW da N S om, moW am N tf tt bf bt up op tr tq.length (nI (cod (xinB 0 3 (xs (i + 1))) (xinB 0 15 (xs (i + 2))) (decide (up = 1)))), mlW D am L, mdW D am S, rtW D am tg, rbW D am bg, tdW D am td, [(oa, .inl (D.1 12, 1, .inr (.inl f)))]] (k + 1) (n + 6)
      refine x_istore B (pc := 239) [(6, .int z9), (5, .int (nI (cod (xinB 0 3 (xs (i + 1))) (xinB 0 15 (xs (i + 2))) (decide (up = 1))))), (4, .int (nI i)), (3, .ref oa), (2, .ref (am 0)), (1, .ref (ad 0)), (0, .ref b)] dL_law_239 (by decide) rfl ?_
      refine x_aload_n B (pc := 241) 4 dL_law_241 rfl rfl ?_
      refine x_callV B (pc := 242) (As := []) (c_X4_thrown hl D e0 ) xcl_M rfl 0 0 rfl rfl tm716 tm717 tm718 tm7 tm719 md_X4_thrown ⟨Nat.le_of_ble_eq_true rfl, Nat.le_of_ble_eq_true rfl⟩ [7] rfl rfl rfl (Nat.le_of_ble_eq_true rfl) (by show k + 1 ≤ (601024 : Nat); omega) (by show n + 6 ≤ (7293034 : Nat); omega) dL_law_242 (fun E hE => False.elim hE) (fun v cs1 hp => ?_)
      obtain ⟨rfl, rfl⟩ := hp
      show G 245 [(6, .int z9), (5, .int (nI (cod (xinB 0 3 (xs (i + 1))) (xinB 0 15 (xs (i + 2))) (decide (up = 1))))), (4, .int (nI i)), (3, .ref oa), (2, .ref (am 0)), (1, .ref (ad 0)), (0, .ref b)] [.int (nI (cod (xinB 0 3 (xs (i + 1))) (xinB 0 15 (xs (i + 2))) (decide (up = 1))))] [xoW ad up op tr, lkW D ad L, alW D e0 (ad 2) hs N, rwW D (ad 3) (ad 10) (ad 11) (ad 12) gf qf.length, rwW D (ad 4) (ad 13) (ad 14) (ad 15) gb qb.length, alW D e0 (ad 5) ht tq.length, dvW da N S om, moW am N tf tt bf bt up op tr tq.length (nI (cod (xinB 0 3 (xs (i + 1))) (xinB 0 15 (xs (i + 2))) (decide (up = 1)))), mlW D am L, mdW D am S, rtW D am tg, rbW D am bg, tdW D am td, [(oa, .inl (D.1 12, 1, .inr (.inl f)))]] (k + 1) (n + 6)
      refine x_iload B (pc := 245) 1 dL_law_245 rfl ?_
      refine x_icmp_eq B (pc := 247) 252 dL_law_247 (by decide) (fun h247 => ?_) (fun h247 => absurd rfl h247)
      refine x_iload B (pc := 252) 1 dL_law_252 rfl ?_
      refine x_if_ne B (pc := 254) 269 dL_law_254 (by decide) (fun h254 => ?_) (fun h254 => absurd h254 (cod_nz hc))
      refine x_goto B (pc := 269) 1137 dL_law_269 (by decide) ?_
      refine x_lv B [2, 3, 4, 5, 6] [(4, .int (nI i)), (3, .ref oa), (2, .ref (am 0)), (1, .ref (ad 0)), (0, .ref b)] rfl ?_
      refine x_wid B (k + 4) (n + 300) (by omega) (by omega) ?_
      exact K da hs ht gf gb om L S N qf qb up op tr tq tf tt bf bt tg bg td (nI (cod (xinB 0 3 (xs (i + 1))) (xinB 0 15 (xs (i + 2))) (decide (up = 1)))) f ⟨aInv_more (hI) (by omega), ⟨hok, hot, hq, hqb⟩, ⟨hmf, hmb, htd⟩, (by omega), (by omega)⟩

set_option maxRecDepth 100000 in
set_option maxHeartbeats 4000000 in
/-- the call credit -/
theorem st_credit {l : Launch} (hl : l.stackTraces = false) (D : va_G) (e0 : Nat) {b Ls : Nat} {xs : Nat → Int32} {G : xGt} {X : xXt} (B0 : xL l D e0 b Ls xs G X) {ad am : Nat → Nat} {oa i t k n : Nat} (hi : i + 3 ≤ Ls) (hLs : Ls ≤ 1536) (ht9 : t < 512) (hk : k ≤ 4000) (hn : n ≤ 300000) (K : lTo G D e0 ad am oa b i (t + 1) (k + 4) (n + 300) 1137) : lTo G D e0 ad am oa b i t k n 272 := by
  intro da hs ht gf gb om L S N qf qb up op tr tq tf tt bf bt tg bg td th f hg
  obtain ⟨hI, ⟨hok, hot, hq, hqb⟩, ⟨hmf, hmb, htd⟩, htt, hbt⟩ := hg
  obtain ⟨hup, hop, hL, hN, hS, hF, hB, hPhi, hlen, hdn⟩ := id hI
  have hT := tq_len hI
  have hin := tq_in hS
  have hin60 : ∀ i, i < tq.length → tq.getD i 0 < 60 := fun i h => Nat.lt_of_lt_of_le (hin i h) hN
  have hl4 : ∀ d, d < N → ∃ j, j < 4 ∧ S 4 d = nI j := fun d hd => (hS.2.1 d hd).1
  have h69 : ∀ d, d < N → ∃ m, m ≤ 4 ∧ S 6 d = nI m := fun d hd => (hS.2.1 d hd).2.1
  have h79 : ∀ d, d < N → S 7 d = 0 ∨ S 7 d = 1 := fun d hd => (hS.2.1 d hd).2.2.1
  have h99 : ∀ d, d < N → S 9 d = 0 ∨ S 9 d = 1 ∨ S 9 d = 2 ∨ S 9 d = 3 ∨ S 9 d = 4 := fun d hd => (hS.2.1 d hd).2.2.2.1
  have hfe := hmf.1
  have hbe := hmb.1
  obtain ⟨hh, B⟩ := B0.base
  show G 272 [(4, .int (nI i)), (3, .ref oa), (2, .ref (am 0)), (1, .ref (ad 0)), (0, .ref b)] [] [xoW ad up op tr, lkW D ad L, alW D e0 (ad 2) hs N, rwW D (ad 3) (ad 10) (ad 11) (ad 12) gf qf.length, rwW D (ad 4) (ad 13) (ad 14) (ad 15) gb qb.length, alW D e0 (ad 5) ht tq.length, dvW da N S om, moW am N tf tt bf bt up op tr tq.length th, mlW D am L, mdW D am S, rtW D am tg, rbW D am bg, tdW D am td, [(oa, .inl (D.1 12, 1, .inr (.inl f)))]] k n
  refine x_aload_n B (pc := 272) 3 dL_law_272 rfl rfl ?_
  refine x_aload_n B (pc := 273) 4 dL_law_273 rfl rfl ?_
  refine x_iload B (pc := 274) 0 dL_law_274 rfl ?_
  refine x_iconst B (pc := 276) 1 dL_law_276 (by decide) ?_
  refine x_iadd B (pc := 277) dL_law_277 ?_
  refine x_val B (y := nI (i + 1)) (nI_add i 1) ?_
  refine x_sldN B0 (pc := 278) (d := (i + 1)) (by omega) (by omega) dL_law_278 ?_
  refine x_aload_n B (pc := 279) 1 dL_law_279 rfl rfl ?_
  refine x_callSX B (pc := 280) (As := [.ref (ad 0), .int (xs (i + 1)), .ref oa]) (c_L_credit hl D e0 ) tm309 tm310 tm0 tm311 md_L_credit ⟨Nat.le_of_ble_eq_true rfl, Nat.le_of_ble_eq_true rfl⟩ [0, 1, 13] rfl rfl rfl (Nat.le_of_ble_eq_true rfl) (by show k + 1 ≤ (601024 : Nat); omega) (by show n + 6 ≤ (7293034 : Nat); omega) dL_law_280 (fun E hE => False.elim hE) (fun v cs1 hp => ?_)
  rcases hp with ⟨hc, rfl, rfl⟩ | ⟨hc, rfl, rfl⟩
  · show G 283 [(4, .int (nI i)), (3, .ref oa), (2, .ref (am 0)), (1, .ref (ad 0)), (0, .ref b)] [.int 0] [xoW ad up op tr, lkW D ad L, alW D e0 (ad 2) hs N, rwW D (ad 3) (ad 10) (ad 11) (ad 12) gf qf.length, rwW D (ad 4) (ad 13) (ad 14) (ad 15) gb qb.length, alW D e0 (ad 5) ht tq.length, dvW da N S om, moW am N tf tt bf bt up op tr tq.length th, mlW D am L, mdW D am S, rtW D am tg, rbW D am bg, tdW D am td, [(oa, .inl (D.1 12, 1, .inr (.inl (vp_updL f 0 ((crd L (ix (xs (i + 1)))).toInt64)))))]] (k + 1) (n + 6)
    refine x_istore B (pc := 283) [(5, .int 0), (4, .int (nI i)), (3, .ref oa), (2, .ref (am 0)), (1, .ref (ad 0)), (0, .ref b)] dL_law_283 (by decide) rfl ?_
    refine x_aload_n B (pc := 285) 3 dL_law_285 rfl rfl ?_
    refine x_aload_n B (pc := 286) 5 dL_law_286 rfl rfl ?_
    refine x_iload B (pc := 287) 1 dL_law_287 rfl ?_
    refine x_iconst B (pc := 289) 1 dL_law_289 (by decide) ?_
    refine x_iadd B (pc := 290) dL_law_290 ?_
    refine x_val B (y := nI (i + 1)) (nI_add i 1) ?_
    refine x_sldN B0 (pc := 291) (d := (i + 1)) (by omega) (by omega) dL_law_291 ?_
    refine x_callV B (pc := 292) (As := [.int (xs (i + 1))]) (c_X4_credit hl D e0 hL) xcl_M rfl 0 0 rfl rfl tm746 tm747 tm748 tm7 tm749 md_X4_credit ⟨Nat.le_of_ble_eq_true rfl, Nat.le_of_ble_eq_true rfl⟩ [7, 8] rfl rfl rfl (Nat.le_of_ble_eq_true rfl) (by show k + 1 ≤ (601024 : Nat); omega) (by show n + 6 ≤ (7293034 : Nat); omega) dL_law_292 (fun E hE => False.elim hE) (fun v cs1 hp => ?_)
    rcases hp with ⟨hc2, rfl, rfl⟩ | ⟨hc2, hz2⟩
    · show G 295 [(5, .int 0), (4, .int (nI i)), (3, .ref oa), (2, .ref (am 0)), (1, .ref (ad 0)), (0, .ref b)] [.int (crd L (ix (xs (i + 1))))] [xoW ad up op tr, lkW D ad L, alW D e0 (ad 2) hs N, rwW D (ad 3) (ad 10) (ad 11) (ad 12) gf qf.length, rwW D (ad 4) (ad 13) (ad 14) (ad 15) gb qb.length, alW D e0 (ad 5) ht tq.length, dvW da N S om, moW am N tf tt bf bt up op tr tq.length 0, mlW D am L, mdW D am S, rtW D am tg, rbW D am bg, tdW D am td, [(oa, .inl (D.1 12, 1, .inr (.inl (vp_updL f 0 ((crd L (ix (xs (i + 1)))).toInt64)))))]] (k + 1) (n + 6)
      refine x_istore B (pc := 295) [(6, .int (crd L (ix (xs (i + 1))))), (5, .int 0), (4, .int (nI i)), (3, .ref oa), (2, .ref (am 0)), (1, .ref (ad 0)), (0, .ref b)] dL_law_295 (by decide) rfl ?_
      refine x_aload_n B (pc := 297) 4 dL_law_297 rfl rfl ?_
      refine x_callV B (pc := 298) (As := []) (c_X4_thrown hl D e0 ) xcl_M rfl 0 0 rfl rfl tm716 tm717 tm718 tm7 tm719 md_X4_thrown ⟨Nat.le_of_ble_eq_true rfl, Nat.le_of_ble_eq_true rfl⟩ [7] rfl rfl rfl (Nat.le_of_ble_eq_true rfl) (by show k + 1 ≤ (601024 : Nat); omega) (by show n + 6 ≤ (7293034 : Nat); omega) dL_law_298 (fun E hE => False.elim hE) (fun v cs1 hp => ?_)
      obtain ⟨rfl, rfl⟩ := hp
      show G 301 [(6, .int (crd L (ix (xs (i + 1))))), (5, .int 0), (4, .int (nI i)), (3, .ref oa), (2, .ref (am 0)), (1, .ref (ad 0)), (0, .ref b)] [.int 0] [xoW ad up op tr, lkW D ad L, alW D e0 (ad 2) hs N, rwW D (ad 3) (ad 10) (ad 11) (ad 12) gf qf.length, rwW D (ad 4) (ad 13) (ad 14) (ad 15) gb qb.length, alW D e0 (ad 5) ht tq.length, dvW da N S om, moW am N tf tt bf bt up op tr tq.length 0, mlW D am L, mdW D am S, rtW D am tg, rbW D am bg, tdW D am td, [(oa, .inl (D.1 12, 1, .inr (.inl (vp_updL f 0 ((crd L (ix (xs (i + 1)))).toInt64)))))]] (k + 1) (n + 6)
      refine x_iload B (pc := 301) 1 dL_law_301 rfl ?_
      refine x_icmp_eq B (pc := 303) 308 dL_law_303 (by decide) (fun h303 => ?_) (fun h303 => absurd (by decide) h303)
      refine x_iload B (pc := 308) 1 dL_law_308 rfl ?_
      refine x_if_ne B (pc := 310) 325 dL_law_310 (by decide) (fun h310 => absurd (by decide) h310) (fun h310 => ?_)
      refine x_aload_n B (pc := 313) 3 dL_law_313 rfl rfl ?_
      refine x_iconst B (pc := 314) 0 dL_law_314 (by decide) ?_
      refine x_val B (y := nI 0) rfl ?_
      refine x_laldN B (pc := 315) 0 13 0 (by decide) (by decide) rfl rfl dL_law_315 ?_
      refine x_iload B (pc := 316) 0 dL_law_316 rfl ?_
      refine x_i2l B (pc := 318) dL_law_318 ?_
      refine x_lcmp B (pc := 319) dL_law_319 ?_
      refine x_val B (y := 0) out_cmp ?_
      refine x_if_eq B (pc := 320) 325 dL_law_320 (by decide) (fun h320 => ?_) (fun h320 => absurd (by decide) h320)
      refine x_goto B (pc := 325) 1137 dL_law_325 (by decide) ?_
      refine x_lv B [2, 3, 4, 5, 6] [(4, .int (nI i)), (3, .ref oa), (2, .ref (am 0)), (1, .ref (ad 0)), (0, .ref b)] rfl ?_
      refine x_wid B (k + 4) (n + 300) (by omega) (by omega) ?_
      exact K da hs ht gf gb om L S N qf qb up op tr tq tf tt bf bt tg bg td 0 (vp_updL f 0 ((crd L (ix (xs (i + 1)))).toInt64)) ⟨aInv_more (hI) (by omega), ⟨hok, hot, hq, hqb⟩, ⟨hmf, hmb, htd⟩, (by omega), (by omega)⟩
    · exact absurd hc hc2
  · show G 283 [(4, .int (nI i)), (3, .ref oa), (2, .ref (am 0)), (1, .ref (ad 0)), (0, .ref b)] [.int (nI (cod (xinB 0 3 (xs (i + 1))) true true))] [xoW ad up op tr, lkW D ad L, alW D e0 (ad 2) hs N, rwW D (ad 3) (ad 10) (ad 11) (ad 12) gf qf.length, rwW D (ad 4) (ad 13) (ad 14) (ad 15) gb qb.length, alW D e0 (ad 5) ht tq.length, dvW da N S om, moW am N tf tt bf bt up op tr tq.length th, mlW D am L, mdW D am S, rtW D am tg, rbW D am bg, tdW D am td, [(oa, .inl (D.1 12, 1, .inr (.inl f)))]] (k + 1) (n + 6)
    refine x_istore B (pc := 283) [(5, .int (nI (cod (xinB 0 3 (xs (i + 1))) true true))), (4, .int (nI i)), (3, .ref oa), (2, .ref (am 0)), (1, .ref (ad 0)), (0, .ref b)] dL_law_283 (by decide) rfl ?_
    refine x_aload_n B (pc := 285) 3 dL_law_285 rfl rfl ?_
    refine x_aload_n B (pc := 286) 5 dL_law_286 rfl rfl ?_
    refine x_iload B (pc := 287) 1 dL_law_287 rfl ?_
    refine x_iconst B (pc := 289) 1 dL_law_289 (by decide) ?_
    refine x_iadd B (pc := 290) dL_law_290 ?_
    refine x_val B (y := nI (i + 1)) (nI_add i 1) ?_
    refine x_sldN B0 (pc := 291) (d := (i + 1)) (by omega) (by omega) dL_law_291 ?_
    refine x_callV B (pc := 292) (As := [.int (xs (i + 1))]) (c_X4_credit hl D e0 hL) xcl_M rfl 0 0 rfl rfl tm746 tm747 tm748 tm7 tm749 md_X4_credit ⟨Nat.le_of_ble_eq_true rfl, Nat.le_of_ble_eq_true rfl⟩ [7, 8] rfl rfl rfl (Nat.le_of_ble_eq_true rfl) (by show k + 1 ≤ (601024 : Nat); omega) (by show n + 6 ≤ (7293034 : Nat); omega) dL_law_292 (fun E hE => False.elim hE) (fun v cs1 hp => ?_)
    rcases hp with ⟨hc2, hz2⟩ | ⟨hc2, ⟨z9, rfl⟩, rfl⟩
    · exact absurd hc2 hc
    · show G 295 [(5, .int (nI (cod (xinB 0 3 (xs (i + 1))) true true))), (4, .int (nI i)), (3, .ref oa), (2, .ref (am 0)), (1, .ref (ad 0)), (0, .ref b)] [.int z9] [xoW ad up op tr, lkW D ad L, alW D e0 (ad 2) hs N, rwW D (ad 3) (ad 10) (ad 11) (ad 12) gf qf.length, rwW D (ad 4) (ad 13) (ad 14) (ad 15) gb qb.length, alW D e0 (ad 5) ht tq.length, dvW da N S om, moW am N tf tt bf bt up op tr tq.length (nI (cod (xinB 0 3 (xs (i + 1))) true true)), mlW D am L, mdW D am S, rtW D am tg, rbW D am bg, tdW D am td, [(oa, .inl (D.1 12, 1, .inr (.inl f)))]] (k + 1) (n + 6)
      refine x_istore B (pc := 295) [(6, .int z9), (5, .int (nI (cod (xinB 0 3 (xs (i + 1))) true true))), (4, .int (nI i)), (3, .ref oa), (2, .ref (am 0)), (1, .ref (ad 0)), (0, .ref b)] dL_law_295 (by decide) rfl ?_
      refine x_aload_n B (pc := 297) 4 dL_law_297 rfl rfl ?_
      refine x_callV B (pc := 298) (As := []) (c_X4_thrown hl D e0 ) xcl_M rfl 0 0 rfl rfl tm716 tm717 tm718 tm7 tm719 md_X4_thrown ⟨Nat.le_of_ble_eq_true rfl, Nat.le_of_ble_eq_true rfl⟩ [7] rfl rfl rfl (Nat.le_of_ble_eq_true rfl) (by show k + 1 ≤ (601024 : Nat); omega) (by show n + 6 ≤ (7293034 : Nat); omega) dL_law_298 (fun E hE => False.elim hE) (fun v cs1 hp => ?_)
      obtain ⟨rfl, rfl⟩ := hp
      show G 301 [(6, .int z9), (5, .int (nI (cod (xinB 0 3 (xs (i + 1))) true true))), (4, .int (nI i)), (3, .ref oa), (2, .ref (am 0)), (1, .ref (ad 0)), (0, .ref b)] [.int (nI (cod (xinB 0 3 (xs (i + 1))) true true))] [xoW ad up op tr, lkW D ad L, alW D e0 (ad 2) hs N, rwW D (ad 3) (ad 10) (ad 11) (ad 12) gf qf.length, rwW D (ad 4) (ad 13) (ad 14) (ad 15) gb qb.length, alW D e0 (ad 5) ht tq.length, dvW da N S om, moW am N tf tt bf bt up op tr tq.length (nI (cod (xinB 0 3 (xs (i + 1))) true true)), mlW D am L, mdW D am S, rtW D am tg, rbW D am bg, tdW D am td, [(oa, .inl (D.1 12, 1, .inr (.inl f)))]] (k + 1) (n + 6)
      refine x_iload B (pc := 301) 1 dL_law_301 rfl ?_
      refine x_icmp_eq B (pc := 303) 308 dL_law_303 (by decide) (fun h303 => ?_) (fun h303 => absurd rfl h303)
      refine x_iload B (pc := 308) 1 dL_law_308 rfl ?_
      refine x_if_ne B (pc := 310) 325 dL_law_310 (by decide) (fun h310 => ?_) (fun h310 => absurd h310 (cod_nz hc))
      refine x_goto B (pc := 325) 1137 dL_law_325 (by decide) ?_
      refine x_lv B [2, 3, 4, 5, 6] [(4, .int (nI i)), (3, .ref oa), (2, .ref (am 0)), (1, .ref (ad 0)), (0, .ref b)] rfl ?_
      refine x_wid B (k + 4) (n + 300) (by omega) (by omega) ?_
      exact K da hs ht gf gb om L S N qf qb up op tr tq tf tt bf bt tg bg td (nI (cod (xinB 0 3 (xs (i + 1))) true true)) f ⟨aInv_more (hI) (by omega), ⟨hok, hot, hq, hqb⟩, ⟨hmf, hmb, htd⟩, (by omega), (by omega)⟩

set_option maxRecDepth 100000 in
set_option maxHeartbeats 4000000 in
/-- the call send -/
theorem st_send {l : Launch} (hl : l.stackTraces = false) (D : va_G) (e0 : Nat) {b Ls : Nat} {xs : Nat → Int32} {G : xGt} {X : xXt} (B0 : xL l D e0 b Ls xs G X) {ad am : Nat → Nat} {oa i t k n : Nat} (hi : i + 3 ≤ Ls) (hLs : Ls ≤ 1536) (ht9 : t < 512) (hk : k ≤ 4000) (hn : n ≤ 300000) (K : lTo G D e0 ad am oa b i (t + 1) (k + 4) (n + 300) 1137) : lTo G D e0 ad am oa b i t k n 328 := by
  intro da hs ht gf gb om L S N qf qb up op tr tq tf tt bf bt tg bg td th f hg
  obtain ⟨hI, ⟨hok, hot, hq, hqb⟩, ⟨hmf, hmb, htd⟩, htt, hbt⟩ := hg
  obtain ⟨hup, hop, hL, hN, hS, hF, hB, hPhi, hlen, hdn⟩ := id hI
  have hT := tq_len hI
  have hin := tq_in hS
  have hin60 : ∀ i, i < tq.length → tq.getD i 0 < 60 := fun i h => Nat.lt_of_lt_of_le (hin i h) hN
  have hl4 : ∀ d, d < N → ∃ j, j < 4 ∧ S 4 d = nI j := fun d hd => (hS.2.1 d hd).1
  have h69 : ∀ d, d < N → ∃ m, m ≤ 4 ∧ S 6 d = nI m := fun d hd => (hS.2.1 d hd).2.1
  have h79 : ∀ d, d < N → S 7 d = 0 ∨ S 7 d = 1 := fun d hd => (hS.2.1 d hd).2.2.1
  have h99 : ∀ d, d < N → S 9 d = 0 ∨ S 9 d = 1 ∨ S 9 d = 2 ∨ S 9 d = 3 ∨ S 9 d = 4 := fun d hd => (hS.2.1 d hd).2.2.2.1
  have hfe := hmf.1
  have hbe := hmb.1
  obtain ⟨hh, B⟩ := B0.base
  show G 328 [(4, .int (nI i)), (3, .ref oa), (2, .ref (am 0)), (1, .ref (ad 0)), (0, .ref b)] [] [xoW ad up op tr, lkW D ad L, alW D e0 (ad 2) hs N, rwW D (ad 3) (ad 10) (ad 11) (ad 12) gf qf.length, rwW D (ad 4) (ad 13) (ad 14) (ad 15) gb qb.length, alW D e0 (ad 5) ht tq.length, dvW da N S om, moW am N tf tt bf bt up op tr tq.length th, mlW D am L, mdW D am S, rtW D am tg, rbW D am bg, tdW D am td, [(oa, .inl (D.1 12, 1, .inr (.inl f)))]] k n
  refine x_aload_n B (pc := 328) 3 dL_law_328 rfl rfl ?_
  refine x_aload_n B (pc := 329) 4 dL_law_329 rfl rfl ?_
  refine x_iload B (pc := 330) 0 dL_law_330 rfl ?_
  refine x_iconst B (pc := 332) 1 dL_law_332 (by decide) ?_
  refine x_iadd B (pc := 333) dL_law_333 ?_
  refine x_val B (y := nI (i + 1)) (nI_add i 1) ?_
  refine x_sldN B0 (pc := 334) (d := (i + 1)) (by omega) (by omega) dL_law_334 ?_
  refine x_aload_n B (pc := 335) 4 dL_law_335 rfl rfl ?_
  refine x_iload B (pc := 336) 0 dL_law_336 rfl ?_
  refine x_iconst B (pc := 338) 2 dL_law_338 (by decide) ?_
  refine x_iadd B (pc := 339) dL_law_339 ?_
  refine x_val B (y := nI (i + 2)) (nI_add i 2) ?_
  refine x_sldN B0 (pc := 340) (d := (i + 2)) (by omega) (by omega) dL_law_340 ?_
  refine x_aload_n B (pc := 341) 1 dL_law_341 rfl rfl ?_
  refine x_callSX B (pc := 342) (As := [.ref (ad 0), .int (xs (i + 1)), .int (xs (i + 2)), .ref oa]) (c_L_send hl D e0 hup hok hN hq (by omega) (hS.2.2.1 N (Nat.le_refl N))) tm321 tm322 tm0 tm323 md_L_send ⟨Nat.le_of_ble_eq_true rfl, Nat.le_of_ble_eq_true rfl⟩ [0, 1, 2, 3, 6, 13] rfl rfl rfl (Nat.le_of_ble_eq_true rfl) (by show k + 2 ≤ (601024 : Nat); omega) (by show n + 212 ≤ (7293034 : Nat); omega) dL_law_342 (fun E hE => False.elim hE) (fun v cs1 hp => ?_)
  rcases hp with ⟨hc, rfl, h1, g1, da1, hf0, hf1, hf2, rfl⟩ | ⟨hc, rfl, rfl⟩
  · show G 345 [(4, .int (nI i)), (3, .ref oa), (2, .ref (am 0)), (1, .ref (ad 0)), (0, .ref b)] [.int 0] [xoW ad up op tr, lkW D ad (xup L 1 (ix (xs (i + 1))) ((L 1 (ix (xs (i + 1))) + 1) &&& 15)), alW D e0 (ad 2) h1 (N + 1), rwW D (ad 3) (ad 10) (ad 11) (ad 12) g1 ((qf ++ pts 0 N (ix (xs (i + 2)))).length), rwW D (ad 4) (ad 13) (ad 14) (ad 15) gb qb.length, alW D e0 (ad 5) ht tq.length, dvW da1 (N + 1) (sendS L S N (xs (i + 1)) (xs (i + 2))) (upd om N (-1)), moW am N tf tt bf bt up op tr tq.length th, mlW D am L, mdW D am S, rtW D am tg, rbW D am bg, tdW D am td, [(oa, .inl (D.1 12, 1, .inr (.inl (vp_updL f 0 ((nI N).toInt64)))))]] (k + 2) (n + 212)
    refine x_istore B (pc := 345) [(5, .int 0), (4, .int (nI i)), (3, .ref oa), (2, .ref (am 0)), (1, .ref (ad 0)), (0, .ref b)] dL_law_345 (by decide) rfl ?_
    refine x_aload_n B (pc := 347) 3 dL_law_347 rfl rfl ?_
    refine x_aload_n B (pc := 348) 5 dL_law_348 rfl rfl ?_
    refine x_iload B (pc := 349) 1 dL_law_349 rfl ?_
    refine x_iconst B (pc := 351) 1 dL_law_351 (by decide) ?_
    refine x_iadd B (pc := 352) dL_law_352 ?_
    refine x_val B (y := nI (i + 1)) (nI_add i 1) ?_
    refine x_sldN B0 (pc := 353) (d := (i + 1)) (by omega) (by omega) dL_law_353 ?_
    refine x_aload_n B (pc := 354) 5 dL_law_354 rfl rfl ?_
    refine x_iload B (pc := 355) 1 dL_law_355 rfl ?_
    refine x_iconst B (pc := 357) 2 dL_law_357 (by decide) ?_
    refine x_iadd B (pc := 358) dL_law_358 ?_
    refine x_val B (y := nI (i + 2)) (nI_add i 2) ?_
    refine x_sldN B0 (pc := 359) (d := (i + 2)) (by omega) (by omega) dL_law_359 ?_
    refine x_callV B (pc := 360) (As := [.int (xs (i + 1)), .int (xs (i + 2))]) (c_X4_send hl D e0 hup hL hN hmf (by omega) (by omega)) xcl_M rfl 0 0 rfl rfl tm758 tm759 tm760 tm7 tm761 md_X4_send ⟨Nat.le_of_ble_eq_true rfl, Nat.le_of_ble_eq_true rfl⟩ [7, 8, 9, 10] rfl rfl rfl (Nat.le_of_ble_eq_true rfl) (by show k + 2 ≤ (601024 : Nat); omega) (by show n + 212 ≤ (7293034 : Nat); omega) dL_law_360 (fun E hE => False.elim hE) (fun v cs1 hp => ?_)
    rcases hp with ⟨hc2, rfl, tg1, mf0, rfl⟩ | ⟨hc2, hz2⟩
    · show G 363 [(5, .int 0), (4, .int (nI i)), (3, .ref oa), (2, .ref (am 0)), (1, .ref (ad 0)), (0, .ref b)] [.int (nI N)] [xoW ad up op tr, lkW D ad (xup L 1 (ix (xs (i + 1))) ((L 1 (ix (xs (i + 1))) + 1) &&& 15)), alW D e0 (ad 2) h1 (N + 1), rwW D (ad 3) (ad 10) (ad 11) (ad 12) g1 ((qf ++ pts 0 N (ix (xs (i + 2)))).length), rwW D (ad 4) (ad 13) (ad 14) (ad 15) gb qb.length, alW D e0 (ad 5) ht tq.length, dvW da1 (N + 1) (sendS L S N (xs (i + 1)) (xs (i + 2))) (upd om N (-1)), moW am (N + 1) tf (tt + ix (xs (i + 2))) bf bt up op tr tq.length 0, mlW D am (xup L 1 (ix (xs (i + 1))) ((L 1 (ix (xs (i + 1))) + 1) &&& 15)), mdW D am (sendS L S N (xs (i + 1)) (xs (i + 2))), rtW D am tg1, rbW D am bg, tdW D am td, [(oa, .inl (D.1 12, 1, .inr (.inl (vp_updL f 0 ((nI N).toInt64)))))]] (k + 2) (n + 212)
      refine x_istore B (pc := 363) [(6, .int (nI N)), (5, .int 0), (4, .int (nI i)), (3, .ref oa), (2, .ref (am 0)), (1, .ref (ad 0)), (0, .ref b)] dL_law_363 (by decide) rfl ?_
      refine x_aload_n B (pc := 365) 4 dL_law_365 rfl rfl ?_
      refine x_callV B (pc := 366) (As := []) (c_X4_thrown hl D e0 ) xcl_M rfl 0 0 rfl rfl tm716 tm717 tm718 tm7 tm719 md_X4_thrown ⟨Nat.le_of_ble_eq_true rfl, Nat.le_of_ble_eq_true rfl⟩ [7] rfl rfl rfl (Nat.le_of_ble_eq_true rfl) (by show k + 2 ≤ (601024 : Nat); omega) (by show n + 212 ≤ (7293034 : Nat); omega) dL_law_366 (fun E hE => False.elim hE) (fun v cs1 hp => ?_)
      obtain ⟨rfl, rfl⟩ := hp
      show G 369 [(6, .int (nI N)), (5, .int 0), (4, .int (nI i)), (3, .ref oa), (2, .ref (am 0)), (1, .ref (ad 0)), (0, .ref b)] [.int 0] [xoW ad up op tr, lkW D ad (xup L 1 (ix (xs (i + 1))) ((L 1 (ix (xs (i + 1))) + 1) &&& 15)), alW D e0 (ad 2) h1 (N + 1), rwW D (ad 3) (ad 10) (ad 11) (ad 12) g1 ((qf ++ pts 0 N (ix (xs (i + 2)))).length), rwW D (ad 4) (ad 13) (ad 14) (ad 15) gb qb.length, alW D e0 (ad 5) ht tq.length, dvW da1 (N + 1) (sendS L S N (xs (i + 1)) (xs (i + 2))) (upd om N (-1)), moW am (N + 1) tf (tt + ix (xs (i + 2))) bf bt up op tr tq.length 0, mlW D am (xup L 1 (ix (xs (i + 1))) ((L 1 (ix (xs (i + 1))) + 1) &&& 15)), mdW D am (sendS L S N (xs (i + 1)) (xs (i + 2))), rtW D am tg1, rbW D am bg, tdW D am td, [(oa, .inl (D.1 12, 1, .inr (.inl (vp_updL f 0 ((nI N).toInt64)))))]] (k + 2) (n + 212)
      refine x_iload B (pc := 369) 1 dL_law_369 rfl ?_
      refine x_icmp_eq B (pc := 371) 376 dL_law_371 (by decide) (fun h371 => ?_) (fun h371 => absurd (by decide) h371)
      refine x_iload B (pc := 376) 1 dL_law_376 rfl ?_
      refine x_if_ne B (pc := 378) 393 dL_law_378 (by decide) (fun h378 => absurd (by decide) h378) (fun h378 => ?_)
      refine x_aload_n B (pc := 381) 3 dL_law_381 rfl rfl ?_
      refine x_iconst B (pc := 382) 0 dL_law_382 (by decide) ?_
      refine x_val B (y := nI 0) rfl ?_
      refine x_laldN B (pc := 383) 0 13 0 (by decide) (by decide) rfl rfl dL_law_383 ?_
      refine x_iload B (pc := 384) 0 dL_law_384 rfl ?_
      refine x_i2l B (pc := 386) dL_law_386 ?_
      refine x_lcmp B (pc := 387) dL_law_387 ?_
      refine x_val B (y := 0) out_cmp ?_
      refine x_if_eq B (pc := 388) 393 dL_law_388 (by decide) (fun h388 => ?_) (fun h388 => absurd (by decide) h388)
      refine x_goto B (pc := 393) 1137 dL_law_393 (by decide) ?_
      refine x_lv B [2, 3, 4, 5, 6] [(4, .int (nI i)), (3, .ref oa), (2, .ref (am 0)), (1, .ref (ad 0)), (0, .ref b)] rfl ?_
      have hb4 := ix_le (cod_0 hc).2.1 (by decide) (by decide)
      refine x_wid B (k + 4) (n + 300) (by omega) (by omega) ?_
      exact K da1 h1 ht g1 gb (upd om N (-1)) (xup L 1 (ix (xs (i + 1))) ((L 1 (ix (xs (i + 1))) + 1) &&& 15)) (sendS L S N (xs (i + 1)) (xs (i + 2))) (N + 1) (qf ++ pts 0 N (ix (xs (i + 2)))) qb up op tr tq tf (tt + ix (xs (i + 2))) bf bt tg1 bg td 0 (vp_updL f 0 ((nI N).toInt64)) ⟨aInv_more (aInv_send hI hc) (by omega), ⟨hf0, al_w hot (fun i hi => (hf1 _ (hin i hi)).symm), hf2, hqb⟩, ⟨mf0, hmb, htd⟩, (by omega), (by omega)⟩
    · exact absurd hc hc2
  · show G 345 [(4, .int (nI i)), (3, .ref oa), (2, .ref (am 0)), (1, .ref (ad 0)), (0, .ref b)] [.int (nI (cod (xinB 0 3 (xs (i + 1))) (xinB 1 4 (xs (i + 2))) (decide (up = 1) && (decide (N < 60) && !decide (crd L (ix (xs (i + 1))) = 0)))))] [xoW ad up op tr, lkW D ad L, alW D e0 (ad 2) hs N, rwW D (ad 3) (ad 10) (ad 11) (ad 12) gf qf.length, rwW D (ad 4) (ad 13) (ad 14) (ad 15) gb qb.length, alW D e0 (ad 5) ht tq.length, dvW da N S om, moW am N tf tt bf bt up op tr tq.length th, mlW D am L, mdW D am S, rtW D am tg, rbW D am bg, tdW D am td, [(oa, .inl (D.1 12, 1, .inr (.inl f)))]] (k + 2) (n + 212)
    refine x_istore B (pc := 345) [(5, .int (nI (cod (xinB 0 3 (xs (i + 1))) (xinB 1 4 (xs (i + 2))) (decide (up = 1) && (decide (N < 60) && !decide (crd L (ix (xs (i + 1))) = 0)))))), (4, .int (nI i)), (3, .ref oa), (2, .ref (am 0)), (1, .ref (ad 0)), (0, .ref b)] dL_law_345 (by decide) rfl ?_
    refine x_aload_n B (pc := 347) 3 dL_law_347 rfl rfl ?_
    refine x_aload_n B (pc := 348) 5 dL_law_348 rfl rfl ?_
    refine x_iload B (pc := 349) 1 dL_law_349 rfl ?_
    refine x_iconst B (pc := 351) 1 dL_law_351 (by decide) ?_
    refine x_iadd B (pc := 352) dL_law_352 ?_
    refine x_val B (y := nI (i + 1)) (nI_add i 1) ?_
    refine x_sldN B0 (pc := 353) (d := (i + 1)) (by omega) (by omega) dL_law_353 ?_
    refine x_aload_n B (pc := 354) 5 dL_law_354 rfl rfl ?_
    refine x_iload B (pc := 355) 1 dL_law_355 rfl ?_
    refine x_iconst B (pc := 357) 2 dL_law_357 (by decide) ?_
    refine x_iadd B (pc := 358) dL_law_358 ?_
    refine x_val B (y := nI (i + 2)) (nI_add i 2) ?_
    refine x_sldN B0 (pc := 359) (d := (i + 2)) (by omega) (by omega) dL_law_359 ?_
    refine x_callV B (pc := 360) (As := [.int (xs (i + 1)), .int (xs (i + 2))]) (c_X4_send hl D e0 hup hL hN hmf (by omega) (by omega)) xcl_M rfl 0 0 rfl rfl tm758 tm759 tm760 tm7 tm761 md_X4_send ⟨Nat.le_of_ble_eq_true rfl, Nat.le_of_ble_eq_true rfl⟩ [7, 8, 9, 10] rfl rfl rfl (Nat.le_of_ble_eq_true rfl) (by show k + 2 ≤ (601024 : Nat); omega) (by show n + 212 ≤ (7293034 : Nat); omega) dL_law_360 (fun E hE => False.elim hE) (fun v cs1 hp => ?_)
    rcases hp with ⟨hc2, hz2⟩ | ⟨hc2, ⟨z9, rfl⟩, rfl⟩
    · exact absurd hc2 hc
    · show G 363 [(5, .int (nI (cod (xinB 0 3 (xs (i + 1))) (xinB 1 4 (xs (i + 2))) (decide (up = 1) && (decide (N < 60) && !decide (crd L (ix (xs (i + 1))) = 0)))))), (4, .int (nI i)), (3, .ref oa), (2, .ref (am 0)), (1, .ref (ad 0)), (0, .ref b)] [.int z9] [xoW ad up op tr, lkW D ad L, alW D e0 (ad 2) hs N, rwW D (ad 3) (ad 10) (ad 11) (ad 12) gf qf.length, rwW D (ad 4) (ad 13) (ad 14) (ad 15) gb qb.length, alW D e0 (ad 5) ht tq.length, dvW da N S om, moW am N tf tt bf bt up op tr tq.length (nI (cod (xinB 0 3 (xs (i + 1))) (xinB 1 4 (xs (i + 2))) (decide (up = 1) && (decide (N < 60) && !decide (crd L (ix (xs (i + 1))) = 0))))), mlW D am L, mdW D am S, rtW D am tg, rbW D am bg, tdW D am td, [(oa, .inl (D.1 12, 1, .inr (.inl f)))]] (k + 2) (n + 212)
      refine x_istore B (pc := 363) [(6, .int z9), (5, .int (nI (cod (xinB 0 3 (xs (i + 1))) (xinB 1 4 (xs (i + 2))) (decide (up = 1) && (decide (N < 60) && !decide (crd L (ix (xs (i + 1))) = 0)))))), (4, .int (nI i)), (3, .ref oa), (2, .ref (am 0)), (1, .ref (ad 0)), (0, .ref b)] dL_law_363 (by decide) rfl ?_
      refine x_aload_n B (pc := 365) 4 dL_law_365 rfl rfl ?_
      refine x_callV B (pc := 366) (As := []) (c_X4_thrown hl D e0 ) xcl_M rfl 0 0 rfl rfl tm716 tm717 tm718 tm7 tm719 md_X4_thrown ⟨Nat.le_of_ble_eq_true rfl, Nat.le_of_ble_eq_true rfl⟩ [7] rfl rfl rfl (Nat.le_of_ble_eq_true rfl) (by show k + 2 ≤ (601024 : Nat); omega) (by show n + 212 ≤ (7293034 : Nat); omega) dL_law_366 (fun E hE => False.elim hE) (fun v cs1 hp => ?_)
      obtain ⟨rfl, rfl⟩ := hp
      show G 369 [(6, .int z9), (5, .int (nI (cod (xinB 0 3 (xs (i + 1))) (xinB 1 4 (xs (i + 2))) (decide (up = 1) && (decide (N < 60) && !decide (crd L (ix (xs (i + 1))) = 0)))))), (4, .int (nI i)), (3, .ref oa), (2, .ref (am 0)), (1, .ref (ad 0)), (0, .ref b)] [.int (nI (cod (xinB 0 3 (xs (i + 1))) (xinB 1 4 (xs (i + 2))) (decide (up = 1) && (decide (N < 60) && !decide (crd L (ix (xs (i + 1))) = 0)))))] [xoW ad up op tr, lkW D ad L, alW D e0 (ad 2) hs N, rwW D (ad 3) (ad 10) (ad 11) (ad 12) gf qf.length, rwW D (ad 4) (ad 13) (ad 14) (ad 15) gb qb.length, alW D e0 (ad 5) ht tq.length, dvW da N S om, moW am N tf tt bf bt up op tr tq.length (nI (cod (xinB 0 3 (xs (i + 1))) (xinB 1 4 (xs (i + 2))) (decide (up = 1) && (decide (N < 60) && !decide (crd L (ix (xs (i + 1))) = 0))))), mlW D am L, mdW D am S, rtW D am tg, rbW D am bg, tdW D am td, [(oa, .inl (D.1 12, 1, .inr (.inl f)))]] (k + 2) (n + 212)
      refine x_iload B (pc := 369) 1 dL_law_369 rfl ?_
      refine x_icmp_eq B (pc := 371) 376 dL_law_371 (by decide) (fun h371 => ?_) (fun h371 => absurd rfl h371)
      refine x_iload B (pc := 376) 1 dL_law_376 rfl ?_
      refine x_if_ne B (pc := 378) 393 dL_law_378 (by decide) (fun h378 => ?_) (fun h378 => absurd h378 (cod_nz hc))
      refine x_goto B (pc := 393) 1137 dL_law_393 (by decide) ?_
      refine x_lv B [2, 3, 4, 5, 6] [(4, .int (nI i)), (3, .ref oa), (2, .ref (am 0)), (1, .ref (ad 0)), (0, .ref b)] rfl ?_
      refine x_wid B (k + 4) (n + 300) (by omega) (by omega) ?_
      exact K da hs ht gf gb om L S N qf qb up op tr tq tf tt bf bt tg bg td (nI (cod (xinB 0 3 (xs (i + 1))) (xinB 1 4 (xs (i + 2))) (decide (up = 1) && (decide (N < 60) && !decide (crd L (ix (xs (i + 1))) = 0))))) f ⟨aInv_more (hI) (by omega), ⟨hok, hot, hq, hqb⟩, ⟨hmf, hmb, htd⟩, (by omega), (by omega)⟩
