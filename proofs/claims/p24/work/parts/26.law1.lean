/-! the law, step by step -/
set_option maxRecDepth 100000 in
set_option maxHeartbeats 4000000 in
/-- the call setMode -/
theorem st_setMode {l : Launch} (hl : l.stackTraces = false) (D : va_G) (e0 : Nat) {b Ls : Nat} {xs : Nat → Int32} {G : xGt} {X : xXt} (B0 : xL l D e0 b Ls xs G X) {ad bd : Nat → Nat} {i j mo v t k n : Nat} {a9 : Int32} (hj : j < 4) (hmo : mo < 4) (ht9 : t < 400) (hk : k ≤ 8000) (hn : n ≤ 300000) (K : lTo G D e0 ad bd mo (t + 1) (k + 4) (n + 424) 425 [(11, .int a9), (10, .int (nI ((j + mo) % 4))), (9, .int (nI j)), (5, .int (nI i)), (4, .int 1), (3, .int (nI mo)), (2, .ref (bd 0)), (1, .ref (ad 0)), (0, .ref b)]) : lTo G D e0 ad bd mo t k n 125 [(11, .int a9), (10, .int (nI ((j + mo) % 4))), (9, .int (nI j)), (8, .int (nI v)), (5, .int (nI i)), (4, .int 1), (3, .int (nI mo)), (2, .ref (bd 0)), (1, .ref (ad 0)), (0, .ref b)] := by
  intro da hs ht gf gb om L S qb db hs2 ht2 gf2 gb2 om2 L2 S2 qb2 N qf up op tr tq hg
  obtain ⟨hI, hI2, hR, ⟨hok, hot, hq, hqb⟩, ⟨hok2, hot2, hq2, hqb2⟩⟩ := id hg
  obtain ⟨hup, hop, hL, hN, hS, hF, hB, hPhi, hlen, hdn⟩ := id hI
  obtain ⟨-, -, hL2, -, hS2, -, hB2, hPhi2, hlen2, -⟩ := id hI2
  have hT := tq_len hI
  have hin := tq_in hS
  have hql2 := rl_len hR
  have hl4 : ∀ d, d < N → ∃ j, j < 4 ∧ S 4 d = nI j := fun d hd => (hS.2.1 d hd).1
  have hl42 : ∀ d, d < N → ∃ j, j < 4 ∧ S2 4 d = nI j := fun d hd => (hS2.2.1 d hd).1
  have h69 : ∀ d, d < N → ∃ m, m ≤ 4 ∧ S 6 d = nI m := fun d hd => (hS.2.1 d hd).2.1
  have h692 : ∀ d, d < N → ∃ m, m ≤ 4 ∧ S2 6 d = nI m := fun d hd => (hS2.2.1 d hd).2.1
  obtain ⟨hh, B, BS⟩ := B0.base
  show G 125 [(11, .int a9), (10, .int (nI ((j + mo) % 4))), (9, .int (nI j)), (8, .int (nI v)), (5, .int (nI i)), (4, .int 1), (3, .int (nI mo)), (2, .ref (bd 0)), (1, .ref (ad 0)), (0, .ref b)] [] [xoW ad up op tr, lkW D ad L, alW D e0 (ad 2) hs N, rwW D (ad 3) (ad 10) (ad 11) (ad 12) gf qf.length, rwW D (ad 4) (ad 13) (ad 14) (ad 15) gb qb.length, alW D e0 (ad 5) ht tq.length, dvW da N S om, xoW bd up op tr, lkW D bd L2, alW D e0 (bd 2) hs2 N, rwW D (bd 3) (bd 10) (bd 11) (bd 12) gf2 qf.length, rwW D (bd 4) (bd 13) (bd 14) (bd 15) gb2 qb2.length, alW D e0 (bd 5) ht2 tq.length, dvW db N S2 om2] k n
  obtain ⟨x9, hx9⟩ : ∃ x9 : Int32, x9 = nI v / 4 - nI v / 4 / 3 * 3 := ⟨_, rfl⟩
  have hCe : cod (xinB 0 3 (nI ((j + mo) % 4))) (xinB 0 2 x9) true = cod (xinB 0 3 (nI j)) (xinB 0 2 x9) true := by
    rw [xinB_nI (Nat.zero_le _) (show (j + mo) % 4 ≤ 3 by omega) (by decide), xinB_nI (Nat.zero_le _) (show j ≤ 3 by omega) (by decide)]
  refine x_aload_n B (pc := 125) 8 dL_law_125 rfl rfl ?_
  refine x_iconst B (pc := 126) 0 dL_law_126 (by decide) ?_
  refine x_iload B (pc := 127) 2 dL_law_127 rfl ?_
  refine x_iload B (pc := 129) 3 dL_law_129 rfl ?_
  refine x_iconst B (pc := 131) 4 dL_law_131 (by decide) ?_
  refine x_idiv B (pc := 132) dL_law_132 (by decide) ?_
  refine x_iconst B (pc := 133) 3 dL_law_133 (by decide) ?_
  refine x_irem B (pc := 134) dL_law_134 (by decide) ?_
  refine x_val B (y := x9) hx9.symm ?_
  refine x_callSX B (pc := 135) (As := [.ref (ad 0), .int 0, .int (nI j), .int x9]) (c_does_setMode hl D e0 ) tm176 tm177 tm0 tm178 md_L_does ⟨Nat.le_of_ble_eq_true rfl, Nat.le_of_ble_eq_true rfl⟩ [0, 1] rfl rfl rfl (Nat.le_of_ble_eq_true rfl) (by show k + 1 ≤ (619123 : Nat); omega) (by show n + 6 ≤ (7243813 : Nat); omega) dL_law_135 (fun E hE => False.elim hE) (fun v cs1 hp => ?_)
  rcases hp with ⟨hc, rfl, rfl⟩ | ⟨hc, rfl, rfl⟩
  · show G 138 [(11, .int a9), (10, .int (nI ((j + mo) % 4))), (9, .int (nI j)), (8, .int (nI v)), (5, .int (nI i)), (4, .int 1), (3, .int (nI mo)), (2, .ref (bd 0)), (1, .ref (ad 0)), (0, .ref b)] [.int (L 0 (ix (nI j)))] [xoW ad up op tr, lkW D ad (xup L 0 (ix (nI j)) x9), alW D e0 (ad 2) hs N, rwW D (ad 3) (ad 10) (ad 11) (ad 12) gf qf.length, rwW D (ad 4) (ad 13) (ad 14) (ad 15) gb qb.length, alW D e0 (ad 5) ht tq.length, dvW da N S om, xoW bd up op tr, lkW D bd L2, alW D e0 (bd 2) hs2 N, rwW D (bd 3) (bd 10) (bd 11) (bd 12) gf2 qf.length, rwW D (bd 4) (bd 13) (bd 14) (bd 15) gb2 qb2.length, alW D e0 (bd 5) ht2 tq.length, dvW db N S2 om2] (k + 1) (n + 6)
    refine x_aload_n B (pc := 138) 7 dL_law_138 rfl rfl ?_
    refine x_iconst B (pc := 139) 0 dL_law_139 (by decide) ?_
    refine x_iload B (pc := 140) 1 dL_law_140 rfl ?_
    refine x_iload B (pc := 142) 3 dL_law_142 rfl ?_
    refine x_iconst B (pc := 144) 4 dL_law_144 (by decide) ?_
    refine x_idiv B (pc := 145) dL_law_145 (by decide) ?_
    refine x_iconst B (pc := 146) 3 dL_law_146 (by decide) ?_
    refine x_irem B (pc := 147) dL_law_147 (by decide) ?_
    refine x_val B (y := x9) hx9.symm ?_
    refine x_callSX B (pc := 148) (As := [.ref (bd 0), .int 0, .int (nI ((j + mo) % 4)), .int x9]) (c_does_setMode hl D e0 ) tm176 tm177 tm0 tm178 md_L_does ⟨Nat.le_of_ble_eq_true rfl, Nat.le_of_ble_eq_true rfl⟩ [7, 8] rfl rfl rfl (Nat.le_of_ble_eq_true rfl) (by show k + 1 + 1 ≤ (619123 : Nat); omega) (by show n + 6 + 6 ≤ (7243813 : Nat); omega) dL_law_148 (fun E hE => False.elim hE) (fun v cs1 hp => ?_)
    rcases hp with ⟨hc2, rfl, rfl⟩ | ⟨hc2, hz2⟩
    · show G 151 [(11, .int a9), (10, .int (nI ((j + mo) % 4))), (9, .int (nI j)), (8, .int (nI v)), (5, .int (nI i)), (4, .int 1), (3, .int (nI mo)), (2, .ref (bd 0)), (1, .ref (ad 0)), (0, .ref b)] [.int (L2 0 (ix (nI ((j + mo) % 4)))), .int (L 0 (ix (nI j)))] [xoW ad up op tr, lkW D ad (xup L 0 (ix (nI j)) x9), alW D e0 (ad 2) hs N, rwW D (ad 3) (ad 10) (ad 11) (ad 12) gf qf.length, rwW D (ad 4) (ad 13) (ad 14) (ad 15) gb qb.length, alW D e0 (ad 5) ht tq.length, dvW da N S om, xoW bd up op tr, lkW D bd (xup L2 0 (ix (nI ((j + mo) % 4))) x9), alW D e0 (bd 2) hs2 N, rwW D (bd 3) (bd 10) (bd 11) (bd 12) gf2 qf.length, rwW D (bd 4) (bd 13) (bd 14) (bd 15) gb2 qb2.length, alW D e0 (bd 5) ht2 tq.length, dvW db N S2 om2] (k + 1 + 1) (n + 6 + 6)
      refine x_icmp_ne B (pc := 151) 158 dL_law_151 (by decide) (fun h151 => absurd (by rw [ix_nI (by omega), ix_nI (by omega)]; exact (hR.1 0 j hj).symm) h151) (fun h151 => ?_)
      refine x_iconst B (pc := 154) 1 dL_law_154 (by decide) ?_
      refine x_goto B (pc := 155) 159 dL_law_155 (by decide) ?_
      refine x_istore B (pc := 159) [(4, .int 1), (11, .int a9), (10, .int (nI ((j + mo) % 4))), (9, .int (nI j)), (8, .int (nI v)), (5, .int (nI i)), (3, .int (nI mo)), (2, .ref (bd 0)), (1, .ref (ad 0)), (0, .ref b)] dL_law_159 (by decide) rfl ?_
      refine x_goto B (pc := 161) 425 dL_law_161 (by decide) ?_
      refine x_lv B [1, 2, 3, 5, 0, 6, 7, 8, 9] [(11, .int a9), (10, .int (nI ((j + mo) % 4))), (9, .int (nI j)), (5, .int (nI i)), (4, .int 1), (3, .int (nI mo)), (2, .ref (bd 0)), (1, .ref (ad 0)), (0, .ref b)] rfl ?_
      refine x_wid B (k + 4) (n + 424) (by omega) (by omega) ?_
      exact K da hs ht gf gb om (xup L 0 (ix (nI j)) x9) S qb db hs2 ht2 gf2 gb2 om2 (xup L2 0 (ix (nI ((j + mo) % 4))) x9) S2 qb2 N qf up op tr tq ⟨aInv_more (aInv_setMode hI) (by omega), aInv_more (aInv_setMode hI2) (by omega), rl_setMode hR hj, ⟨hok, hot, hq, hqb⟩, ⟨hok2, hot2, hq2, hqb2⟩⟩
    · exact absurd (hCe.trans hc) hc2
  · show G 138 [(11, .int a9), (10, .int (nI ((j + mo) % 4))), (9, .int (nI j)), (8, .int (nI v)), (5, .int (nI i)), (4, .int 1), (3, .int (nI mo)), (2, .ref (bd 0)), (1, .ref (ad 0)), (0, .ref b)] [.int (-8)] [xoW ad up op tr, lkW D ad L, alW D e0 (ad 2) hs N, rwW D (ad 3) (ad 10) (ad 11) (ad 12) gf qf.length, rwW D (ad 4) (ad 13) (ad 14) (ad 15) gb qb.length, alW D e0 (ad 5) ht tq.length, dvW da N S om, xoW bd up op tr, lkW D bd L2, alW D e0 (bd 2) hs2 N, rwW D (bd 3) (bd 10) (bd 11) (bd 12) gf2 qf.length, rwW D (bd 4) (bd 13) (bd 14) (bd 15) gb2 qb2.length, alW D e0 (bd 5) ht2 tq.length, dvW db N S2 om2] (k + 1) (n + 6)
    refine x_aload_n B (pc := 138) 7 dL_law_138 rfl rfl ?_
    refine x_iconst B (pc := 139) 0 dL_law_139 (by decide) ?_
    refine x_iload B (pc := 140) 1 dL_law_140 rfl ?_
    refine x_iload B (pc := 142) 3 dL_law_142 rfl ?_
    refine x_iconst B (pc := 144) 4 dL_law_144 (by decide) ?_
    refine x_idiv B (pc := 145) dL_law_145 (by decide) ?_
    refine x_iconst B (pc := 146) 3 dL_law_146 (by decide) ?_
    refine x_irem B (pc := 147) dL_law_147 (by decide) ?_
    refine x_val B (y := x9) hx9.symm ?_
    refine x_callSX B (pc := 148) (As := [.ref (bd 0), .int 0, .int (nI ((j + mo) % 4)), .int x9]) (c_does_setMode hl D e0 ) tm176 tm177 tm0 tm178 md_L_does ⟨Nat.le_of_ble_eq_true rfl, Nat.le_of_ble_eq_true rfl⟩ [7, 8] rfl rfl rfl (Nat.le_of_ble_eq_true rfl) (by show k + 1 + 1 ≤ (619123 : Nat); omega) (by show n + 6 + 6 ≤ (7243813 : Nat); omega) dL_law_148 (fun E hE => False.elim hE) (fun v cs1 hp => ?_)
    rcases hp with ⟨hc2, hz2⟩ | ⟨hc2, rfl, rfl⟩
    · exact absurd (hCe.symm.trans hc2) hc
    · show G 151 [(11, .int a9), (10, .int (nI ((j + mo) % 4))), (9, .int (nI j)), (8, .int (nI v)), (5, .int (nI i)), (4, .int 1), (3, .int (nI mo)), (2, .ref (bd 0)), (1, .ref (ad 0)), (0, .ref b)] [.int (-8), .int (-8)] [xoW ad up op tr, lkW D ad L, alW D e0 (ad 2) hs N, rwW D (ad 3) (ad 10) (ad 11) (ad 12) gf qf.length, rwW D (ad 4) (ad 13) (ad 14) (ad 15) gb qb.length, alW D e0 (ad 5) ht tq.length, dvW da N S om, xoW bd up op tr, lkW D bd L2, alW D e0 (bd 2) hs2 N, rwW D (bd 3) (bd 10) (bd 11) (bd 12) gf2 qf.length, rwW D (bd 4) (bd 13) (bd 14) (bd 15) gb2 qb2.length, alW D e0 (bd 5) ht2 tq.length, dvW db N S2 om2] (k + 1 + 1) (n + 6 + 6)
      refine x_icmp_ne B (pc := 151) 158 dL_law_151 (by decide) (fun h151 => absurd rfl h151) (fun h151 => ?_)
      refine x_iconst B (pc := 154) 1 dL_law_154 (by decide) ?_
      refine x_goto B (pc := 155) 159 dL_law_155 (by decide) ?_
      refine x_istore B (pc := 159) [(4, .int 1), (11, .int a9), (10, .int (nI ((j + mo) % 4))), (9, .int (nI j)), (8, .int (nI v)), (5, .int (nI i)), (3, .int (nI mo)), (2, .ref (bd 0)), (1, .ref (ad 0)), (0, .ref b)] dL_law_159 (by decide) rfl ?_
      refine x_goto B (pc := 161) 425 dL_law_161 (by decide) ?_
      refine x_lv B [1, 2, 3, 5, 0, 6, 7, 8, 9] [(11, .int a9), (10, .int (nI ((j + mo) % 4))), (9, .int (nI j)), (5, .int (nI i)), (4, .int 1), (3, .int (nI mo)), (2, .ref (bd 0)), (1, .ref (ad 0)), (0, .ref b)] rfl ?_
      refine x_wid B (k + 4) (n + 424) (by omega) (by omega) ?_
      exact K da hs ht gf gb om L S qb db hs2 ht2 gf2 gb2 om2 L2 S2 qb2 N qf up op tr tq ⟨aInv_more hI (by omega), aInv_more hI2 (by omega), hR, ⟨hok, hot, hq, hqb⟩, ⟨hok2, hot2, hq2, hqb2⟩⟩

set_option maxRecDepth 100000 in
set_option maxHeartbeats 4000000 in
/-- the call grant -/
theorem st_grant {l : Launch} (hl : l.stackTraces = false) (D : va_G) (e0 : Nat) {b Ls : Nat} {xs : Nat → Int32} {G : xGt} {X : xXt} (B0 : xL l D e0 b Ls xs G X) {ad bd : Nat → Nat} {i j mo v t k n : Nat} {a9 : Int32} (hj : j < 4) (hmo : mo < 4) (ht9 : t < 400) (hk : k ≤ 8000) (hn : n ≤ 300000) (K : lTo G D e0 ad bd mo (t + 1) (k + 4) (n + 424) 425 [(11, .int a9), (10, .int (nI ((j + mo) % 4))), (9, .int (nI j)), (5, .int (nI i)), (4, .int 1), (3, .int (nI mo)), (2, .ref (bd 0)), (1, .ref (ad 0)), (0, .ref b)]) : lTo G D e0 ad bd mo t k n 184 [(12, .int 1), (11, .int a9), (10, .int (nI ((j + mo) % 4))), (9, .int (nI j)), (8, .int (nI v)), (5, .int (nI i)), (4, .int 1), (3, .int (nI mo)), (2, .ref (bd 0)), (1, .ref (ad 0)), (0, .ref b)] := by
  intro da hs ht gf gb om L S qb db hs2 ht2 gf2 gb2 om2 L2 S2 qb2 N qf up op tr tq hg
  obtain ⟨hI, hI2, hR, ⟨hok, hot, hq, hqb⟩, ⟨hok2, hot2, hq2, hqb2⟩⟩ := id hg
  obtain ⟨hup, hop, hL, hN, hS, hF, hB, hPhi, hlen, hdn⟩ := id hI
  obtain ⟨-, -, hL2, -, hS2, -, hB2, hPhi2, hlen2, -⟩ := id hI2
  have hT := tq_len hI
  have hin := tq_in hS
  have hql2 := rl_len hR
  have hl4 : ∀ d, d < N → ∃ j, j < 4 ∧ S 4 d = nI j := fun d hd => (hS.2.1 d hd).1
  have hl42 : ∀ d, d < N → ∃ j, j < 4 ∧ S2 4 d = nI j := fun d hd => (hS2.2.1 d hd).1
  have h69 : ∀ d, d < N → ∃ m, m ≤ 4 ∧ S 6 d = nI m := fun d hd => (hS.2.1 d hd).2.1
  have h692 : ∀ d, d < N → ∃ m, m ≤ 4 ∧ S2 6 d = nI m := fun d hd => (hS2.2.1 d hd).2.1
  obtain ⟨hh, B, BS⟩ := B0.base
  show G 184 [(12, .int 1), (11, .int a9), (10, .int (nI ((j + mo) % 4))), (9, .int (nI j)), (8, .int (nI v)), (5, .int (nI i)), (4, .int 1), (3, .int (nI mo)), (2, .ref (bd 0)), (1, .ref (ad 0)), (0, .ref b)] [] [xoW ad up op tr, lkW D ad L, alW D e0 (ad 2) hs N, rwW D (ad 3) (ad 10) (ad 11) (ad 12) gf qf.length, rwW D (ad 4) (ad 13) (ad 14) (ad 15) gb qb.length, alW D e0 (ad 5) ht tq.length, dvW da N S om, xoW bd up op tr, lkW D bd L2, alW D e0 (bd 2) hs2 N, rwW D (bd 3) (bd 10) (bd 11) (bd 12) gf2 qf.length, rwW D (bd 4) (bd 13) (bd 14) (bd 15) gb2 qb2.length, alW D e0 (bd 5) ht2 tq.length, dvW db N S2 om2] k n
  obtain ⟨x9, hx9⟩ : ∃ x9 : Int32, x9 = 1 + (nI v / 4 - nI v / 4 / 5 * 5) := ⟨_, rfl⟩
  have hCe : cod (xinB 0 3 (nI ((j + mo) % 4))) (xinB 0 15 x9) (decide (up = 1)) = cod (xinB 0 3 (nI j)) (xinB 0 15 x9) (decide (up = 1)) := by
    rw [xinB_nI (Nat.zero_le _) (show (j + mo) % 4 ≤ 3 by omega) (by decide), xinB_nI (Nat.zero_le _) (show j ≤ 3 by omega) (by decide)]
  refine x_aload_n B (pc := 184) 9 dL_law_184 rfl rfl ?_
  refine x_iload B (pc := 185) 0 dL_law_185 rfl ?_
  refine x_iload B (pc := 187) 3 dL_law_187 rfl ?_
  refine x_iconst B (pc := 189) 1 dL_law_189 (by decide) ?_
  refine x_iload B (pc := 190) 4 dL_law_190 rfl ?_
  refine x_iconst B (pc := 192) 4 dL_law_192 (by decide) ?_
  refine x_idiv B (pc := 193) dL_law_193 (by decide) ?_
  refine x_iconst B (pc := 194) 5 dL_law_194 (by decide) ?_
  refine x_irem B (pc := 195) dL_law_195 (by decide) ?_
  refine x_iadd B (pc := 196) dL_law_196 ?_
  refine x_val B (y := x9) hx9.symm ?_
  refine x_callSX B (pc := 197) (As := [.ref (ad 0), .int 1, .int (nI j), .int x9]) (c_does_grant hl D e0 hup hqb (by omega)) tm176 tm177 tm0 tm178 md_L_does ⟨Nat.le_of_ble_eq_true rfl, Nat.le_of_ble_eq_true rfl⟩ [0, 1, 4] rfl rfl rfl (Nat.le_of_ble_eq_true rfl) (by show k + 1 ≤ (619123 : Nat); omega) (by show n + 6 ≤ (7243813 : Nat); omega) dL_law_197 (fun E hE => False.elim hE) (fun v cs1 hp => ?_)
  rcases hp with ⟨hc, rfl, g1, hf0, rfl⟩ | ⟨hc, rfl, rfl⟩
  · show G 200 [(12, .int 1), (11, .int a9), (10, .int (nI ((j + mo) % 4))), (9, .int (nI j)), (8, .int (nI v)), (5, .int (nI i)), (4, .int 1), (3, .int (nI mo)), (2, .ref (bd 0)), (1, .ref (ad 0)), (0, .ref b)] [.int (grV L (nI j) x9)] [xoW ad up op tr, lkW D ad L, alW D e0 (ad 2) hs N, rwW D (ad 3) (ad 10) (ad 11) (ad 12) gf qf.length, rwW D (ad 4) (ad 13) (ad 14) (ad 15) g1 ((qb ++ [(3, ix (nI j), ix (grV L (nI j) x9))]).length), alW D e0 (ad 5) ht tq.length, dvW da N S om, xoW bd up op tr, lkW D bd L2, alW D e0 (bd 2) hs2 N, rwW D (bd 3) (bd 10) (bd 11) (bd 12) gf2 qf.length, rwW D (bd 4) (bd 13) (bd 14) (bd 15) gb2 qb2.length, alW D e0 (bd 5) ht2 tq.length, dvW db N S2 om2] (k + 1) (n + 6)
    refine x_aload_n B (pc := 200) 8 dL_law_200 rfl rfl ?_
    refine x_iload B (pc := 201) 0 dL_law_201 rfl ?_
    refine x_iload B (pc := 203) 2 dL_law_203 rfl ?_
    refine x_iconst B (pc := 205) 1 dL_law_205 (by decide) ?_
    refine x_iload B (pc := 206) 4 dL_law_206 rfl ?_
    refine x_iconst B (pc := 208) 4 dL_law_208 (by decide) ?_
    refine x_idiv B (pc := 209) dL_law_209 (by decide) ?_
    refine x_iconst B (pc := 210) 5 dL_law_210 (by decide) ?_
    refine x_irem B (pc := 211) dL_law_211 (by decide) ?_
    refine x_iadd B (pc := 212) dL_law_212 ?_
    refine x_val B (y := x9) hx9.symm ?_
    refine x_callSX B (pc := 213) (As := [.ref (bd 0), .int 1, .int (nI ((j + mo) % 4)), .int x9]) (c_does_grant hl D e0 hup hqb2 (by omega)) tm176 tm177 tm0 tm178 md_L_does ⟨Nat.le_of_ble_eq_true rfl, Nat.le_of_ble_eq_true rfl⟩ [7, 8, 11] rfl rfl rfl (Nat.le_of_ble_eq_true rfl) (by show k + 1 + 1 ≤ (619123 : Nat); omega) (by show n + 6 + 6 ≤ (7243813 : Nat); omega) dL_law_213 (fun E hE => False.elim hE) (fun v cs1 hp => ?_)
    rcases hp with ⟨hc2, rfl, g1b, hg0, rfl⟩ | ⟨hc2, hz2⟩
    · show G 216 [(12, .int 1), (11, .int a9), (10, .int (nI ((j + mo) % 4))), (9, .int (nI j)), (8, .int (nI v)), (5, .int (nI i)), (4, .int 1), (3, .int (nI mo)), (2, .ref (bd 0)), (1, .ref (ad 0)), (0, .ref b)] [.int (grV L2 (nI ((j + mo) % 4)) x9), .int (grV L (nI j) x9)] [xoW ad up op tr, lkW D ad L, alW D e0 (ad 2) hs N, rwW D (ad 3) (ad 10) (ad 11) (ad 12) gf qf.length, rwW D (ad 4) (ad 13) (ad 14) (ad 15) g1 ((qb ++ [(3, ix (nI j), ix (grV L (nI j) x9))]).length), alW D e0 (ad 5) ht tq.length, dvW da N S om, xoW bd up op tr, lkW D bd L2, alW D e0 (bd 2) hs2 N, rwW D (bd 3) (bd 10) (bd 11) (bd 12) gf2 qf.length, rwW D (bd 4) (bd 13) (bd 14) (bd 15) g1b ((qb2 ++ [(3, ix (nI ((j + mo) % 4)), ix (grV L2 (nI ((j + mo) % 4)) x9))]).length), alW D e0 (bd 5) ht2 tq.length, dvW db N S2 om2] (k + 1 + 1) (n + 6 + 6)
      refine x_icmp_ne B (pc := 216) 223 dL_law_216 (by decide) (fun h216 => absurd (by unfold grV; rw [ix_nI (by omega), ix_nI (by omega), hR.1 3 j hj]) h216) (fun h216 => ?_)
      refine x_iconst B (pc := 219) 1 dL_law_219 (by decide) ?_
      refine x_goto B (pc := 220) 224 dL_law_220 (by decide) ?_
      refine x_istore B (pc := 224) [(4, .int 1), (12, .int 1), (11, .int a9), (10, .int (nI ((j + mo) % 4))), (9, .int (nI j)), (8, .int (nI v)), (5, .int (nI i)), (3, .int (nI mo)), (2, .ref (bd 0)), (1, .ref (ad 0)), (0, .ref b)] dL_law_224 (by decide) rfl ?_
      refine x_goto B (pc := 226) 425 dL_law_226 (by decide) ?_
      refine x_lv B [2, 3, 4, 6, 0, 7, 8, 9, 10] [(11, .int a9), (10, .int (nI ((j + mo) % 4))), (9, .int (nI j)), (5, .int (nI i)), (4, .int 1), (3, .int (nI mo)), (2, .ref (bd 0)), (1, .ref (ad 0)), (0, .ref b)] rfl ?_
      refine x_wid B (k + 4) (n + 424) (by omega) (by omega) ?_
      exact K da hs ht gf g1 om L S (qb ++ [(3, ix (nI j), ix (grV L (nI j) x9))]) db hs2 ht2 gf2 g1b om2 L2 S2 (qb2 ++ [(3, ix (nI ((j + mo) % 4)), ix (grV L2 (nI ((j + mo) % 4)) x9))]) N qf up op tr tq ⟨aInv_more (aInv_grant hI hc) (by omega), aInv_more (aInv_grant hI2 hc2) (by omega), rl_grant hR hj, ⟨hok, hot, hq, hf0⟩, ⟨hok2, hot2, hq2, hg0⟩⟩
    · exact absurd (hCe.trans hc) hc2
  · show G 200 [(12, .int 1), (11, .int a9), (10, .int (nI ((j + mo) % 4))), (9, .int (nI j)), (8, .int (nI v)), (5, .int (nI i)), (4, .int 1), (3, .int (nI mo)), (2, .ref (bd 0)), (1, .ref (ad 0)), (0, .ref b)] [.int (-8)] [xoW ad up op tr, lkW D ad L, alW D e0 (ad 2) hs N, rwW D (ad 3) (ad 10) (ad 11) (ad 12) gf qf.length, rwW D (ad 4) (ad 13) (ad 14) (ad 15) gb qb.length, alW D e0 (ad 5) ht tq.length, dvW da N S om, xoW bd up op tr, lkW D bd L2, alW D e0 (bd 2) hs2 N, rwW D (bd 3) (bd 10) (bd 11) (bd 12) gf2 qf.length, rwW D (bd 4) (bd 13) (bd 14) (bd 15) gb2 qb2.length, alW D e0 (bd 5) ht2 tq.length, dvW db N S2 om2] (k + 1) (n + 6)
    refine x_aload_n B (pc := 200) 8 dL_law_200 rfl rfl ?_
    refine x_iload B (pc := 201) 0 dL_law_201 rfl ?_
    refine x_iload B (pc := 203) 2 dL_law_203 rfl ?_
    refine x_iconst B (pc := 205) 1 dL_law_205 (by decide) ?_
    refine x_iload B (pc := 206) 4 dL_law_206 rfl ?_
    refine x_iconst B (pc := 208) 4 dL_law_208 (by decide) ?_
    refine x_idiv B (pc := 209) dL_law_209 (by decide) ?_
    refine x_iconst B (pc := 210) 5 dL_law_210 (by decide) ?_
    refine x_irem B (pc := 211) dL_law_211 (by decide) ?_
    refine x_iadd B (pc := 212) dL_law_212 ?_
    refine x_val B (y := x9) hx9.symm ?_
    refine x_callSX B (pc := 213) (As := [.ref (bd 0), .int 1, .int (nI ((j + mo) % 4)), .int x9]) (c_does_grant hl D e0 hup hqb2 (by omega)) tm176 tm177 tm0 tm178 md_L_does ⟨Nat.le_of_ble_eq_true rfl, Nat.le_of_ble_eq_true rfl⟩ [7, 8, 11] rfl rfl rfl (Nat.le_of_ble_eq_true rfl) (by show k + 1 + 1 ≤ (619123 : Nat); omega) (by show n + 6 + 6 ≤ (7243813 : Nat); omega) dL_law_213 (fun E hE => False.elim hE) (fun v cs1 hp => ?_)
    rcases hp with ⟨hc2, hz2⟩ | ⟨hc2, rfl, rfl⟩
    · exact absurd (hCe.symm.trans hc2) hc
    · show G 216 [(12, .int 1), (11, .int a9), (10, .int (nI ((j + mo) % 4))), (9, .int (nI j)), (8, .int (nI v)), (5, .int (nI i)), (4, .int 1), (3, .int (nI mo)), (2, .ref (bd 0)), (1, .ref (ad 0)), (0, .ref b)] [.int (-8), .int (-8)] [xoW ad up op tr, lkW D ad L, alW D e0 (ad 2) hs N, rwW D (ad 3) (ad 10) (ad 11) (ad 12) gf qf.length, rwW D (ad 4) (ad 13) (ad 14) (ad 15) gb qb.length, alW D e0 (ad 5) ht tq.length, dvW da N S om, xoW bd up op tr, lkW D bd L2, alW D e0 (bd 2) hs2 N, rwW D (bd 3) (bd 10) (bd 11) (bd 12) gf2 qf.length, rwW D (bd 4) (bd 13) (bd 14) (bd 15) gb2 qb2.length, alW D e0 (bd 5) ht2 tq.length, dvW db N S2 om2] (k + 1 + 1) (n + 6 + 6)
      refine x_icmp_ne B (pc := 216) 223 dL_law_216 (by decide) (fun h216 => absurd rfl h216) (fun h216 => ?_)
      refine x_iconst B (pc := 219) 1 dL_law_219 (by decide) ?_
      refine x_goto B (pc := 220) 224 dL_law_220 (by decide) ?_
      refine x_istore B (pc := 224) [(4, .int 1), (12, .int 1), (11, .int a9), (10, .int (nI ((j + mo) % 4))), (9, .int (nI j)), (8, .int (nI v)), (5, .int (nI i)), (3, .int (nI mo)), (2, .ref (bd 0)), (1, .ref (ad 0)), (0, .ref b)] dL_law_224 (by decide) rfl ?_
      refine x_goto B (pc := 226) 425 dL_law_226 (by decide) ?_
      refine x_lv B [2, 3, 4, 6, 0, 7, 8, 9, 10] [(11, .int a9), (10, .int (nI ((j + mo) % 4))), (9, .int (nI j)), (5, .int (nI i)), (4, .int 1), (3, .int (nI mo)), (2, .ref (bd 0)), (1, .ref (ad 0)), (0, .ref b)] rfl ?_
      refine x_wid B (k + 4) (n + 424) (by omega) (by omega) ?_
      exact K da hs ht gf gb om L S qb db hs2 ht2 gf2 gb2 om2 L2 S2 qb2 N qf up op tr tq ⟨aInv_more hI (by omega), aInv_more hI2 (by omega), hR, ⟨hok, hot, hq, hqb⟩, ⟨hok2, hot2, hq2, hqb2⟩⟩

set_option maxRecDepth 100000 in
set_option maxHeartbeats 4000000 in
/-- the call send -/
theorem st_send {l : Launch} (hl : l.stackTraces = false) (D : va_G) (e0 : Nat) {b Ls : Nat} {xs : Nat → Int32} {G : xGt} {X : xXt} (B0 : xL l D e0 b Ls xs G X) {ad bd : Nat → Nat} {i j mo v t k n : Nat} {a9 : Int32} (hj : j < 4) (hmo : mo < 4) (ht9 : t < 400) (hk : k ≤ 8000) (hn : n ≤ 300000) (K : lTo G D e0 ad bd mo (t + 1) (k + 4) (n + 424) 425 [(11, .int a9), (10, .int (nI ((j + mo) % 4))), (9, .int (nI j)), (5, .int (nI i)), (4, .int 1), (3, .int (nI mo)), (2, .ref (bd 0)), (1, .ref (ad 0)), (0, .ref b)]) : lTo G D e0 ad bd mo t k n 184 [(12, .int 2), (11, .int a9), (10, .int (nI ((j + mo) % 4))), (9, .int (nI j)), (8, .int (nI v)), (5, .int (nI i)), (4, .int 1), (3, .int (nI mo)), (2, .ref (bd 0)), (1, .ref (ad 0)), (0, .ref b)] := by
  intro da hs ht gf gb om L S qb db hs2 ht2 gf2 gb2 om2 L2 S2 qb2 N qf up op tr tq hg
  obtain ⟨hI, hI2, hR, ⟨hok, hot, hq, hqb⟩, ⟨hok2, hot2, hq2, hqb2⟩⟩ := id hg
  obtain ⟨hup, hop, hL, hN, hS, hF, hB, hPhi, hlen, hdn⟩ := id hI
  obtain ⟨-, -, hL2, -, hS2, -, hB2, hPhi2, hlen2, -⟩ := id hI2
  have hT := tq_len hI
  have hin := tq_in hS
  have hql2 := rl_len hR
  have hl4 : ∀ d, d < N → ∃ j, j < 4 ∧ S 4 d = nI j := fun d hd => (hS.2.1 d hd).1
  have hl42 : ∀ d, d < N → ∃ j, j < 4 ∧ S2 4 d = nI j := fun d hd => (hS2.2.1 d hd).1
  have h69 : ∀ d, d < N → ∃ m, m ≤ 4 ∧ S 6 d = nI m := fun d hd => (hS.2.1 d hd).2.1
  have h692 : ∀ d, d < N → ∃ m, m ≤ 4 ∧ S2 6 d = nI m := fun d hd => (hS2.2.1 d hd).2.1
  obtain ⟨hh, B, BS⟩ := B0.base
  show G 184 [(12, .int 2), (11, .int a9), (10, .int (nI ((j + mo) % 4))), (9, .int (nI j)), (8, .int (nI v)), (5, .int (nI i)), (4, .int 1), (3, .int (nI mo)), (2, .ref (bd 0)), (1, .ref (ad 0)), (0, .ref b)] [] [xoW ad up op tr, lkW D ad L, alW D e0 (ad 2) hs N, rwW D (ad 3) (ad 10) (ad 11) (ad 12) gf qf.length, rwW D (ad 4) (ad 13) (ad 14) (ad 15) gb qb.length, alW D e0 (ad 5) ht tq.length, dvW da N S om, xoW bd up op tr, lkW D bd L2, alW D e0 (bd 2) hs2 N, rwW D (bd 3) (bd 10) (bd 11) (bd 12) gf2 qf.length, rwW D (bd 4) (bd 13) (bd 14) (bd 15) gb2 qb2.length, alW D e0 (bd 5) ht2 tq.length, dvW db N S2 om2] k n
  obtain ⟨x9, hx9⟩ : ∃ x9 : Int32, x9 = 1 + (nI v / 4 - nI v / 4 / 5 * 5) := ⟨_, rfl⟩
  have hCe : cod (xinB 0 3 (nI ((j + mo) % 4))) (xinB 1 4 x9) (decide (up = 1) && (decide (N < 60) && !decide (crd L2 (ix (nI ((j + mo) % 4))) = 0))) = cod (xinB 0 3 (nI j)) (xinB 1 4 x9) (decide (up = 1) && (decide (N < 60) && !decide (crd L (ix (nI j)) = 0))) := by
    rw [xinB_nI (Nat.zero_le _) (show (j + mo) % 4 ≤ 3 by omega) (by decide), xinB_nI (Nat.zero_le _) (show j ≤ 3 by omega) (by decide), rl_crd hR hj]
  refine x_aload_n B (pc := 184) 9 dL_law_184 rfl rfl ?_
  refine x_iload B (pc := 185) 0 dL_law_185 rfl ?_
  refine x_iload B (pc := 187) 3 dL_law_187 rfl ?_
  refine x_iconst B (pc := 189) 1 dL_law_189 (by decide) ?_
  refine x_iload B (pc := 190) 4 dL_law_190 rfl ?_
  refine x_iconst B (pc := 192) 4 dL_law_192 (by decide) ?_
  refine x_idiv B (pc := 193) dL_law_193 (by decide) ?_
  refine x_iconst B (pc := 194) 5 dL_law_194 (by decide) ?_
  refine x_irem B (pc := 195) dL_law_195 (by decide) ?_
  refine x_iadd B (pc := 196) dL_law_196 ?_
  refine x_val B (y := x9) hx9.symm ?_
  refine x_callSX B (pc := 197) (As := [.ref (ad 0), .int 2, .int (nI j), .int x9]) (c_does_send hl D e0 hup hok hN hq (by omega) (hS.2.2.1 N (Nat.le_refl N))) tm176 tm177 tm0 tm178 md_L_does ⟨Nat.le_of_ble_eq_true rfl, Nat.le_of_ble_eq_true rfl⟩ [0, 1, 2, 3, 6] rfl rfl rfl (Nat.le_of_ble_eq_true rfl) (by show k + 2 ≤ (619123 : Nat); omega) (by show n + 212 ≤ (7243813 : Nat); omega) dL_law_197 (fun E hE => False.elim hE) (fun v cs1 hp => ?_)
  rcases hp with ⟨hc, rfl, h1, g1, da1, hf0, hf1, hf2, rfl⟩ | ⟨hc, rfl, rfl⟩
  · show G 200 [(12, .int 2), (11, .int a9), (10, .int (nI ((j + mo) % 4))), (9, .int (nI j)), (8, .int (nI v)), (5, .int (nI i)), (4, .int 1), (3, .int (nI mo)), (2, .ref (bd 0)), (1, .ref (ad 0)), (0, .ref b)] [.int (nI N)] [xoW ad up op tr, lkW D ad (xup L 1 (ix (nI j)) ((L 1 (ix (nI j)) + 1) &&& 15)), alW D e0 (ad 2) h1 (N + 1), rwW D (ad 3) (ad 10) (ad 11) (ad 12) g1 ((qf ++ pts 0 N (ix x9)).length), rwW D (ad 4) (ad 13) (ad 14) (ad 15) gb qb.length, alW D e0 (ad 5) ht tq.length, dvW da1 (N + 1) (sendS L S N (nI j) x9) (upd om N (-1)), xoW bd up op tr, lkW D bd L2, alW D e0 (bd 2) hs2 N, rwW D (bd 3) (bd 10) (bd 11) (bd 12) gf2 qf.length, rwW D (bd 4) (bd 13) (bd 14) (bd 15) gb2 qb2.length, alW D e0 (bd 5) ht2 tq.length, dvW db N S2 om2] (k + 2) (n + 212)
    refine x_aload_n B (pc := 200) 8 dL_law_200 rfl rfl ?_
    refine x_iload B (pc := 201) 0 dL_law_201 rfl ?_
    refine x_iload B (pc := 203) 2 dL_law_203 rfl ?_
    refine x_iconst B (pc := 205) 1 dL_law_205 (by decide) ?_
    refine x_iload B (pc := 206) 4 dL_law_206 rfl ?_
    refine x_iconst B (pc := 208) 4 dL_law_208 (by decide) ?_
    refine x_idiv B (pc := 209) dL_law_209 (by decide) ?_
    refine x_iconst B (pc := 210) 5 dL_law_210 (by decide) ?_
    refine x_irem B (pc := 211) dL_law_211 (by decide) ?_
    refine x_iadd B (pc := 212) dL_law_212 ?_
    refine x_val B (y := x9) hx9.symm ?_
    refine x_callSX B (pc := 213) (As := [.ref (bd 0), .int 2, .int (nI ((j + mo) % 4)), .int x9]) (c_does_send hl D e0 hup hok2 hN hq2 (by omega) (hS2.2.2.1 N (Nat.le_refl N))) tm176 tm177 tm0 tm178 md_L_does ⟨Nat.le_of_ble_eq_true rfl, Nat.le_of_ble_eq_true rfl⟩ [7, 8, 9, 10, 13] rfl rfl rfl (Nat.le_of_ble_eq_true rfl) (by show k + 2 + 2 ≤ (619123 : Nat); omega) (by show n + 212 + 212 ≤ (7243813 : Nat); omega) dL_law_213 (fun E hE => False.elim hE) (fun v cs1 hp => ?_)
    rcases hp with ⟨hc2, rfl, h1b, g1b, da1b, hg0, hg1, hg2, rfl⟩ | ⟨hc2, hz2⟩
    · show G 216 [(12, .int 2), (11, .int a9), (10, .int (nI ((j + mo) % 4))), (9, .int (nI j)), (8, .int (nI v)), (5, .int (nI i)), (4, .int 1), (3, .int (nI mo)), (2, .ref (bd 0)), (1, .ref (ad 0)), (0, .ref b)] [.int (nI N), .int (nI N)] [xoW ad up op tr, lkW D ad (xup L 1 (ix (nI j)) ((L 1 (ix (nI j)) + 1) &&& 15)), alW D e0 (ad 2) h1 (N + 1), rwW D (ad 3) (ad 10) (ad 11) (ad 12) g1 ((qf ++ pts 0 N (ix x9)).length), rwW D (ad 4) (ad 13) (ad 14) (ad 15) gb qb.length, alW D e0 (ad 5) ht tq.length, dvW da1 (N + 1) (sendS L S N (nI j) x9) (upd om N (-1)), xoW bd up op tr, lkW D bd (xup L2 1 (ix (nI ((j + mo) % 4))) ((L2 1 (ix (nI ((j + mo) % 4))) + 1) &&& 15)), alW D e0 (bd 2) h1b (N + 1), rwW D (bd 3) (bd 10) (bd 11) (bd 12) g1b ((qf ++ pts 0 N (ix x9)).length), rwW D (bd 4) (bd 13) (bd 14) (bd 15) gb2 qb2.length, alW D e0 (bd 5) ht2 tq.length, dvW da1b (N + 1) (sendS L2 S2 N (nI ((j + mo) % 4)) x9) (upd om2 N (-1))] (k + 2 + 2) (n + 212 + 212)
      refine x_icmp_ne B (pc := 216) 223 dL_law_216 (by decide) (fun h216 => absurd rfl h216) (fun h216 => ?_)
      refine x_iconst B (pc := 219) 1 dL_law_219 (by decide) ?_
      refine x_goto B (pc := 220) 224 dL_law_220 (by decide) ?_
      refine x_istore B (pc := 224) [(4, .int 1), (12, .int 2), (11, .int a9), (10, .int (nI ((j + mo) % 4))), (9, .int (nI j)), (8, .int (nI v)), (5, .int (nI i)), (3, .int (nI mo)), (2, .ref (bd 0)), (1, .ref (ad 0)), (0, .ref b)] dL_law_224 (by decide) rfl ?_
      refine x_goto B (pc := 226) 425 dL_law_226 (by decide) ?_
      refine x_lv B [2, 3, 4, 6, 0, 7, 8, 9, 10] [(11, .int a9), (10, .int (nI ((j + mo) % 4))), (9, .int (nI j)), (5, .int (nI i)), (4, .int 1), (3, .int (nI mo)), (2, .ref (bd 0)), (1, .ref (ad 0)), (0, .ref b)] rfl ?_
      refine x_wid B (k + 4) (n + 424) (by omega) (by omega) ?_
      exact K da1 h1 ht g1 gb (upd om N (-1)) (xup L 1 (ix (nI j)) ((L 1 (ix (nI j)) + 1) &&& 15)) (sendS L S N (nI j) x9) qb da1b h1b ht2 g1b gb2 (upd om2 N (-1)) (xup L2 1 (ix (nI ((j + mo) % 4))) ((L2 1 (ix (nI ((j + mo) % 4))) + 1) &&& 15)) (sendS L2 S2 N (nI ((j + mo) % 4)) x9) qb2 (N + 1) (qf ++ pts 0 N (ix x9)) up op tr tq ⟨aInv_more (aInv_send hI hc) (by omega), aInv_more (aInv_send hI2 hc2) (by omega), rl_send hR hj, ⟨hf0, al_w hot (fun i hi => (hf1 _ (hin i hi)).symm), hf2, hqb⟩, ⟨hg0, al_w hot2 (fun i hi => (hg1 _ (hin i hi)).symm), hg2, hqb2⟩⟩
    · exact absurd (hCe.trans hc) hc2
  · show G 200 [(12, .int 2), (11, .int a9), (10, .int (nI ((j + mo) % 4))), (9, .int (nI j)), (8, .int (nI v)), (5, .int (nI i)), (4, .int 1), (3, .int (nI mo)), (2, .ref (bd 0)), (1, .ref (ad 0)), (0, .ref b)] [.int (-8)] [xoW ad up op tr, lkW D ad L, alW D e0 (ad 2) hs N, rwW D (ad 3) (ad 10) (ad 11) (ad 12) gf qf.length, rwW D (ad 4) (ad 13) (ad 14) (ad 15) gb qb.length, alW D e0 (ad 5) ht tq.length, dvW da N S om, xoW bd up op tr, lkW D bd L2, alW D e0 (bd 2) hs2 N, rwW D (bd 3) (bd 10) (bd 11) (bd 12) gf2 qf.length, rwW D (bd 4) (bd 13) (bd 14) (bd 15) gb2 qb2.length, alW D e0 (bd 5) ht2 tq.length, dvW db N S2 om2] (k + 2) (n + 212)
    refine x_aload_n B (pc := 200) 8 dL_law_200 rfl rfl ?_
    refine x_iload B (pc := 201) 0 dL_law_201 rfl ?_
    refine x_iload B (pc := 203) 2 dL_law_203 rfl ?_
    refine x_iconst B (pc := 205) 1 dL_law_205 (by decide) ?_
    refine x_iload B (pc := 206) 4 dL_law_206 rfl ?_
    refine x_iconst B (pc := 208) 4 dL_law_208 (by decide) ?_
    refine x_idiv B (pc := 209) dL_law_209 (by decide) ?_
    refine x_iconst B (pc := 210) 5 dL_law_210 (by decide) ?_
    refine x_irem B (pc := 211) dL_law_211 (by decide) ?_
    refine x_iadd B (pc := 212) dL_law_212 ?_
    refine x_val B (y := x9) hx9.symm ?_
    refine x_callSX B (pc := 213) (As := [.ref (bd 0), .int 2, .int (nI ((j + mo) % 4)), .int x9]) (c_does_send hl D e0 hup hok2 hN hq2 (by omega) (hS2.2.2.1 N (Nat.le_refl N))) tm176 tm177 tm0 tm178 md_L_does ⟨Nat.le_of_ble_eq_true rfl, Nat.le_of_ble_eq_true rfl⟩ [7, 8, 9, 10, 13] rfl rfl rfl (Nat.le_of_ble_eq_true rfl) (by show k + 2 + 2 ≤ (619123 : Nat); omega) (by show n + 212 + 212 ≤ (7243813 : Nat); omega) dL_law_213 (fun E hE => False.elim hE) (fun v cs1 hp => ?_)
    rcases hp with ⟨hc2, hz2⟩ | ⟨hc2, rfl, rfl⟩
    · exact absurd (hCe.symm.trans hc2) hc
    · show G 216 [(12, .int 2), (11, .int a9), (10, .int (nI ((j + mo) % 4))), (9, .int (nI j)), (8, .int (nI v)), (5, .int (nI i)), (4, .int 1), (3, .int (nI mo)), (2, .ref (bd 0)), (1, .ref (ad 0)), (0, .ref b)] [.int (-8), .int (-8)] [xoW ad up op tr, lkW D ad L, alW D e0 (ad 2) hs N, rwW D (ad 3) (ad 10) (ad 11) (ad 12) gf qf.length, rwW D (ad 4) (ad 13) (ad 14) (ad 15) gb qb.length, alW D e0 (ad 5) ht tq.length, dvW da N S om, xoW bd up op tr, lkW D bd L2, alW D e0 (bd 2) hs2 N, rwW D (bd 3) (bd 10) (bd 11) (bd 12) gf2 qf.length, rwW D (bd 4) (bd 13) (bd 14) (bd 15) gb2 qb2.length, alW D e0 (bd 5) ht2 tq.length, dvW db N S2 om2] (k + 2 + 2) (n + 212 + 212)
      refine x_icmp_ne B (pc := 216) 223 dL_law_216 (by decide) (fun h216 => absurd rfl h216) (fun h216 => ?_)
      refine x_iconst B (pc := 219) 1 dL_law_219 (by decide) ?_
      refine x_goto B (pc := 220) 224 dL_law_220 (by decide) ?_
      refine x_istore B (pc := 224) [(4, .int 1), (12, .int 2), (11, .int a9), (10, .int (nI ((j + mo) % 4))), (9, .int (nI j)), (8, .int (nI v)), (5, .int (nI i)), (3, .int (nI mo)), (2, .ref (bd 0)), (1, .ref (ad 0)), (0, .ref b)] dL_law_224 (by decide) rfl ?_
      refine x_goto B (pc := 226) 425 dL_law_226 (by decide) ?_
      refine x_lv B [2, 3, 4, 6, 0, 7, 8, 9, 10] [(11, .int a9), (10, .int (nI ((j + mo) % 4))), (9, .int (nI j)), (5, .int (nI i)), (4, .int 1), (3, .int (nI mo)), (2, .ref (bd 0)), (1, .ref (ad 0)), (0, .ref b)] rfl ?_
      refine x_wid B (k + 4) (n + 424) (by omega) (by omega) ?_
      exact K da hs ht gf gb om L S qb db hs2 ht2 gf2 gb2 om2 L2 S2 qb2 N qf up op tr tq ⟨aInv_more hI (by omega), aInv_more hI2 (by omega), hR, ⟨hok, hot, hq, hqb⟩, ⟨hok2, hot2, hq2, hqb2⟩⟩

set_option maxRecDepth 100000 in
set_option maxHeartbeats 4000000 in
/-- the call toReceiver -/
theorem st_toReceiver {l : Launch} (hl : l.stackTraces = false) (D : va_G) (e0 : Nat) {b Ls : Nat} {xs : Nat → Int32} {G : xGt} {X : xXt} (B0 : xL l D e0 b Ls xs G X) {ad bd : Nat → Nat} {i j mo v t k n : Nat} {a9 : Int32} (hj : j < 4) (hmo : mo < 4) (ht9 : t < 400) (hk : k ≤ 8000) (hn : n ≤ 300000) (K : lTo G D e0 ad bd mo (t + 1) (k + 4) (n + 424) 425 [(11, .int a9), (10, .int (nI ((j + mo) % 4))), (9, .int (nI j)), (5, .int (nI i)), (4, .int 1), (3, .int (nI mo)), (2, .ref (bd 0)), (1, .ref (ad 0)), (0, .ref b)]) : lTo G D e0 ad bd mo t k n 250 [(12, .int 0), (11, .int a9), (10, .int (nI ((j + mo) % 4))), (9, .int (nI j)), (8, .int (nI v)), (5, .int (nI i)), (4, .int 1), (3, .int (nI mo)), (2, .ref (bd 0)), (1, .ref (ad 0)), (0, .ref b)] := by
  intro da hs ht gf gb om L S qb db hs2 ht2 gf2 gb2 om2 L2 S2 qb2 N qf up op tr tq hg
  obtain ⟨hI, hI2, hR, ⟨hok, hot, hq, hqb⟩, ⟨hok2, hot2, hq2, hqb2⟩⟩ := id hg
  obtain ⟨hup, hop, hL, hN, hS, hF, hB, hPhi, hlen, hdn⟩ := id hI
  obtain ⟨-, -, hL2, -, hS2, -, hB2, hPhi2, hlen2, -⟩ := id hI2
  have hT := tq_len hI
  have hin := tq_in hS
  have hql2 := rl_len hR
  have hl4 : ∀ d, d < N → ∃ j, j < 4 ∧ S 4 d = nI j := fun d hd => (hS.2.1 d hd).1
  have hl42 : ∀ d, d < N → ∃ j, j < 4 ∧ S2 4 d = nI j := fun d hd => (hS2.2.1 d hd).1
  have h69 : ∀ d, d < N → ∃ m, m ≤ 4 ∧ S 6 d = nI m := fun d hd => (hS.2.1 d hd).2.1
  have h692 : ∀ d, d < N → ∃ m, m ≤ 4 ∧ S2 6 d = nI m := fun d hd => (hS2.2.1 d hd).2.1
  obtain ⟨hh, B, BS⟩ := B0.base
  show G 250 [(12, .int 0), (11, .int a9), (10, .int (nI ((j + mo) % 4))), (9, .int (nI j)), (8, .int (nI v)), (5, .int (nI i)), (4, .int 1), (3, .int (nI mo)), (2, .ref (bd 0)), (1, .ref (ad 0)), (0, .ref b)] [] [xoW ad up op tr, lkW D ad L, alW D e0 (ad 2) hs N, rwW D (ad 3) (ad 10) (ad 11) (ad 12) gf qf.length, rwW D (ad 4) (ad 13) (ad 14) (ad 15) gb qb.length, alW D e0 (ad 5) ht tq.length, dvW da N S om, xoW bd up op tr, lkW D bd L2, alW D e0 (bd 2) hs2 N, rwW D (bd 3) (bd 10) (bd 11) (bd 12) gf2 qf.length, rwW D (bd 4) (bd 13) (bd 14) (bd 15) gb2 qb2.length, alW D e0 (bd 5) ht2 tq.length, dvW db N S2 om2] k n
  obtain ⟨x9, hx9⟩ : ∃ x9 : Int32, x9 = 1 + (nI v - nI v / 8 * 8) := ⟨_, rfl⟩
  have hCe : cod (xinB 1 100 x9) true true = cod (xinB 1 100 x9) true true := rfl
  refine x_aload_n B (pc := 250) 9 dL_law_250 rfl rfl ?_
  refine x_iload B (pc := 251) 0 dL_law_251 rfl ?_
  refine x_iconst B (pc := 253) 1 dL_law_253 (by decide) ?_
  refine x_iload B (pc := 254) 4 dL_law_254 rfl ?_
  refine x_bipush B (pc := 256) 8 dL_law_256 (by decide) ?_
  refine x_irem B (pc := 258) dL_law_258 (by decide) ?_
  refine x_iadd B (pc := 259) dL_law_259 ?_
  refine x_val B (y := x9) hx9.symm ?_
  refine x_callSX B (pc := 260) (As := [.ref (ad 0), .int 0, .int x9]) (c_goes_toReceiver hl D e0 hok hN hq hF hl4) tm470 tm471 tm0 tm472 md_L_goes ⟨Nat.le_of_ble_eq_true rfl, Nat.le_of_ble_eq_true rfl⟩ [0, 1, 2, 3, 6] rfl rfl rfl (Nat.le_of_ble_eq_true rfl) (by show k + 1 ≤ (619123 : Nat); omega) (by show n + 6 ≤ (7243813 : Nat); omega) dL_law_260 (fun E hE => False.elim hE) (fun v cs1 hp => ?_)
  rcases hp with ⟨hc, rfl, g1, hf0, rfl⟩ | ⟨hc, rfl, rfl⟩
  · show G 263 [(12, .int 0), (11, .int a9), (10, .int (nI ((j + mo) % 4))), (9, .int (nI j)), (8, .int (nI v)), (5, .int (nI i)), (4, .int 1), (3, .int (nI mo)), (2, .ref (bd 0)), (1, .ref (ad 0)), (0, .ref b)] [.int ((rcvN (ix x9) L S qf 0).2.2.2)] [xoW ad up op tr, lkW D ad ((rcvN (ix x9) L S qf 0).1), alW D e0 (ad 2) hs N, rwW D (ad 3) (ad 10) (ad 11) (ad 12) g1 (((rcvN (ix x9) L S qf 0).2.2.1).length), rwW D (ad 4) (ad 13) (ad 14) (ad 15) gb qb.length, alW D e0 (ad 5) ht tq.length, dvW da N ((rcvN (ix x9) L S qf 0).2.1) om, xoW bd up op tr, lkW D bd L2, alW D e0 (bd 2) hs2 N, rwW D (bd 3) (bd 10) (bd 11) (bd 12) gf2 qf.length, rwW D (bd 4) (bd 13) (bd 14) (bd 15) gb2 qb2.length, alW D e0 (bd 5) ht2 tq.length, dvW db N S2 om2] (k + 1) (n + 6)
    refine x_aload_n B (pc := 263) 8 dL_law_263 rfl rfl ?_
    refine x_iload B (pc := 264) 0 dL_law_264 rfl ?_
    refine x_iconst B (pc := 266) 1 dL_law_266 (by decide) ?_
    refine x_iload B (pc := 267) 4 dL_law_267 rfl ?_
    refine x_bipush B (pc := 269) 8 dL_law_269 (by decide) ?_
    refine x_irem B (pc := 271) dL_law_271 (by decide) ?_
    refine x_iadd B (pc := 272) dL_law_272 ?_
    refine x_val B (y := x9) hx9.symm ?_
    refine x_callSX B (pc := 273) (As := [.ref (bd 0), .int 0, .int x9]) (c_goes_toReceiver hl D e0 hok2 hN hq2 hF hl42) tm470 tm471 tm0 tm472 md_L_goes ⟨Nat.le_of_ble_eq_true rfl, Nat.le_of_ble_eq_true rfl⟩ [7, 8, 9, 10, 13] rfl rfl rfl (Nat.le_of_ble_eq_true rfl) (by show k + 1 + 1 ≤ (619123 : Nat); omega) (by show n + 6 + 6 ≤ (7243813 : Nat); omega) dL_law_273 (fun E hE => False.elim hE) (fun v cs1 hp => ?_)
    rcases hp with ⟨hc2, rfl, g1b, hg0, rfl⟩ | ⟨hc2, hz2⟩
    · show G 276 [(12, .int 0), (11, .int a9), (10, .int (nI ((j + mo) % 4))), (9, .int (nI j)), (8, .int (nI v)), (5, .int (nI i)), (4, .int 1), (3, .int (nI mo)), (2, .ref (bd 0)), (1, .ref (ad 0)), (0, .ref b)] [.int ((rcvN (ix x9) L2 S2 qf 0).2.2.2), .int ((rcvN (ix x9) L S qf 0).2.2.2)] [xoW ad up op tr, lkW D ad ((rcvN (ix x9) L S qf 0).1), alW D e0 (ad 2) hs N, rwW D (ad 3) (ad 10) (ad 11) (ad 12) g1 (((rcvN (ix x9) L S qf 0).2.2.1).length), rwW D (ad 4) (ad 13) (ad 14) (ad 15) gb qb.length, alW D e0 (ad 5) ht tq.length, dvW da N ((rcvN (ix x9) L S qf 0).2.1) om, xoW bd up op tr, lkW D bd ((rcvN (ix x9) L2 S2 qf 0).1), alW D e0 (bd 2) hs2 N, rwW D (bd 3) (bd 10) (bd 11) (bd 12) g1b (((rcvN (ix x9) L2 S2 qf 0).2.2.1).length), rwW D (bd 4) (bd 13) (bd 14) (bd 15) gb2 qb2.length, alW D e0 (bd 5) ht2 tq.length, dvW db N ((rcvN (ix x9) L2 S2 qf 0).2.1) om2] (k + 1 + 1) (n + 6 + 6)
      have he := (rl_toR (ix x9) hR hI).2
      rw [he] at hg0 ⊢
      refine x_icmp_ne B (pc := 276) 283 dL_law_276 (by decide) (fun h276 => absurd rfl h276) (fun h276 => ?_)
      refine x_iconst B (pc := 279) 1 dL_law_279 (by decide) ?_
      refine x_goto B (pc := 280) 284 dL_law_280 (by decide) ?_
      refine x_istore B (pc := 284) [(4, .int 1), (12, .int 0), (11, .int a9), (10, .int (nI ((j + mo) % 4))), (9, .int (nI j)), (8, .int (nI v)), (5, .int (nI i)), (3, .int (nI mo)), (2, .ref (bd 0)), (1, .ref (ad 0)), (0, .ref b)] dL_law_284 (by decide) rfl ?_
      refine x_goto B (pc := 286) 425 dL_law_286 (by decide) ?_
      refine x_lv B [2, 3, 4, 6, 0, 7, 8, 9, 10] [(11, .int a9), (10, .int (nI ((j + mo) % 4))), (9, .int (nI j)), (5, .int (nI i)), (4, .int 1), (3, .int (nI mo)), (2, .ref (bd 0)), (1, .ref (ad 0)), (0, .ref b)] rfl ?_
      refine x_wid B (k + 4) (n + 424) (by omega) (by omega) ?_
      exact K da hs ht g1 gb om ((rcvN (ix x9) L S qf 0).1) ((rcvN (ix x9) L S qf 0).2.1) qb db hs2 ht2 g1b gb2 om2 ((rcvN (ix x9) L2 S2 qf 0).1) ((rcvN (ix x9) L2 S2 qf 0).2.1) qb2 N ((rcvN (ix x9) L S qf 0).2.2.1) up op tr tq ⟨aInv_more (aInv_rcv (ix x9) L S qf 0 hI) (by omega), aInv_more ((by have h9 := aInv_rcv (ix x9) L2 S2 qf 0 hI2; rw [(rl_toR (ix x9) hR hI).2] at h9; exact h9)) (by omega), (rl_toR (ix x9) hR hI).1, ⟨hok, hot, hf0, hqb⟩, ⟨hok2, hot2, hg0, hqb2⟩⟩
    · exact absurd (hCe.trans hc) hc2
  · show G 263 [(12, .int 0), (11, .int a9), (10, .int (nI ((j + mo) % 4))), (9, .int (nI j)), (8, .int (nI v)), (5, .int (nI i)), (4, .int 1), (3, .int (nI mo)), (2, .ref (bd 0)), (1, .ref (ad 0)), (0, .ref b)] [.int (-8)] [xoW ad up op tr, lkW D ad L, alW D e0 (ad 2) hs N, rwW D (ad 3) (ad 10) (ad 11) (ad 12) gf qf.length, rwW D (ad 4) (ad 13) (ad 14) (ad 15) gb qb.length, alW D e0 (ad 5) ht tq.length, dvW da N S om, xoW bd up op tr, lkW D bd L2, alW D e0 (bd 2) hs2 N, rwW D (bd 3) (bd 10) (bd 11) (bd 12) gf2 qf.length, rwW D (bd 4) (bd 13) (bd 14) (bd 15) gb2 qb2.length, alW D e0 (bd 5) ht2 tq.length, dvW db N S2 om2] (k + 1) (n + 6)
    refine x_aload_n B (pc := 263) 8 dL_law_263 rfl rfl ?_
    refine x_iload B (pc := 264) 0 dL_law_264 rfl ?_
    refine x_iconst B (pc := 266) 1 dL_law_266 (by decide) ?_
    refine x_iload B (pc := 267) 4 dL_law_267 rfl ?_
    refine x_bipush B (pc := 269) 8 dL_law_269 (by decide) ?_
    refine x_irem B (pc := 271) dL_law_271 (by decide) ?_
    refine x_iadd B (pc := 272) dL_law_272 ?_
    refine x_val B (y := x9) hx9.symm ?_
    refine x_callSX B (pc := 273) (As := [.ref (bd 0), .int 0, .int x9]) (c_goes_toReceiver hl D e0 hok2 hN hq2 hF hl42) tm470 tm471 tm0 tm472 md_L_goes ⟨Nat.le_of_ble_eq_true rfl, Nat.le_of_ble_eq_true rfl⟩ [7, 8, 9, 10, 13] rfl rfl rfl (Nat.le_of_ble_eq_true rfl) (by show k + 1 + 1 ≤ (619123 : Nat); omega) (by show n + 6 + 6 ≤ (7243813 : Nat); omega) dL_law_273 (fun E hE => False.elim hE) (fun v cs1 hp => ?_)
    rcases hp with ⟨hc2, hz2⟩ | ⟨hc2, rfl, rfl⟩
    · exact absurd (hCe.symm.trans hc2) hc
    · show G 276 [(12, .int 0), (11, .int a9), (10, .int (nI ((j + mo) % 4))), (9, .int (nI j)), (8, .int (nI v)), (5, .int (nI i)), (4, .int 1), (3, .int (nI mo)), (2, .ref (bd 0)), (1, .ref (ad 0)), (0, .ref b)] [.int (-8), .int (-8)] [xoW ad up op tr, lkW D ad L, alW D e0 (ad 2) hs N, rwW D (ad 3) (ad 10) (ad 11) (ad 12) gf qf.length, rwW D (ad 4) (ad 13) (ad 14) (ad 15) gb qb.length, alW D e0 (ad 5) ht tq.length, dvW da N S om, xoW bd up op tr, lkW D bd L2, alW D e0 (bd 2) hs2 N, rwW D (bd 3) (bd 10) (bd 11) (bd 12) gf2 qf.length, rwW D (bd 4) (bd 13) (bd 14) (bd 15) gb2 qb2.length, alW D e0 (bd 5) ht2 tq.length, dvW db N S2 om2] (k + 1 + 1) (n + 6 + 6)
      refine x_icmp_ne B (pc := 276) 283 dL_law_276 (by decide) (fun h276 => absurd rfl h276) (fun h276 => ?_)
      refine x_iconst B (pc := 279) 1 dL_law_279 (by decide) ?_
      refine x_goto B (pc := 280) 284 dL_law_280 (by decide) ?_
      refine x_istore B (pc := 284) [(4, .int 1), (12, .int 0), (11, .int a9), (10, .int (nI ((j + mo) % 4))), (9, .int (nI j)), (8, .int (nI v)), (5, .int (nI i)), (3, .int (nI mo)), (2, .ref (bd 0)), (1, .ref (ad 0)), (0, .ref b)] dL_law_284 (by decide) rfl ?_
      refine x_goto B (pc := 286) 425 dL_law_286 (by decide) ?_
      refine x_lv B [2, 3, 4, 6, 0, 7, 8, 9, 10] [(11, .int a9), (10, .int (nI ((j + mo) % 4))), (9, .int (nI j)), (5, .int (nI i)), (4, .int 1), (3, .int (nI mo)), (2, .ref (bd 0)), (1, .ref (ad 0)), (0, .ref b)] rfl ?_
      refine x_wid B (k + 4) (n + 424) (by omega) (by omega) ?_
      exact K da hs ht gf gb om L S qb db hs2 ht2 gf2 gb2 om2 L2 S2 qb2 N qf up op tr tq ⟨aInv_more hI (by omega), aInv_more hI2 (by omega), hR, ⟨hok, hot, hq, hqb⟩, ⟨hok2, hot2, hq2, hqb2⟩⟩
