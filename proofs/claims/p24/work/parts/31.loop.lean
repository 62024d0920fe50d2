/-! the law's loop -/
set_option maxRecDepth 100000 in
set_option maxHeartbeats 4000000 in
theorem law_loop {l : Launch} (hl : l.stackTraces = false) (D : va_G) (e0 : Nat) {b Ls : Nat} {xs : Nat → Int32} {G : xGt} {X : xXt} (B0 : xL l D e0 b Ls xs G X) (hLs : Ls ≤ 260) {ad bd : Nat → Nat} {mo : Nat} (hmo : mo < 4) : ∀ (fu i t k n : Nat), 131 ≤ i + fu → i ≤ 130 → t ≤ i → k ≤ 100 + 14 * t → n ≤ 10000 + 484 * t → lTo G D e0 ad bd mo t k n 32 [(5, .int (nI i)), (4, .int 1), (3, .int (nI mo)), (2, .ref (bd 0)), (1, .ref (ad 0)), (0, .ref b)] := by
  obtain ⟨hh, B, BS⟩ := B0.base
  intro fu
  induction fu with
  | zero =>
    intro i t k n h1 h2
    omega
  | succ fu ih =>
    intro i t k n h1 h2 h3 h4 h5
    intro da hs ht gf gb om L S qb db hs2 ht2 gf2 gb2 om2 L2 S2 qb2 N qf up op tr tq hg
    show G 32 [(5, .int (nI i)), (4, .int 1), (3, .int (nI mo)), (2, .ref (bd 0)), (1, .ref (ad 0)), (0, .ref b)] [] [xoW ad up op tr, lkW D ad L, alW D e0 (ad 2) hs N, rwW D (ad 3) (ad 10) (ad 11) (ad 12) gf qf.length, rwW D (ad 4) (ad 13) (ad 14) (ad 15) gb qb.length, alW D e0 (ad 5) ht tq.length, dvW da N S om, xoW bd up op tr, lkW D bd L2, alW D e0 (bd 2) hs2 N, rwW D (bd 3) (bd 10) (bd 11) (bd 12) gf2 qf.length, rwW D (bd 4) (bd 13) (bd 14) (bd 15) gb2 qb2.length, alW D e0 (bd 5) ht2 tq.length, dvW db N S2 om2] k n
    refine x_iload B (pc := 32) 0 dL_law_32 rfl ?_
    refine x_sipush B (pc := 34) 130 dL_law_34 (by decide) ?_
    refine x_icmp_ge B (pc := 37) 561 dL_law_37 (by decide) (fun h37 => ?_) (fun h37 => ?_)
    · skip
      refine x_iload B (pc := 561) 1 dL_law_561 rfl ?_
      exact x_lawend B0 (pc := 563) dL_law_563 (by omega) (by omega)
    · skip
      have hi130 : i < 130 := Nat.lt_of_not_le (fun e => h37 (nI_le (a := 130) e (by omega)))
      have K5 : lTo G D e0 ad bd mo (t + 1) (k + 4 + 10) (n + 424 + 60) 555 [(5, .int (nI i)), (4, .int 1), (3, .int (nI mo)), (2, .ref (bd 0)), (1, .ref (ad 0)), (0, .ref b)] := by
        intro da hs ht gf gb om L S qb db hs2 ht2 gf2 gb2 om2 L2 S2 qb2 N qf up op tr tq hg2
        show G 555 [(5, .int (nI i)), (4, .int 1), (3, .int (nI mo)), (2, .ref (bd 0)), (1, .ref (ad 0)), (0, .ref b)] [] [xoW ad up op tr, lkW D ad L, alW D e0 (ad 2) hs N, rwW D (ad 3) (ad 10) (ad 11) (ad 12) gf qf.length, rwW D (ad 4) (ad 13) (ad 14) (ad 15) gb qb.length, alW D e0 (ad 5) ht tq.length, dvW da N S om, xoW bd up op tr, lkW D bd L2, alW D e0 (bd 2) hs2 N, rwW D (bd 3) (bd 10) (bd 11) (bd 12) gf2 qf.length, rwW D (bd 4) (bd 13) (bd 14) (bd 15) gb2 qb2.length, alW D e0 (bd 5) ht2 tq.length, dvW db N S2 om2] (k + 4 + 10) (n + 424 + 60)
        refine x_iinc B (pc := 555) 0 (nI (i + 1)) [(5, .int (nI (i + 1))), (4, .int 1), (3, .int (nI mo)), (2, .ref (bd 0)), (1, .ref (ad 0)), (0, .ref b)] dL_law_555 rfl (nI_1 i) (by decide) rfl ?_
        refine x_goto B (pc := 558) 32 dL_law_558 (by decide) ?_
        exact ih (i + 1) (t + 1) (k + 4 + 10) (n + 424 + 60) (by omega) (by omega) (by omega) (by omega) (by omega) da hs ht gf gb om L S qb db hs2 ht2 gf2 gb2 om2 L2 S2 qb2 N qf up op tr tq hg2
      refine x_iload B (pc := 40) 1 dL_law_40 rfl ?_
      refine x_if_eq B (pc := 42) 561 dL_law_42 (by decide) (fun h42 => absurd h42 (by decide)) (fun h42 => ?_)
      refine x_aload_n B (pc := 45) 5 dL_law_45 rfl rfl ?_
      refine x_iload B (pc := 46) 0 dL_law_46 rfl ?_
      refine x_bipush B (pc := 48) 62 dL_law_48 (by decide) ?_
      refine x_irem B (pc := 50) dL_law_50 (by decide) ?_
      refine x_val B (y := nI (i % 62)) (pk_rem (a := i) (d := 62) (by omega) (by decide) (by decide)) ?_
      refine x_callD BS (pc := 51) (As := [.ref b, .int (nI (i % 62))]) (c_L_drawn hl D e0 (Nat.mod_lt _ (by decide)) hLs) tm172 tm173 tm0 tm174 md_L_drawn ⟨Nat.le_of_ble_eq_true rfl, Nat.le_of_ble_eq_true rfl⟩ rfl (Nat.le_of_ble_eq_true rfl) (by show k + 0 ≤ (619123 : Nat); omega) (by show n + 0 ≤ (7243813 : Nat); omega) dL_law_51 (fun v9 cs9 hp => ?_)
      obtain ⟨⟨g, hg30, rfl⟩, rfl⟩ := hp
      obtain ⟨g2, hg2, eg2⟩ : ∃ g2 : Nat, g2 < 2 ^ 30 ∧ g / (1 + i / 62) = g2 := ⟨_, Nat.lt_of_le_of_lt (Nat.div_le_self g _) hg30, rfl⟩
      obtain ⟨z, hz, ez⟩ : ∃ z : Nat, z < 2 ^ 31 ∧ g2 + 5 * (i / 62) = z := ⟨_, by omega, rfl⟩
      show G 54 [(5, .int (nI i)), (4, .int 1), (3, .int (nI mo)), (2, .ref (bd 0)), (1, .ref (ad 0)), (0, .ref b)] [.int (nI g)] [xoW ad up op tr, lkW D ad L, alW D e0 (ad 2) hs N, rwW D (ad 3) (ad 10) (ad 11) (ad 12) gf qf.length, rwW D (ad 4) (ad 13) (ad 14) (ad 15) gb qb.length, alW D e0 (ad 5) ht tq.length, dvW da N S om, xoW bd up op tr, lkW D bd L2, alW D e0 (bd 2) hs2 N, rwW D (bd 3) (bd 10) (bd 11) (bd 12) gf2 qf.length, rwW D (bd 4) (bd 13) (bd 14) (bd 15) gb2 qb2.length, alW D e0 (bd 5) ht2 tq.length, dvW db N S2 om2] k n
      refine x_iconst B (pc := 54) 1 dL_law_54 (by decide) ?_
      refine x_iload B (pc := 55) 0 dL_law_55 rfl ?_
      refine x_bipush B (pc := 57) 62 dL_law_57 (by decide) ?_
      refine x_idiv B (pc := 59) dL_law_59 (by decide) ?_
      refine x_val B (y := nI (i / 62)) (pk_div (a := i) (d := 62) (by omega) (by decide) (by decide)) ?_
      refine x_iadd B (pc := 60) dL_law_60 ?_
      refine x_val B (y := nI (1 + i / 62)) (nI_add 1 (i / 62)) ?_
      refine x_idiv B (pc := 61) dL_law_61 (fun e => by have h9 := (nI_eq (b := 0) (by omega) (by decide)).mp e; omega) ?_
      refine x_val B (y := nI g2) ((pk_div (a := g) (d := 1 + i / 62) (by omega) (by omega) (by omega)).trans (congrArg nI eg2)) ?_
      refine x_iconst B (pc := 62) 5 dL_law_62 (by decide) ?_
      refine x_iload B (pc := 63) 0 dL_law_63 rfl ?_
      refine x_bipush B (pc := 65) 62 dL_law_65 (by decide) ?_
      refine x_idiv B (pc := 67) dL_law_67 (by decide) ?_
      refine x_val B (y := nI (i / 62)) (pk_div (a := i) (d := 62) (by omega) (by decide) (by decide)) ?_
      refine x_imul B (pc := 68) dL_law_68 ?_
      refine x_val B (y := nI (5 * (i / 62))) (pk_mul 5 (i / 62)) ?_
      refine x_iadd B (pc := 69) dL_law_69 ?_
      refine x_val B (y := nI z) ((nI_add _ _).trans (congrArg nI ez)) ?_
      refine x_istore B (pc := 70) [(6, .int (nI z)), (5, .int (nI i)), (4, .int 1), (3, .int (nI mo)), (2, .ref (bd 0)), (1, .ref (ad 0)), (0, .ref b)] dL_law_70 (by decide) rfl ?_
      refine x_iload B (pc := 72) 0 dL_law_72 rfl ?_
      refine x_bipush B (pc := 74) 22 dL_law_74 (by decide) ?_
      refine x_irem B (pc := 76) dL_law_76 (by decide) ?_
      refine x_val B (y := nI (z % 22)) (pk_rem (a := z) (d := 22) hz (by decide) (by decide)) ?_
      refine x_istore B (pc := 77) [(7, .int (nI (z % 22))), (6, .int (nI z)), (5, .int (nI i)), (4, .int 1), (3, .int (nI mo)), (2, .ref (bd 0)), (1, .ref (ad 0)), (0, .ref b)] dL_law_77 (by decide) rfl ?_
      refine x_iload B (pc := 79) 1 dL_law_79 rfl ?_
      refine x_bipush B (pc := 81) 22 dL_law_81 (by decide) ?_
      refine x_idiv B (pc := 83) dL_law_83 (by decide) ?_
      refine x_val B (y := nI (z / 22)) (pk_div (a := z) (d := 22) hz (by decide) (by decide)) ?_
      refine x_istore B (pc := 84) [(8, .int (nI (z / 22))), (7, .int (nI (z % 22))), (6, .int (nI z)), (5, .int (nI i)), (4, .int 1), (3, .int (nI mo)), (2, .ref (bd 0)), (1, .ref (ad 0)), (0, .ref b)] dL_law_84 (by decide) rfl ?_
      refine x_iload B (pc := 86) 0 dL_law_86 rfl ?_
      refine x_iconst B (pc := 88) 4 dL_law_88 (by decide) ?_
      refine x_irem B (pc := 89) dL_law_89 (by decide) ?_
      refine x_val B (y := nI (z / 22 % 4)) (pk_rem (a := z / 22) (d := 4) (by omega) (by decide) (by decide)) ?_
      refine x_istore B (pc := 90) [(9, .int (nI (z / 22 % 4))), (8, .int (nI (z / 22))), (7, .int (nI (z % 22))), (6, .int (nI z)), (5, .int (nI i)), (4, .int 1), (3, .int (nI mo)), (2, .ref (bd 0)), (1, .ref (ad 0)), (0, .ref b)] dL_law_90 (by decide) rfl ?_
      refine x_iload B (pc := 92) 0 dL_law_92 rfl ?_
      refine x_iload_n B (pc := 94) 6 dL_law_94 rfl rfl ?_
      refine x_iadd B (pc := 95) dL_law_95 ?_
      refine x_val B (y := nI (z / 22 % 4 + mo)) (nI_add _ _) ?_
      refine x_iconst B (pc := 96) 4 dL_law_96 (by decide) ?_
      refine x_irem B (pc := 97) dL_law_97 (by decide) ?_
      refine x_val B (y := nI ((z / 22 % 4 + mo) % 4)) (pk_rem (a := z / 22 % 4 + mo) (d := 4) (by omega) (by decide) (by decide)) ?_
      have hj : z / 22 % 4 < 4 := Nat.mod_lt _ (by decide)
      refine x_istore B (pc := 98) [(10, .int (nI ((z / 22 % 4 + mo) % 4))), (9, .int (nI (z / 22 % 4))), (8, .int (nI (z / 22))), (7, .int (nI (z % 22))), (6, .int (nI z)), (5, .int (nI i)), (4, .int 1), (3, .int (nI mo)), (2, .ref (bd 0)), (1, .ref (ad 0)), (0, .ref b)] dL_law_98 (by decide) rfl ?_
      refine x_aload_n B (pc := 100) 9 dL_law_100 rfl rfl ?_
      refine x_callV B (pc := 101) (As := []) (c_X3_deliveries hl D e0 ) xcl_X rfl 0 0 rfl rfl tm125 tm126 tm127 tm1 tm128 md_X3_deliveries ⟨Nat.le_of_ble_eq_true rfl, Nat.le_of_ble_eq_true rfl⟩ [0, 2] rfl rfl rfl (Nat.le_of_ble_eq_true rfl) (by show k ≤ (619123 : Nat); omega) (by show n ≤ (7243813 : Nat); omega) dL_law_101 (fun E hE => False.elim hE) (fun v cs1 hp => ?_)
      obtain ⟨rfl, rfl⟩ := hp
      show G 104 [(10, .int (nI ((z / 22 % 4 + mo) % 4))), (9, .int (nI (z / 22 % 4))), (8, .int (nI (z / 22))), (7, .int (nI (z % 22))), (6, .int (nI z)), (5, .int (nI i)), (4, .int 1), (3, .int (nI mo)), (2, .ref (bd 0)), (1, .ref (ad 0)), (0, .ref b)] [.int (nI N)] [xoW ad up op tr, lkW D ad L, alW D e0 (ad 2) hs N, rwW D (ad 3) (ad 10) (ad 11) (ad 12) gf qf.length, rwW D (ad 4) (ad 13) (ad 14) (ad 15) gb qb.length, alW D e0 (ad 5) ht tq.length, dvW da N S om, xoW bd up op tr, lkW D bd L2, alW D e0 (bd 2) hs2 N, rwW D (bd 3) (bd 10) (bd 11) (bd 12) gf2 qf.length, rwW D (bd 4) (bd 13) (bd 14) (bd 15) gb2 qb2.length, alW D e0 (bd 5) ht2 tq.length, dvW db N S2 om2] k n
      refine x_if_ne B (pc := 104) 111 dL_law_104 (by decide) (fun h104 => ?_) (fun h104 => ?_)
      · skip
        refine x_iload B (pc := 111) 2 dL_law_111 rfl ?_
        refine x_aload_n B (pc := 113) 9 dL_law_113 rfl rfl ?_
        refine x_callV B (pc := 114) (As := []) (c_X3_deliveries hl D e0 ) xcl_X rfl 0 0 rfl rfl tm125 tm126 tm127 tm1 tm128 md_X3_deliveries ⟨Nat.le_of_ble_eq_true rfl, Nat.le_of_ble_eq_true rfl⟩ [0, 2] rfl rfl rfl (Nat.le_of_ble_eq_true rfl) (by show k ≤ (619123 : Nat); omega) (by show n ≤ (7243813 : Nat); omega) dL_law_114 (fun E hE => False.elim hE) (fun v cs1 hp => ?_)
        obtain ⟨rfl, rfl⟩ := hp
        show G 117 [(10, .int (nI ((z / 22 % 4 + mo) % 4))), (9, .int (nI (z / 22 % 4))), (8, .int (nI (z / 22))), (7, .int (nI (z % 22))), (6, .int (nI z)), (5, .int (nI i)), (4, .int 1), (3, .int (nI mo)), (2, .ref (bd 0)), (1, .ref (ad 0)), (0, .ref b)] [.int (nI N), .int (nI (z / 22))] [xoW ad up op tr, lkW D ad L, alW D e0 (ad 2) hs N, rwW D (ad 3) (ad 10) (ad 11) (ad 12) gf qf.length, rwW D (ad 4) (ad 13) (ad 14) (ad 15) gb qb.length, alW D e0 (ad 5) ht tq.length, dvW da N S om, xoW bd up op tr, lkW D bd L2, alW D e0 (bd 2) hs2 N, rwW D (bd 3) (bd 10) (bd 11) (bd 12) gf2 qf.length, rwW D (bd 4) (bd 13) (bd 14) (bd 15) gb2 qb2.length, alW D e0 (bd 5) ht2 tq.length, dvW db N S2 om2] k n
        refine x_irem B (pc := 117) dL_law_117 h104 ?_
        refine x_istore B (pc := 118) [(11, .int ((nI (z / 22)) - (nI (z / 22)) / (nI N) * (nI N))), (10, .int (nI ((z / 22 % 4 + mo) % 4))), (9, .int (nI (z / 22 % 4))), (8, .int (nI (z / 22))), (7, .int (nI (z % 22))), (6, .int (nI z)), (5, .int (nI i)), (4, .int 1), (3, .int (nI mo)), (2, .ref (bd 0)), (1, .ref (ad 0)), (0, .ref b)] dL_law_118 (by decide) rfl ?_
        refine x_lv B [0, 1, 2, 3, 4, 5, 6, 7, 8, 9, 10, 11] [(11, .int ((nI (z / 22)) - (nI (z / 22)) / (nI N) * (nI N))), (10, .int (nI ((z / 22 % 4 + mo) % 4))), (9, .int (nI (z / 22 % 4))), (8, .int (nI (z / 22))), (7, .int (nI (z % 22))), (6, .int (nI z)), (5, .int (nI i)), (4, .int 1), (3, .int (nI mo)), (2, .ref (bd 0)), (1, .ref (ad 0)), (0, .ref b)] rfl ?_
        have K4 := st_check hl D e0 B0 (i := i) (v := z / 22) (a9 := (nI (z / 22)) - (nI (z / 22)) / (nI N) * (nI N)) hj hmo (show t + 1 < 400 by omega) (show k + 4 ≤ 8000 by omega) (show n + 424 ≤ 300000 by omega) K5
        have h9 := st_tree hl D e0 B0 (i := i) (v := z / 22) (q := z % 22) (z := z) (a9 := (nI (z / 22)) - (nI (z / 22)) / (nI N) * (nI N)) hj hmo (show t < 400 by omega) (show k ≤ 8000 by omega) (show n ≤ 300000 by omega) K4 da hs ht gf gb om L S qb db hs2 ht2 gf2 gb2 om2 L2 S2 qb2 N qf up op tr tq hg
        exact h9
      · skip
        refine x_iconst B (pc := 107) 0 dL_law_107 (by decide) ?_
        refine x_goto B (pc := 108) 118 dL_law_108 (by decide) ?_
        refine x_istore B (pc := 118) [(11, .int 0), (10, .int (nI ((z / 22 % 4 + mo) % 4))), (9, .int (nI (z / 22 % 4))), (8, .int (nI (z / 22))), (7, .int (nI (z % 22))), (6, .int (nI z)), (5, .int (nI i)), (4, .int 1), (3, .int (nI mo)), (2, .ref (bd 0)), (1, .ref (ad 0)), (0, .ref b)] dL_law_118 (by decide) rfl ?_
        refine x_lv B [0, 1, 2, 3, 4, 5, 6, 7, 8, 9, 10, 11] [(11, .int 0), (10, .int (nI ((z / 22 % 4 + mo) % 4))), (9, .int (nI (z / 22 % 4))), (8, .int (nI (z / 22))), (7, .int (nI (z % 22))), (6, .int (nI z)), (5, .int (nI i)), (4, .int 1), (3, .int (nI mo)), (2, .ref (bd 0)), (1, .ref (ad 0)), (0, .ref b)] rfl ?_
        have K4 := st_check hl D e0 B0 (i := i) (v := z / 22) (a9 := 0) hj hmo (show t + 1 < 400 by omega) (show k + 4 ≤ 8000 by omega) (show n + 424 ≤ 300000 by omega) K5
        have h9 := st_tree hl D e0 B0 (i := i) (v := z / 22) (q := z % 22) (z := z) (a9 := 0) hj hmo (show t < 400 by omega) (show k ≤ 8000 by omega) (show n ≤ 300000 by omega) K4 da hs ht gf gb om L S qb db hs2 ht2 gf2 gb2 om2 L2 S2 qb2 N qf up op tr tq hg
        exact h9
set_option maxRecDepth 100000 in
set_option maxHeartbeats 4000000 in
/-- the law from its entry -/
theorem law_all {l : Launch} (hl : l.stackTraces = false) (D : va_G) (e0 : Nat) {b Ls : Nat} {xs : Nat → Int32} {G : xGt} {X : xXt} (B0 : xL l D e0 b Ls xs G X) (hLs : Ls ≤ 260) : G 0 [(0, .ref b)] [] [] 0 0 := by
  obtain ⟨hh, B, BS⟩ := B0.base
  refine x_new B (pc := 0) (fs := [.null, .null, .null, .null, .null, .int 0, .int 0, .int 0]) xcl_X tm20 tm21 tm1 (fun j hj => by rcases (show j = 0 ∨ j = 1 ∨ j = 2 ∨ j = 3 ∨ j = 4 ∨ j = 5 ∨ j = 6 ∨ j = 7 by omega) with rfl | rfl | rfl | rfl | rfl | rfl | rfl | rfl <;> rfl) (by show 1 ≤ (619123 : Nat); omega) (by show 8 ≤ (7243813 : Nat); omega) dL_law_0 (fun x0 => ?_)
  show G 3 [(0, .ref b)] [.ref x0] [[(x0, .inr (4, [.null, .null, .null, .null, .null, .int 0, .int 0, .int 0]))]] 1 8
  refine x_dup B (pc := 3) dL_law_3 rfl ?_
  refine x_callI B (pc := 4) (As := []) (c_X3_init hl D e0 ) rfl tm22 tm23 tm1 tm24 md_X3_init ⟨Nat.le_of_ble_eq_true rfl, Nat.le_of_ble_eq_true rfl⟩ [0] rfl rfl rfl (Nat.le_of_ble_eq_true rfl) (by show 16 ≤ (619123 : Nat); omega) (by show 3116 ≤ (7243813 : Nat); omega) dL_law_4 (fun E hE => False.elim hE) (fun v cs1 hp => ?_)
  obtain ⟨rfl, ad, had, rfl⟩ := hp
  show G 7 [(0, .ref b)] [.ref x0] [xoW ad 1 0 0, lkW D ad (fun _ _ => 0), alW D e0 (ad 2) (0, none) 0, rwW D (ad 3) (ad 10) (ad 11) (ad 12) xg0 0, rwW D (ad 4) (ad 13) (ad 14) (ad 15) xg0 0, alW D e0 (ad 5) (0, none) 0] 16 3116
  subst had
  refine x_astore_n B (pc := 7) [(1, .ref (ad 0)), (0, .ref b)] dL_law_7 rfl (by decide) rfl ?_
  refine x_new B (pc := 8) (fs := [.null, .null, .null, .null, .null, .int 0, .int 0, .int 0]) xcl_X tm20 tm21 tm1 (fun j hj => by rcases (show j = 0 ∨ j = 1 ∨ j = 2 ∨ j = 3 ∨ j = 4 ∨ j = 5 ∨ j = 6 ∨ j = 7 by omega) with rfl | rfl | rfl | rfl | rfl | rfl | rfl | rfl <;> rfl) (by show 17 ≤ (619123 : Nat); omega) (by show 3124 ≤ (7243813 : Nat); omega) dL_law_8 (fun y0 => ?_)
  show G 11 [(1, .ref (ad 0)), (0, .ref b)] [.ref y0] [xoW ad 1 0 0, lkW D ad (fun _ _ => 0), alW D e0 (ad 2) (0, none) 0, rwW D (ad 3) (ad 10) (ad 11) (ad 12) xg0 0, rwW D (ad 4) (ad 13) (ad 14) (ad 15) xg0 0, alW D e0 (ad 5) (0, none) 0, [(y0, .inr (4, [.null, .null, .null, .null, .null, .int 0, .int 0, .int 0]))]] 17 3124
  refine x_dup B (pc := 11) dL_law_11 rfl ?_
  refine x_callI B (pc := 12) (As := []) (c_X3_init hl D e0 ) rfl tm22 tm23 tm1 tm24 md_X3_init ⟨Nat.le_of_ble_eq_true rfl, Nat.le_of_ble_eq_true rfl⟩ [6] rfl rfl rfl (Nat.le_of_ble_eq_true rfl) (by show 32 ≤ (619123 : Nat); omega) (by show 6232 ≤ (7243813 : Nat); omega) dL_law_12 (fun E hE => False.elim hE) (fun v cs1 hp => ?_)
  obtain ⟨rfl, bd, hbd, rfl⟩ := hp
  show G 15 [(1, .ref (ad 0)), (0, .ref b)] [.ref y0] [xoW ad 1 0 0, lkW D ad (fun _ _ => 0), alW D e0 (ad 2) (0, none) 0, rwW D (ad 3) (ad 10) (ad 11) (ad 12) xg0 0, rwW D (ad 4) (ad 13) (ad 14) (ad 15) xg0 0, alW D e0 (ad 5) (0, none) 0, xoW bd 1 0 0, lkW D bd (fun _ _ => 0), alW D e0 (bd 2) (0, none) 0, rwW D (bd 3) (bd 10) (bd 11) (bd 12) xg0 0, rwW D (bd 4) (bd 13) (bd 14) (bd 15) xg0 0, alW D e0 (bd 5) (0, none) 0] 32 6232
  subst hbd
  refine x_astore_n B (pc := 15) [(2, .ref (bd 0)), (1, .ref (ad 0)), (0, .ref b)] dL_law_15 rfl (by decide) rfl ?_
  refine x_iconst B (pc := 16) 1 dL_law_16 (by decide) ?_
  refine x_aload_n B (pc := 17) 2 dL_law_17 rfl rfl ?_
  refine x_iconst B (pc := 18) 0 dL_law_18 (by decide) ?_
  refine x_val B (y := nI 0) rfl ?_
  refine x_callD BS (pc := 19) (As := [.ref b, .int (nI 0)]) (c_L_drawn hl D e0 (by decide) hLs) tm172 tm173 tm0 tm174 md_L_drawn ⟨Nat.le_of_ble_eq_true rfl, Nat.le_of_ble_eq_true rfl⟩ rfl (Nat.le_of_ble_eq_true rfl) (by show 32 + 0 ≤ (619123 : Nat); omega) (by show 6232 + 0 ≤ (7243813 : Nat); omega) dL_law_19 (fun v9 cs9 hp => ?_)
  obtain ⟨⟨g, hg30, rfl⟩, rfl⟩ := hp
  obtain ⟨mo, hmo, emo⟩ : ∃ mo : Nat, mo < 4 ∧ 1 + g % 3 = mo := ⟨_, by omega, rfl⟩
  show G 22 [(2, .ref (bd 0)), (1, .ref (ad 0)), (0, .ref b)] [.int (nI g), .int 1] [xoW ad 1 0 0, lkW D ad (fun _ _ => 0), alW D e0 (ad 2) (0, none) 0, rwW D (ad 3) (ad 10) (ad 11) (ad 12) xg0 0, rwW D (ad 4) (ad 13) (ad 14) (ad 15) xg0 0, alW D e0 (ad 5) (0, none) 0, xoW bd 1 0 0, lkW D bd (fun _ _ => 0), alW D e0 (bd 2) (0, none) 0, rwW D (bd 3) (bd 10) (bd 11) (bd 12) xg0 0, rwW D (bd 4) (bd 13) (bd 14) (bd 15) xg0 0, alW D e0 (bd 5) (0, none) 0] 32 6232
  refine x_iconst B (pc := 22) 3 dL_law_22 (by decide) ?_
  refine x_irem B (pc := 23) dL_law_23 (by decide) ?_
  refine x_val B (y := nI (g % 3)) (pk_rem (a := g) (d := 3) (by omega) (by decide) (by decide)) ?_
  refine x_iadd B (pc := 24) dL_law_24 ?_
  refine x_val B (y := nI mo) ((nI_add 1 (g % 3)).trans (congrArg nI emo)) ?_
  refine x_istore_n B (pc := 25) [(3, .int (nI mo)), (2, .ref (bd 0)), (1, .ref (ad 0)), (0, .ref b)] dL_law_25 rfl (by decide) rfl ?_
  refine x_iconst B (pc := 26) 1 dL_law_26 (by decide) ?_
  refine x_istore B (pc := 27) [(4, .int 1), (3, .int (nI mo)), (2, .ref (bd 0)), (1, .ref (ad 0)), (0, .ref b)] dL_law_27 (by decide) rfl ?_
  refine x_iconst B (pc := 29) 1 dL_law_29 (by decide) ?_
  refine x_val B (y := nI 1) rfl ?_
  refine x_istore B (pc := 30) [(5, .int (nI 1)), (4, .int 1), (3, .int (nI mo)), (2, .ref (bd 0)), (1, .ref (ad 0)), (0, .ref b)] dL_law_30 (by decide) rfl ?_
  refine x_lv B [0, 1, 2, 3, 4, 5] [(5, .int (nI 1)), (4, .int 1), (3, .int (nI mo)), (2, .ref (bd 0)), (1, .ref (ad 0)), (0, .ref b)] rfl ?_
  refine x_flat B (cs1 := [xoW ad 1 0 0, lkW D ad (fun _ _ => 0), alW D e0 (ad 2) (0, none) 0, rwW D (ad 3) (ad 10) (ad 11) (ad 12) xg0 0, rwW D (ad 4) (ad 13) (ad 14) (ad 15) xg0 0, alW D e0 (ad 5) (0, none) 0, dvW (fun _ => 0) 0 (fun _ _ => 0) (fun _ => 0), xoW bd 1 0 0, lkW D bd (fun _ _ => 0), alW D e0 (bd 2) (0, none) 0, rwW D (bd 3) (bd 10) (bd 11) (bd 12) xg0 0, rwW D (bd 4) (bd 13) (bd 14) (bd 15) xg0 0, alW D e0 (bd 5) (0, none) 0, dvW (fun _ => 0) 0 (fun _ _ => 0) (fun _ => 0)]) rfl ?_
  have hg : gOk mo (fun _ => 0) (0, none) (0, none) xg0 xg0 (fun _ => 0) (fun _ _ => 0) (fun _ _ => 0) [] (fun _ => 0) (0, none) (0, none) xg0 xg0 (fun _ => 0) (fun _ _ => 0) (fun _ _ => 0) [] 0 [] 1 0 [] 0 := by
    refine ⟨⟨Or.inr rfl, Or.inl rfl, fun k j _ _ _ => ⟨0, by decide, rfl⟩, Nat.zero_le _, ⟨fun d => Or.inl rfl, fun d hd => absurd hd (Nat.not_lt_zero d), fun d _ => ⟨rfl, rfl, rfl, rfl⟩, List.nodup_nil, (fun d hd => nomatch hd)⟩, (fun y hy => nomatch hy), (fun y hy => nomatch hy), Nat.le_refl _, Nat.le_refl _, fun e => absurd e (by decide)⟩, ⟨Or.inr rfl, Or.inl rfl, fun k j _ _ _ => ⟨0, by decide, rfl⟩, Nat.zero_le _, ⟨fun d => Or.inl rfl, fun d hd => absurd hd (Nat.not_lt_zero d), fun d _ => ⟨rfl, rfl, rfl, rfl⟩, List.nodup_nil, (fun d hd => nomatch hd)⟩, (fun y hy => nomatch hy), (fun y hy => nomatch hy), Nat.le_refl _, Nat.le_refl _, fun e => absurd e (by decide)⟩, ⟨fun k j _ => rfl, ⟨fun _ => 0, ?_, fun d hd => absurd hd (Nat.not_lt_zero d)⟩, rfl⟩, ⟨rfl, rfl, rw_nil xg0, rw_nil xg0⟩, ⟨rfl, rfl, rw_nil xg0, rw_nil xg0⟩⟩
    funext k
    by_cases h4 : k = 4
    · subst h4; rw [put4_4]
    · rw [put4_k h4]
  exact law_loop hl D e0 B0 hLs hmo 130 1 0 32 6232 (by omega) (by omega) (by omega) (by omega) (by omega) _ _ _ _ _ _ _ _ _ _ _ _ _ _ _ _ _ _ _ _ _ _ _ _ hg
