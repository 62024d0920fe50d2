theorem md_set11b {D : va_G} {am : Nat → Nat} {S : xS} {j : Nat} {v w : Int32} (h : vp_nar .boolean v = w) : (mdW D am S).set 7 (am 12, .inl (D.1 11, 60, .inl (upd (S 11) j (vp_nar .boolean v)))) = mdW D am (xup S 11 j w) := by
  rw [h]
  exact md_set11
theorem md_set11c {D : va_G} {am : Nat → Nat} {S : xS} {j : Nat} (h : vp_nar .boolean (S 11 j) = S 11 j) : (mdW D am S).set 7 (am 12, .inl (D.1 11, 60, .inl (upd (S 11) j (vp_nar .boolean (S 11 j))))) = mdW D am S := by
  rw [h]
  refine md_set11.trans ?_
  rw [xup_id rfl]
theorem nar_0 : vp_nar .boolean 0 = 0 := by decide
theorem nar_1 : vp_nar .boolean 1 = 1 := by decide
theorem nar_01 {v : Int32} (h : v = 0 ∨ v = 1) : vp_nar .boolean v = v := by
  rcases h with rfl | rfl
  · exact nar_0
  · exact nar_1
theorem aComeR_01 (S : xS) (d p : Nat) : aComeR S d p = 0 ∨ aComeR S d p = 1 := by
  unfold aComeR
  split
  · split
    · exact Or.inr rfl
    · exact Or.inl rfl
  · exact Or.inl rfl
def b11 (S : xS) : Prop := ∀ d, S 11 d = 0 ∨ S 11 d = 1
theorem b11_up {S : xS} {k d : Nat} {v : Int32} (h : b11 S) (hv : k ≠ 11 ∨ v = 0 ∨ v = 1) : b11 (xup S k d v) := by
  intro e
  by_cases hk : 11 = k
  · by_cases he : e = d
    · subst hk
      subst he
      rw [xup_same]
      rcases hv with hv | hv
      · exact absurd rfl hv
      · exact hv
    · rw [xup_ne (Or.inr he)]
      exact h e
  · rw [xup_ne (Or.inl hk)]
    exact h e
theorem b11_come {S : xS} {d p : Nat} (h : b11 S) : b11 (aComeS S d p) := by
  unfold aComeS
  split
  · refine b11_up (b11_up (b11_up h (Or.inr ?_)) (Or.inl (by decide))) (Or.inl (by decide))
    split
    · exact h d
    · split
      · exact Or.inr rfl
      · exact Or.inl rfl
  · exact h
theorem b11_rcv {S : xS} {x : xFr} (h : b11 S) : b11 (rcvS S x) := by
  unfold rcvS
  split
  · unfold aForget
    split
    · exact b11_up h (Or.inl (by decide))
    · exact h
  · exact b11_come h
theorem l16_up {L : xS} {k j : Nat} {v : Int32} (h : l16 L) (hv : k = 0 ∨ ∃ n, n < 16 ∧ v = nI n) : l16 (xup L k j v) := by
  intro a b ha ha4 hb
  by_cases he : a = k ∧ b = j
  · obtain ⟨rfl, rfl⟩ := he
    rw [xup_same]
    rcases hv with hv | hv
    · exact absurd hv ha
    · exact hv
  · have he' : a ≠ k ∨ b ≠ j := by
      by_cases h1 : a = k
      · exact Or.inr (fun h2 => he ⟨h1, h2⟩)
      · exact Or.inl h1
    rw [xup_ne he']
    exact h a b ha ha4 hb
theorem l16_rcv {L S : xS} {x : xFr} (h : l16 L) : l16 (rcvL L S x) := by
  unfold rcvL
  split
  · exact l16_up h (Or.inr (w15_ex _))
  · exact h
theorem enc_d {d p kd : Nat} (hd : d < 60) (hp : p < 4) (hk : kd < 2) : nI (16 * d + 2 * p + kd) / 16 = nI d := by
  have h := pk_div (a := 16 * d + 2 * p + kd) (d := 16) (by omega) (by decide) (by decide)
  rw [show (16 * d + 2 * p + kd) / 16 = d by omega] at h
  exact h
theorem enc_h {d p kd : Nat} (hd : d < 60) (hp : p < 4) (hk : kd < 2) : nI (16 * d + 2 * p + kd) / 2 = nI (8 * d + p) := by
  have h := pk_div (a := 16 * d + 2 * p + kd) (d := 2) (by omega) (by decide) (by decide)
  rw [show (16 * d + 2 * p + kd) / 2 = 8 * d + p by omega] at h
  exact h
theorem enc_p {d p : Nat} (hd : d < 60) (hp : p < 4) : nI (8 * d + p) - nI (8 * d + p) / 8 * 8 = nI p := by
  have h := pk_rem (a := 8 * d + p) (d := 8) (by omega) (by decide) (by decide)
  rw [show (8 * d + p) % 8 = p by omega] at h
  exact h
theorem enc_k {d p kd : Nat} (hd : d < 60) (hp : p < 4) (hk : kd < 2) : nI (16 * d + 2 * p + kd) - nI (16 * d + 2 * p + kd) / 2 * 2 = nI kd := by
  have h := pk_rem (a := 16 * d + 2 * p + kd) (d := 2) (by omega) (by decide) (by decide)
  rw [show (16 * d + 2 * p + kd) % 2 = kd by omega] at h
  exact h
theorem enb_l {s v : Nat} (hs : s < 4) (hv : v < 16) : nI (16 * s + v) / 16 = nI s := by
  have h := pk_div (a := 16 * s + v) (d := 16) (by omega) (by decide) (by decide)
  rw [show (16 * s + v) / 16 = s by omega] at h
  exact h
theorem enb_v {s v : Nat} (hs : s < 4) (hv : v < 16) : nI (16 * s + v) - nI (16 * s + v) / 16 * 16 = nI v := by
  have h := pk_rem (a := 16 * s + v) (d := 16) (by omega) (by decide) (by decide)
  rw [show (16 * s + v) % 16 = v by omega] at h
  exact h
theorem enb_d {s v : Nat} (hs : s < 60) (hv : v < 4) : nI (4 * s + v) / 4 = nI s := by
  have h := pk_div (a := 4 * s + v) (d := 4) (by omega) (by decide) (by decide)
  rw [show (4 * s + v) / 4 = s by omega] at h
  exact h
theorem enb_o {s v : Nat} (hs : s < 60) (hv : v < 4) : nI (4 * s + v) - nI (4 * s + v) / 4 * 4 = nI v := by
  have h := pk_rem (a := 4 * s + v) (d := 4) (by omega) (by decide) (by decide)
  rw [show (4 * s + v) % 4 = v by omega] at h
  exact h
def aBr1 (S : xS) (d : Nat) : xS := if S 9 d = 1 then xup S 9 d (xbf (S 11 d)) else S
theorem xbf_04 (z : Int32) : xbf z = 0 ∨ xbf z = 4 := by
  unfold xbf
  split
  · exact Or.inl rfl
  · exact Or.inr rfl
theorem aBr1_k (S : xS) (d : Nat) {k : Nat} (h : k ≠ 9) : aBr1 S d k = S k := by
  unfold aBr1
  split
  · rw [xup_k h]
  · rfl
theorem aBr1_9 {S : xS} {d : Nat} (h : S 9 d = 0 ∨ S 9 d = 1 ∨ S 9 d = 2 ∨ S 9 d = 3 ∨ S 9 d = 4) : aBr1 S d 9 d = 0 ∨ aBr1 S d 9 d = 1 ∨ aBr1 S d 9 d = 2 ∨ aBr1 S d 9 d = 3 ∨ aBr1 S d 9 d = 4 := by
  unfold aBr1
  split
  · rw [xup_same]
    rcases xbf_04 (S 11 d) with h | h
    · exact Or.inl h
    · exact Or.inr (Or.inr (Or.inr (Or.inr h)))
  · exact h
theorem aBr1_3 {S : xS} {d : Nat} (h : aBr1 S d 9 d = 3) : S 9 d = 3 ∧ aBr1 S d = S := by
  unfold aBr1 at h ⊢
  by_cases h1 : S 9 d = 1
  · rw [if_pos h1, xup_same] at h
    rcases xbf_04 (S 11 d) with e | e
    · rw [e] at h
      exact absurd h (by decide)
    · rw [e] at h
      exact absurd h (by decide)
  · rw [if_neg h1] at h ⊢
    exact ⟨h, rfl⟩
theorem aBr_no {S : xS} {d : Nat} (h : ¬ aBr1 S d 9 d = 3) : aBring S d = aBr1 S d := by
  unfold aBring
  unfold aBr1 at h ⊢
  by_cases h1 : S 9 d = 1
  · rw [if_pos h1, if_pos h1]
  · rw [if_neg h1] at h
    rw [if_neg h1, if_neg h1, if_neg h]
theorem aBr_dec {S : xS} {d : Nat} {v : Int32} (h : aBr1 S d 9 d = 3) (h7 : S 7 d = 0 ∨ S 7 d = 1) (hv : (aBr1 S d 7 d = 0 ∧ v = aBr1 S d 12 d) ∨ (¬ aBr1 S d 7 d = 0 ∧ v = aBr1 S d 8 d)) : aBring S d = xup (xup (xup (aBr1 S d) 8 d v) 7 d 1) 9 d 4 := by
  obtain ⟨h3, e⟩ := aBr1_3 h
  rw [e] at hv ⊢
  unfold aBring aSetS
  rw [if_neg (by rw [h3]; decide), if_pos h3]
  rcases hv with ⟨h0, rfl⟩ | ⟨h0, rfl⟩
  · rw [if_pos h0, xup_comm (f := 7) (g := 8) (Or.inl (by decide))]
  · rw [if_neg h0, xup_id (F := S) (f := 8) rfl, xup_id (F := S) (f := 7) (h7.resolve_left h0)]
theorem aBr_anew {S : xS} {d : Nat} : aAnew (aBr1 S d) d = aAnew (aBring S d) d := by
  by_cases h : aBr1 S d 9 d = 3
  · obtain ⟨h3, e⟩ := aBr1_3 h
    rw [e]
    unfold aAnew
    rw [if_neg (fun q => by rcases q.2 with q | q | q <;> rw [h3] at q <;> revert q <;> decide)]
    have e7 : ¬ aBring S d 7 d = 0 := by
      unfold aBring aSetS
      rw [if_neg (by rw [h3]; decide), if_pos h3, xup_ne (Or.inl (by decide))]
      by_cases h0 : S 7 d = 0
      · rw [if_pos h0, xup_ne (Or.inl (by decide)), xup_same]
        decide
      · rw [if_neg h0]
        exact h0
    rw [if_neg (fun q => e7 q.1)]
  · rw [aBr_no h]
def amOf (x a1 a2 a3 a4 a5 a6 a7 a8 a9 a10 a11 a12 a13 a14 a15 a17 a20 a26 : Nat) : Nat → Nat
  | 0 => x
  | 1 => a1
  | 2 => a2
  | 3 => a3
  | 4 => a4
  | 5 => a5
  | 6 => a6
  | 7 => a7
  | 8 => a8
  | 9 => a9
  | 10 => a10
  | 11 => a11
  | 12 => a12
  | 13 => a13
  | 14 => a14
  | 15 => a15
  | 17 => a17
  | 20 => a20
  | _ => a26
set_option maxRecDepth 100000 in
set_option maxHeartbeats 4000000 in
theorem c_X4_comes {l : Launch} (hl : l.stackTraces = false) (D : va_G) (e0 : Nat) {am : Nat → Nat} {N tf tt bf bt : Nat} {up op tr : Int32} {tn : Nat} {th : Int32} {L : xS} {S : xS} {d p kd : Nat} (hL : l16 L) (hd : d < 60) (hp4 : p < 4) (hkd : kd < 2) (hl4 : ∃ j, j < 4 ∧ S 4 d = nI j) (h11 : S 11 d = 0 ∨ S 11 d = 1) : xC l yX4_comes (.code yX4_comes cX4_comes 6 (some .boolean)) ({ frames := 0, cells := 0, slots := 0, locals := 0 } : Room) D e0 [.ref (am 0), .int (nI d), .int (nI p), .int (nI kd)] [moW am N tf tt bf bt up op tr tn th, mlW D am L, mdW D am S] (fun v cs => v = some (.int (aComeR S d p)) ∧ cs = [moW am N tf tt bf bt up op tr tn th, mlW D am (rcvL L S (kd, d, p)), mdW D am (aComeS S d p)]) (fun _ => False) := by
  refine xC_of hl (by decide +kernel) (Nat.le_of_ble_eq_true rfl) (fun G X F => ?_)
  have B : xB l D e0 "CreditLinksModel" cX4_comes 6 (some .boolean) [] _ G X := F.base
  show G 0 [(0, .ref (am 0)), (1, .int (nI d)), (2, .int (nI p)), (3, .int (nI kd))] [] [moW am N tf tt bf bt up op tr tn th, mlW D am L, mdW D am S] 0 0
  obtain ⟨j, hj, ej⟩ := hl4
  have elk : lkOf S d = j := by unfold lkOf; rw [ej]; exact nI_clamp (by omega)
  obtain ⟨v, hv, ev⟩ := hL 3 j (by decide) (by decide) hj
  refine x_iload_n B (pc := 0) 2 dX4_comes_0 rfl rfl ?_
  refine x_if_ne B (pc := 1) 35 dX4_comes_1 (by decide) (fun h1 => ?_) (fun h1 => ?_)
  · skip
    have e35 : L = rcvL L S (kd, d, p) := (by unfold rcvL; exact (if_neg (show ¬ (kd = 0 ∧ p = 0) from fun e => by first | exact h1 (congrArg nI e.2) | exact h5 (congrArg nI e.1))).symm)
    refine x_flat B (cs1 := [moW am N tf tt bf bt up op tr tn th, mlW D am (rcvL L S (kd, d, p)), mdW D am S]) (congrArg (fun z => ([moW am N tf tt bf bt up op tr tn th, mlW D am z, mdW D am S] : List va_W).flatten) e35) ?_
    refine x_aload_n B (pc := 35) 0 dX4_comes_35 rfl rfl ?_
    refine x_get B (pc := 36) xcl_M 0 0 9 rfl rfl (by decide) tm639 rfl rfl dX4_comes_36 ?_
    refine x_iload_n B (pc := 39) 1 dX4_comes_39 rfl rfl ?_
    refine x_ialdN B (pc := 40) d 2 5 hd (by decide) rfl rfl dX4_comes_40 ?_
    refine x_istore B (pc := 41) [(4, .int (S 9 d)), (0, .ref (am 0)), (1, .int (nI d)), (2, .int (nI p)), (3, .int (nI kd))] dX4_comes_41 (by decide) rfl ?_
    refine x_iload_n B (pc := 43) 3 dX4_comes_43 rfl rfl ?_
    refine x_if_ne B (pc := 44) 58 dX4_comes_44 (by decide) (fun h44 => ?_) (fun h44 => absurd h44 h1)
    refine x_iload B (pc := 58) 0 dX4_comes_58 rfl ?_
    refine x_iconst B (pc := 60) 1 dX4_comes_60 (by decide) ?_
    refine x_icmp_ne B (pc := 61) 78 dX4_comes_61 (by decide) (fun h61 => ?_) (fun h61 => ?_)
    · skip
      refine x_iconst B (pc := 78) 0 dX4_comes_78 (by decide) ?_
      refine x_istore B (pc := 79) [(5, .int 0), (4, .int (S 9 d)), (0, .ref (am 0)), (1, .int (nI d)), (2, .int (nI p)), (3, .int (nI kd))] dX4_comes_79 (by decide) rfl ?_
      refine x_iload B (pc := 81) 0 dX4_comes_81 rfl ?_
      refine x_if_ne B (pc := 83) 88 dX4_comes_83 (by decide) (fun h83 => absurd (by decide) h83) (fun h83 => ?_)
      refine x_iconst B (pc := 86) 0 dX4_comes_86 (by decide) ?_
      have hno : aCnt S d p = false := by
        unfold aCnt
        first
          | (simp [h49, h55, h61]; done)
          | (simp [h49, h55, h61, h71]; done)
          | (simp [show p ≠ 0 from fun e => h1 (by rw [e]; rfl), h61]; done)
          | (simp [show p ≠ 0 from fun e => h1 (by rw [e]; rfl), h61, h71]; done)
      exact x_zret F (pc := 87) rfl rfl dX4_comes_87 (⟨by rw [(aCome_no hno).2], by rw [(aCome_no hno).1]⟩) (Nat.le_of_ble_eq_true rfl) (Nat.le_of_ble_eq_true rfl)
    · skip
      refine x_iload_n B (pc := 64) 3 dX4_comes_64 rfl rfl ?_
      refine x_aload_n B (pc := 65) 1 dX4_comes_65 rfl rfl ?_
      refine x_get B (pc := 66) xcl_M 0 0 10 rfl rfl (by decide) tm640 rfl rfl dX4_comes_66 ?_
      refine x_iload_n B (pc := 69) 2 dX4_comes_69 rfl rfl ?_
      refine x_ialdN B (pc := 70) d 2 6 hd (by decide) rfl rfl dX4_comes_70 ?_
      refine x_icmp_ne B (pc := 71) 78 dX4_comes_71 (by decide) (fun h71 => ?_) (fun h71 => ?_)
      · skip
        refine x_iconst B (pc := 78) 0 dX4_comes_78 (by decide) ?_
        refine x_istore B (pc := 79) [(5, .int 0), (4, .int (S 9 d)), (0, .ref (am 0)), (1, .int (nI d)), (2, .int (nI p)), (3, .int (nI kd))] dX4_comes_79 (by decide) rfl ?_
        refine x_iload B (pc := 81) 0 dX4_comes_81 rfl ?_
        refine x_if_ne B (pc := 83) 88 dX4_comes_83 (by decide) (fun h83 => absurd (by decide) h83) (fun h83 => ?_)
        refine x_iconst B (pc := 86) 0 dX4_comes_86 (by decide) ?_
        have hno : aCnt S d p = false := by
          unfold aCnt
          first
            | (simp [h49, h55, h61]; done)
            | (simp [h49, h55, h61, h71]; done)
            | (simp [show p ≠ 0 from fun e => h1 (by rw [e]; rfl), h61]; done)
            | (simp [show p ≠ 0 from fun e => h1 (by rw [e]; rfl), h61, h71]; done)
        exact x_zret F (pc := 87) rfl rfl dX4_comes_87 (⟨by rw [(aCome_no hno).2], by rw [(aCome_no hno).1]⟩) (Nat.le_of_ble_eq_true rfl) (Nat.le_of_ble_eq_true rfl)
      · skip
        refine x_iconst B (pc := 74) 1 dX4_comes_74 (by decide) ?_
        refine x_goto B (pc := 75) 79 dX4_comes_75 (by decide) ?_
        refine x_istore B (pc := 79) [(5, .int 1), (4, .int (S 9 d)), (0, .ref (am 0)), (1, .int (nI d)), (2, .int (nI p)), (3, .int (nI kd))] dX4_comes_79 (by decide) rfl ?_
        refine x_iload B (pc := 81) 0 dX4_comes_81 rfl ?_
        refine x_if_ne B (pc := 83) 88 dX4_comes_83 (by decide) (fun h83 => ?_) (fun h83 => absurd h83 (by decide))
        refine x_aload_n B (pc := 88) 2 dX4_comes_88 rfl rfl ?_
        refine x_get B (pc := 89) xcl_M 0 0 11 rfl rfl (by decide) tm641 rfl rfl dX4_comes_89 ?_
        refine x_iload_n B (pc := 92) 3 dX4_comes_92 rfl rfl ?_
        refine x_iload B (pc := 93) 1 dX4_comes_93 rfl ?_
        refine x_iconst B (pc := 95) 1 dX4_comes_95 (by decide) ?_
        refine x_icmp_ne B (pc := 96) 108 dX4_comes_96 (by decide) (fun h96 => absurd h61 h96) (fun h96 => ?_)
        refine x_aload_n B (pc := 99) 2 dX4_comes_99 rfl rfl ?_
        refine x_get B (pc := 100) xcl_M 0 0 11 rfl rfl (by decide) tm641 rfl rfl dX4_comes_100 ?_
        refine x_iload_n B (pc := 103) 3 dX4_comes_103 rfl rfl ?_
        refine x_zaldN B (pc := 104) d 2 7 hd (by decide) rfl rfl dX4_comes_104 ?_
        refine x_goto B (pc := 105) 119 dX4_comes_105 (by decide) ?_
        refine x_zastN B (pc := 119) d 2 7 [moW am N tf tt bf bt up op tr tn th, mlW D am (rcvL L S (kd, d, p)), mdW D am S] hd (by decide) rfl rfl (md_set11c (nar_01 h11)) rfl dX4_comes_119 ?_
        refine x_aload_n B (pc := 120) 2 dX4_comes_120 rfl rfl ?_
        refine x_get B (pc := 121) xcl_M 0 0 10 rfl rfl (by decide) tm640 rfl rfl dX4_comes_121 ?_
        refine x_iload_n B (pc := 124) 3 dX4_comes_124 rfl rfl ?_
        refine x_iload_n B (pc := 125) 4 dX4_comes_125 rfl rfl ?_
        refine x_iconst B (pc := 126) 1 dX4_comes_126 (by decide) ?_
        refine x_iadd B (pc := 127) dX4_comes_127 ?_
        refine x_val B (y := nI (p + 1)) (nI_1 p) ?_
        refine x_iastN B (pc := 128) d 2 6 [moW am N tf tt bf bt up op tr tn th, mlW D am (rcvL L S (kd, d, p)), mdW D am (xup S 10 d (nI (p + 1)))] hd (by decide) rfl rfl md_set10 rfl dX4_comes_128 ?_
        refine x_aload_n B (pc := 129) 2 dX4_comes_129 rfl rfl ?_
        refine x_get B (pc := 130) xcl_M 0 0 9 rfl rfl (by decide) tm639 rfl rfl dX4_comes_130 ?_
        refine x_iload_n B (pc := 133) 3 dX4_comes_133 rfl rfl ?_
        refine x_aload_n B (pc := 134) 2 dX4_comes_134 rfl rfl ?_
        refine x_get B (pc := 135) xcl_M 0 0 10 rfl rfl (by decide) tm640 rfl rfl dX4_comes_135 ?_
        refine x_iload_n B (pc := 138) 3 dX4_comes_138 rfl rfl ?_
        refine x_ialdN B (pc := 139) d 2 6 hd (by decide) rfl rfl dX4_comes_139 ?_
        refine x_val B (y := nI (p + 1)) (xup_same S 10 d (nI (p + 1))) ?_
        refine x_aload_n B (pc := 140) 2 dX4_comes_140 rfl rfl ?_
        refine x_get B (pc := 141) xcl_M 0 0 6 rfl rfl (by decide) tm636 rfl rfl dX4_comes_141 ?_
        refine x_iload_n B (pc := 144) 3 dX4_comes_144 rfl rfl ?_
        refine x_ialdN B (pc := 145) d 2 2 hd (by decide) rfl rfl dX4_comes_145 ?_
        refine x_val B (y := S 6 d) rfl ?_
        refine x_icmp_ne B (pc := 146) 153 dX4_comes_146 (by decide) (fun h146 => ?_) (fun h146 => ?_)
        · skip
          refine x_iconst B (pc := 153) 1 dX4_comes_153 (by decide) ?_
          refine x_iastN B (pc := 154) d 2 5 [moW am N tf tt bf bt up op tr tn th, mlW D am (rcvL L S (kd, d, p)), mdW D am (xup (xup S 10 d (nI (p + 1))) 9 d 1)] hd (by decide) rfl rfl md_set9 rfl dX4_comes_154 ?_
          refine x_aload_n B (pc := 155) 2 dX4_comes_155 rfl rfl ?_
          refine x_get B (pc := 156) xcl_M 0 0 9 rfl rfl (by decide) tm639 rfl rfl dX4_comes_156 ?_
          refine x_iload_n B (pc := 159) 3 dX4_comes_159 rfl rfl ?_
          refine x_ialdN B (pc := 160) d 2 5 hd (by decide) rfl rfl dX4_comes_160 ?_
          refine x_val B (y := 1) (xup_same (xup S 10 d (nI (p + 1))) 9 d 1) ?_
          refine x_iconst B (pc := 161) 2 dX4_comes_161 (by decide) ?_
          refine x_icmp_ne B (pc := 162) 169 dX4_comes_162 (by decide) (fun h162 => ?_) (fun h162 => absurd h162 (by decide))
          refine x_iconst B (pc := 169) 0 dX4_comes_169 (by decide) ?_
          exact x_zret F (pc := 170) rfl rfl dX4_comes_170 (⟨by rw [(aCome_p h61 h71).2, if_neg h146], by rw [(aCome_p h61 h71).1, if_neg h146]⟩) (Nat.le_of_ble_eq_true rfl) (Nat.le_of_ble_eq_true rfl)
        · skip
          refine x_iconst B (pc := 149) 2 dX4_comes_149 (by decide) ?_
          refine x_goto B (pc := 150) 154 dX4_comes_150 (by decide) ?_
          refine x_iastN B (pc := 154) d 2 5 [moW am N tf tt bf bt up op tr tn th, mlW D am (rcvL L S (kd, d, p)), mdW D am (xup (xup S 10 d (nI (p + 1))) 9 d 2)] hd (by decide) rfl rfl md_set9 rfl dX4_comes_154 ?_
          refine x_aload_n B (pc := 155) 2 dX4_comes_155 rfl rfl ?_
          refine x_get B (pc := 156) xcl_M 0 0 9 rfl rfl (by decide) tm639 rfl rfl dX4_comes_156 ?_
          refine x_iload_n B (pc := 159) 3 dX4_comes_159 rfl rfl ?_
          refine x_ialdN B (pc := 160) d 2 5 hd (by decide) rfl rfl dX4_comes_160 ?_
          refine x_val B (y := 2) (xup_same (xup S 10 d (nI (p + 1))) 9 d 2) ?_
          refine x_iconst B (pc := 161) 2 dX4_comes_161 (by decide) ?_
          refine x_icmp_ne B (pc := 162) 169 dX4_comes_162 (by decide) (fun h162 => absurd (by decide) h162) (fun h162 => ?_)
          refine x_iconst B (pc := 165) 1 dX4_comes_165 (by decide) ?_
          refine x_goto B (pc := 166) 170 dX4_comes_166 (by decide) ?_
          exact x_zret F (pc := 170) rfl rfl dX4_comes_170 (⟨by rw [(aCome_p h61 h71).2, if_pos h146], by rw [(aCome_p h61 h71).1, if_pos h146]⟩) (Nat.le_of_ble_eq_true rfl) (Nat.le_of_ble_eq_true rfl)
  · skip
    refine x_iload_n B (pc := 4) 3 dX4_comes_4 rfl rfl ?_
    refine x_if_ne B (pc := 5) 35 dX4_comes_5 (by decide) (fun h5 => ?_) (fun h5 => ?_)
    · skip
      have e35 : L = rcvL L S (kd, d, p) := (by unfold rcvL; exact (if_neg (show ¬ (kd = 0 ∧ p = 0) from fun e => by first | exact h1 (congrArg nI e.2) | exact h5 (congrArg nI e.1))).symm)
      refine x_flat B (cs1 := [moW am N tf tt bf bt up op tr tn th, mlW D am (rcvL L S (kd, d, p)), mdW D am S]) (congrArg (fun z => ([moW am N tf tt bf bt up op tr tn th, mlW D am z, mdW D am S] : List va_W).flatten) e35) ?_
      refine x_aload_n B (pc := 35) 0 dX4_comes_35 rfl rfl ?_
      refine x_get B (pc := 36) xcl_M 0 0 9 rfl rfl (by decide) tm639 rfl rfl dX4_comes_36 ?_
      refine x_iload_n B (pc := 39) 1 dX4_comes_39 rfl rfl ?_
      refine x_ialdN B (pc := 40) d 2 5 hd (by decide) rfl rfl dX4_comes_40 ?_
      refine x_istore B (pc := 41) [(4, .int (S 9 d)), (0, .ref (am 0)), (1, .int (nI d)), (2, .int (nI p)), (3, .int (nI kd))] dX4_comes_41 (by decide) rfl ?_
      refine x_iload_n B (pc := 43) 3 dX4_comes_43 rfl rfl ?_
      refine x_if_ne B (pc := 44) 58 dX4_comes_44 (by decide) (fun h44 => absurd h1 h44) (fun h44 => ?_)
      refine x_iload B (pc := 47) 0 dX4_comes_47 rfl ?_
      refine x_if_eq B (pc := 49) 74 dX4_comes_49 (by decide) (fun h49 => ?_) (fun h49 => ?_)
      · skip
        refine x_iconst B (pc := 74) 1 dX4_comes_74 (by decide) ?_
        refine x_goto B (pc := 75) 79 dX4_comes_75 (by decide) ?_
        refine x_istore B (pc := 79) [(5, .int 1), (4, .int (S 9 d)), (0, .ref (am 0)), (1, .int (nI d)), (2, .int (nI p)), (3, .int (nI kd))] dX4_comes_79 (by decide) rfl ?_
        refine x_iload B (pc := 81) 0 dX4_comes_81 rfl ?_
        refine x_if_ne B (pc := 83) 88 dX4_comes_83 (by decide) (fun h83 => ?_) (fun h83 => absurd h83 (by decide))
        have hp0 : p = 0 := (nI_eq (by omega) (by decide)).mp (h1.trans nI_0.symm)
        refine x_aload_n B (pc := 88) 2 dX4_comes_88 rfl rfl ?_
        refine x_get B (pc := 89) xcl_M 0 0 11 rfl rfl (by decide) tm641 rfl rfl dX4_comes_89 ?_
        refine x_iload_n B (pc := 92) 3 dX4_comes_92 rfl rfl ?_
        refine x_iload B (pc := 93) 1 dX4_comes_93 rfl ?_
        refine x_iconst B (pc := 95) 1 dX4_comes_95 (by decide) ?_
        refine x_icmp_ne B (pc := 96) 108 dX4_comes_96 (by decide) (fun h96 => ?_) (fun h96 => absurd h96 (show ¬ S 9 d = 1 by rw [h49]; decide))
        refine x_iload B (pc := 108) 1 dX4_comes_108 rfl ?_
        refine x_iconst B (pc := 110) 4 dX4_comes_110 (by decide) ?_
        refine x_icmp_ne B (pc := 111) 118 dX4_comes_111 (by decide) (fun h111 => ?_) (fun h111 => absurd h111 (show ¬ S 9 d = 4 by rw [h49]; decide))
        refine x_iconst B (pc := 118) 0 dX4_comes_118 (by decide) ?_
        refine x_zastN B (pc := 119) d 2 7 [moW am N tf tt bf bt up op tr tn th, mlW D am (rcvL L S (kd, d, p)), mdW D am (xup S 11 d 0)] hd (by decide) rfl rfl (md_set11b (nar_0)) rfl dX4_comes_119 ?_
        refine x_aload_n B (pc := 120) 2 dX4_comes_120 rfl rfl ?_
        refine x_get B (pc := 121) xcl_M 0 0 10 rfl rfl (by decide) tm640 rfl rfl dX4_comes_121 ?_
        refine x_iload_n B (pc := 124) 3 dX4_comes_124 rfl rfl ?_
        refine x_iload_n B (pc := 125) 4 dX4_comes_125 rfl rfl ?_
        refine x_iconst B (pc := 126) 1 dX4_comes_126 (by decide) ?_
        refine x_iadd B (pc := 127) dX4_comes_127 ?_
        refine x_val B (y := nI (p + 1)) (nI_1 p) ?_
        refine x_iastN B (pc := 128) d 2 6 [moW am N tf tt bf bt up op tr tn th, mlW D am (rcvL L S (kd, d, p)), mdW D am (xup (xup S 11 d 0) 10 d (nI (p + 1)))] hd (by decide) rfl rfl md_set10 rfl dX4_comes_128 ?_
        refine x_aload_n B (pc := 129) 2 dX4_comes_129 rfl rfl ?_
        refine x_get B (pc := 130) xcl_M 0 0 9 rfl rfl (by decide) tm639 rfl rfl dX4_comes_130 ?_
        refine x_iload_n B (pc := 133) 3 dX4_comes_133 rfl rfl ?_
        refine x_aload_n B (pc := 134) 2 dX4_comes_134 rfl rfl ?_
        refine x_get B (pc := 135) xcl_M 0 0 10 rfl rfl (by decide) tm640 rfl rfl dX4_comes_135 ?_
        refine x_iload_n B (pc := 138) 3 dX4_comes_138 rfl rfl ?_
        refine x_ialdN B (pc := 139) d 2 6 hd (by decide) rfl rfl dX4_comes_139 ?_
        refine x_val B (y := nI (p + 1)) (xup_same (xup S 11 d 0) 10 d (nI (p + 1))) ?_
        refine x_aload_n B (pc := 140) 2 dX4_comes_140 rfl rfl ?_
        refine x_get B (pc := 141) xcl_M 0 0 6 rfl rfl (by decide) tm636 rfl rfl dX4_comes_141 ?_
        refine x_iload_n B (pc := 144) 3 dX4_comes_144 rfl rfl ?_
        refine x_ialdN B (pc := 145) d 2 2 hd (by decide) rfl rfl dX4_comes_145 ?_
        refine x_val B (y := S 6 d) rfl ?_
        refine x_icmp_ne B (pc := 146) 153 dX4_comes_146 (by decide) (fun h146 => ?_) (fun h146 => ?_)
        · skip
          refine x_iconst B (pc := 153) 1 dX4_comes_153 (by decide) ?_
          refine x_iastN B (pc := 154) d 2 5 [moW am N tf tt bf bt up op tr tn th, mlW D am (rcvL L S (kd, d, p)), mdW D am (xup (xup (xup S 11 d 0) 10 d (nI (p + 1))) 9 d 1)] hd (by decide) rfl rfl md_set9 rfl dX4_comes_154 ?_
          refine x_aload_n B (pc := 155) 2 dX4_comes_155 rfl rfl ?_
          refine x_get B (pc := 156) xcl_M 0 0 9 rfl rfl (by decide) tm639 rfl rfl dX4_comes_156 ?_
          refine x_iload_n B (pc := 159) 3 dX4_comes_159 rfl rfl ?_
          refine x_ialdN B (pc := 160) d 2 5 hd (by decide) rfl rfl dX4_comes_160 ?_
          refine x_val B (y := 1) (xup_same (xup (xup S 11 d 0) 10 d (nI (p + 1))) 9 d 1) ?_
          refine x_iconst B (pc := 161) 2 dX4_comes_161 (by decide) ?_
          refine x_icmp_ne B (pc := 162) 169 dX4_comes_162 (by decide) (fun h162 => ?_) (fun h162 => absurd h162 (by decide))
          refine x_iconst B (pc := 169) 0 dX4_comes_169 (by decide) ?_
          exact x_zret F (pc := 170) rfl rfl dX4_comes_170 (⟨by rw [(aCome_b hp0 (Or.inl h49)).2, if_neg h146], by rw [(aCome_b hp0 (Or.inl h49)).1, if_neg h146, if_neg (show ¬ S 9 d = 4 by rw [h49]; decide)]⟩) (Nat.le_of_ble_eq_true rfl) (Nat.le_of_ble_eq_true rfl)
        · skip
          refine x_iconst B (pc := 149) 2 dX4_comes_149 (by decide) ?_
          refine x_goto B (pc := 150) 154 dX4_comes_150 (by decide) ?_
          refine x_iastN B (pc := 154) d 2 5 [moW am N tf tt bf bt up op tr tn th, mlW D am (rcvL L S (kd, d, p)), mdW D am (xup (xup (xup S 11 d 0) 10 d (nI (p + 1))) 9 d 2)] hd (by decide) rfl rfl md_set9 rfl dX4_comes_154 ?_
          refine x_aload_n B (pc := 155) 2 dX4_comes_155 rfl rfl ?_
          refine x_get B (pc := 156) xcl_M 0 0 9 rfl rfl (by decide) tm639 rfl rfl dX4_comes_156 ?_
          refine x_iload_n B (pc := 159) 3 dX4_comes_159 rfl rfl ?_
          refine x_ialdN B (pc := 160) d 2 5 hd (by decide) rfl rfl dX4_comes_160 ?_
          refine x_val B (y := 2) (xup_same (xup (xup S 11 d 0) 10 d (nI (p + 1))) 9 d 2) ?_
          refine x_iconst B (pc := 161) 2 dX4_comes_161 (by decide) ?_
          refine x_icmp_ne B (pc := 162) 169 dX4_comes_162 (by decide) (fun h162 => absurd (by decide) h162) (fun h162 => ?_)
          refine x_iconst B (pc := 165) 1 dX4_comes_165 (by decide) ?_
          refine x_goto B (pc := 166) 170 dX4_comes_166 (by decide) ?_
          exact x_zret F (pc := 170) rfl rfl dX4_comes_170 (⟨by rw [(aCome_b hp0 (Or.inl h49)).2, if_pos h146], by rw [(aCome_b hp0 (Or.inl h49)).1, if_pos h146, if_neg (show ¬ S 9 d = 4 by rw [h49]; decide)]⟩) (Nat.le_of_ble_eq_true rfl) (Nat.le_of_ble_eq_true rfl)
      · skip
        refine x_iload B (pc := 52) 0 dX4_comes_52 rfl ?_
        refine x_iconst B (pc := 54) 4 dX4_comes_54 (by decide) ?_
        refine x_icmp_eq B (pc := 55) 74 dX4_comes_55 (by decide) (fun h55 => ?_) (fun h55 => ?_)
        · skip
          refine x_iconst B (pc := 74) 1 dX4_comes_74 (by decide) ?_
          refine x_goto B (pc := 75) 79 dX4_comes_75 (by decide) ?_
          refine x_istore B (pc := 79) [(5, .int 1), (4, .int (S 9 d)), (0, .ref (am 0)), (1, .int (nI d)), (2, .int (nI p)), (3, .int (nI kd))] dX4_comes_79 (by decide) rfl ?_
          refine x_iload B (pc := 81) 0 dX4_comes_81 rfl ?_
          refine x_if_ne B (pc := 83) 88 dX4_comes_83 (by decide) (fun h83 => ?_) (fun h83 => absurd h83 (by decide))
          have hp0 : p = 0 := (nI_eq (by omega) (by decide)).mp (h1.trans nI_0.symm)
          refine x_aload_n B (pc := 88) 2 dX4_comes_88 rfl rfl ?_
          refine x_get B (pc := 89) xcl_M 0 0 11 rfl rfl (by decide) tm641 rfl rfl dX4_comes_89 ?_
          refine x_iload_n B (pc := 92) 3 dX4_comes_92 rfl rfl ?_
          refine x_iload B (pc := 93) 1 dX4_comes_93 rfl ?_
          refine x_iconst B (pc := 95) 1 dX4_comes_95 (by decide) ?_
          refine x_icmp_ne B (pc := 96) 108 dX4_comes_96 (by decide) (fun h96 => ?_) (fun h96 => absurd h96 (show ¬ S 9 d = 1 by rw [h55]; decide))
          refine x_iload B (pc := 108) 1 dX4_comes_108 rfl ?_
          refine x_iconst B (pc := 110) 4 dX4_comes_110 (by decide) ?_
          refine x_icmp_ne B (pc := 111) 118 dX4_comes_111 (by decide) (fun h111 => absurd h55 h111) (fun h111 => ?_)
          refine x_iconst B (pc := 114) 1 dX4_comes_114 (by decide) ?_
          refine x_goto B (pc := 115) 119 dX4_comes_115 (by decide) ?_
          refine x_zastN B (pc := 119) d 2 7 [moW am N tf tt bf bt up op tr tn th, mlW D am (rcvL L S (kd, d, p)), mdW D am (xup S 11 d 1)] hd (by decide) rfl rfl (md_set11b (nar_1)) rfl dX4_comes_119 ?_
          refine x_aload_n B (pc := 120) 2 dX4_comes_120 rfl rfl ?_
          refine x_get B (pc := 121) xcl_M 0 0 10 rfl rfl (by decide) tm640 rfl rfl dX4_comes_121 ?_
          refine x_iload_n B (pc := 124) 3 dX4_comes_124 rfl rfl ?_
          refine x_iload_n B (pc := 125) 4 dX4_comes_125 rfl rfl ?_
          refine x_iconst B (pc := 126) 1 dX4_comes_126 (by decide) ?_
          refine x_iadd B (pc := 127) dX4_comes_127 ?_
          refine x_val B (y := nI (p + 1)) (nI_1 p) ?_
          refine x_iastN B (pc := 128) d 2 6 [moW am N tf tt bf bt up op tr tn th, mlW D am (rcvL L S (kd, d, p)), mdW D am (xup (xup S 11 d 1) 10 d (nI (p + 1)))] hd (by decide) rfl rfl md_set10 rfl dX4_comes_128 ?_
          refine x_aload_n B (pc := 129) 2 dX4_comes_129 rfl rfl ?_
          refine x_get B (pc := 130) xcl_M 0 0 9 rfl rfl (by decide) tm639 rfl rfl dX4_comes_130 ?_
          refine x_iload_n B (pc := 133) 3 dX4_comes_133 rfl rfl ?_
          refine x_aload_n B (pc := 134) 2 dX4_comes_134 rfl rfl ?_
          refine x_get B (pc := 135) xcl_M 0 0 10 rfl rfl (by decide) tm640 rfl rfl dX4_comes_135 ?_
          refine x_iload_n B (pc := 138) 3 dX4_comes_138 rfl rfl ?_
          refine x_ialdN B (pc := 139) d 2 6 hd (by decide) rfl rfl dX4_comes_139 ?_
          refine x_val B (y := nI (p + 1)) (xup_same (xup S 11 d 1) 10 d (nI (p + 1))) ?_
          refine x_aload_n B (pc := 140) 2 dX4_comes_140 rfl rfl ?_
          refine x_get B (pc := 141) xcl_M 0 0 6 rfl rfl (by decide) tm636 rfl rfl dX4_comes_141 ?_
          refine x_iload_n B (pc := 144) 3 dX4_comes_144 rfl rfl ?_
          refine x_ialdN B (pc := 145) d 2 2 hd (by decide) rfl rfl dX4_comes_145 ?_
          refine x_val B (y := S 6 d) rfl ?_
          refine x_icmp_ne B (pc := 146) 153 dX4_comes_146 (by decide) (fun h146 => ?_) (fun h146 => ?_)
          · skip
            refine x_iconst B (pc := 153) 1 dX4_comes_153 (by decide) ?_
            refine x_iastN B (pc := 154) d 2 5 [moW am N tf tt bf bt up op tr tn th, mlW D am (rcvL L S (kd, d, p)), mdW D am (xup (xup (xup S 11 d 1) 10 d (nI (p + 1))) 9 d 1)] hd (by decide) rfl rfl md_set9 rfl dX4_comes_154 ?_
            refine x_aload_n B (pc := 155) 2 dX4_comes_155 rfl rfl ?_
            refine x_get B (pc := 156) xcl_M 0 0 9 rfl rfl (by decide) tm639 rfl rfl dX4_comes_156 ?_
            refine x_iload_n B (pc := 159) 3 dX4_comes_159 rfl rfl ?_
            refine x_ialdN B (pc := 160) d 2 5 hd (by decide) rfl rfl dX4_comes_160 ?_
            refine x_val B (y := 1) (xup_same (xup (xup S 11 d 1) 10 d (nI (p + 1))) 9 d 1) ?_
            refine x_iconst B (pc := 161) 2 dX4_comes_161 (by decide) ?_
            refine x_icmp_ne B (pc := 162) 169 dX4_comes_162 (by decide) (fun h162 => ?_) (fun h162 => absurd h162 (by decide))
            refine x_iconst B (pc := 169) 0 dX4_comes_169 (by decide) ?_
            exact x_zret F (pc := 170) rfl rfl dX4_comes_170 (⟨by rw [(aCome_b hp0 (Or.inr h55)).2, if_neg h146], by rw [(aCome_b hp0 (Or.inr h55)).1, if_neg h146, if_pos h55]⟩) (Nat.le_of_ble_eq_true rfl) (Nat.le_of_ble_eq_true rfl)
          · skip
            refine x_iconst B (pc := 149) 2 dX4_comes_149 (by decide) ?_
            refine x_goto B (pc := 150) 154 dX4_comes_150 (by decide) ?_
            refine x_iastN B (pc := 154) d 2 5 [moW am N tf tt bf bt up op tr tn th, mlW D am (rcvL L S (kd, d, p)), mdW D am (xup (xup (xup S 11 d 1) 10 d (nI (p + 1))) 9 d 2)] hd (by decide) rfl rfl md_set9 rfl dX4_comes_154 ?_
            refine x_aload_n B (pc := 155) 2 dX4_comes_155 rfl rfl ?_
            refine x_get B (pc := 156) xcl_M 0 0 9 rfl rfl (by decide) tm639 rfl rfl dX4_comes_156 ?_
            refine x_iload_n B (pc := 159) 3 dX4_comes_159 rfl rfl ?_
            refine x_ialdN B (pc := 160) d 2 5 hd (by decide) rfl rfl dX4_comes_160 ?_
            refine x_val B (y := 2) (xup_same (xup (xup S 11 d 1) 10 d (nI (p + 1))) 9 d 2) ?_
            refine x_iconst B (pc := 161) 2 dX4_comes_161 (by decide) ?_
            refine x_icmp_ne B (pc := 162) 169 dX4_comes_162 (by decide) (fun h162 => absurd (by decide) h162) (fun h162 => ?_)
            refine x_iconst B (pc := 165) 1 dX4_comes_165 (by decide) ?_
            refine x_goto B (pc := 166) 170 dX4_comes_166 (by decide) ?_
            exact x_zret F (pc := 170) rfl rfl dX4_comes_170 (⟨by rw [(aCome_b hp0 (Or.inr h55)).2, if_pos h146], by rw [(aCome_b hp0 (Or.inr h55)).1, if_pos h146, if_pos h55]⟩) (Nat.le_of_ble_eq_true rfl) (Nat.le_of_ble_eq_true rfl)
        · skip
          refine x_iload B (pc := 58) 0 dX4_comes_58 rfl ?_
          refine x_iconst B (pc := 60) 1 dX4_comes_60 (by decide) ?_
          refine x_icmp_ne B (pc := 61) 78 dX4_comes_61 (by decide) (fun h61 => ?_) (fun h61 => ?_)
          · skip
            refine x_iconst B (pc := 78) 0 dX4_comes_78 (by decide) ?_
            refine x_istore B (pc := 79) [(5, .int 0), (4, .int (S 9 d)), (0, .ref (am 0)), (1, .int (nI d)), (2, .int (nI p)), (3, .int (nI kd))] dX4_comes_79 (by decide) rfl ?_
            refine x_iload B (pc := 81) 0 dX4_comes_81 rfl ?_
            refine x_if_ne B (pc := 83) 88 dX4_comes_83 (by decide) (fun h83 => absurd (by decide) h83) (fun h83 => ?_)
            refine x_iconst B (pc := 86) 0 dX4_comes_86 (by decide) ?_
            have hno : aCnt S d p = false := by
              unfold aCnt
              first
                | (simp [h49, h55, h61]; done)
                | (simp [h49, h55, h61, h71]; done)
                | (simp [show p ≠ 0 from fun e => h1 (by rw [e]; rfl), h61]; done)
                | (simp [show p ≠ 0 from fun e => h1 (by rw [e]; rfl), h61, h71]; done)
            exact x_zret F (pc := 87) rfl rfl dX4_comes_87 (⟨by rw [(aCome_no hno).2], by rw [(aCome_no hno).1]⟩) (Nat.le_of_ble_eq_true rfl) (Nat.le_of_ble_eq_true rfl)
          · skip
            refine x_iload_n B (pc := 64) 3 dX4_comes_64 rfl rfl ?_
            refine x_aload_n B (pc := 65) 1 dX4_comes_65 rfl rfl ?_
            refine x_get B (pc := 66) xcl_M 0 0 10 rfl rfl (by decide) tm640 rfl rfl dX4_comes_66 ?_
            refine x_iload_n B (pc := 69) 2 dX4_comes_69 rfl rfl ?_
            refine x_ialdN B (pc := 70) d 2 6 hd (by decide) rfl rfl dX4_comes_70 ?_
            refine x_icmp_ne B (pc := 71) 78 dX4_comes_71 (by decide) (fun h71 => ?_) (fun h71 => ?_)
            · skip
              refine x_iconst B (pc := 78) 0 dX4_comes_78 (by decide) ?_
              refine x_istore B (pc := 79) [(5, .int 0), (4, .int (S 9 d)), (0, .ref (am 0)), (1, .int (nI d)), (2, .int (nI p)), (3, .int (nI kd))] dX4_comes_79 (by decide) rfl ?_
              refine x_iload B (pc := 81) 0 dX4_comes_81 rfl ?_
              refine x_if_ne B (pc := 83) 88 dX4_comes_83 (by decide) (fun h83 => absurd (by decide) h83) (fun h83 => ?_)
              refine x_iconst B (pc := 86) 0 dX4_comes_86 (by decide) ?_
              have hno : aCnt S d p = false := by
                unfold aCnt
                first
                  | (simp [h49, h55, h61]; done)
                  | (simp [h49, h55, h61, h71]; done)
                  | (simp [show p ≠ 0 from fun e => h1 (by rw [e]; rfl), h61]; done)
                  | (simp [show p ≠ 0 from fun e => h1 (by rw [e]; rfl), h61, h71]; done)
              exact x_zret F (pc := 87) rfl rfl dX4_comes_87 (⟨by rw [(aCome_no hno).2], by rw [(aCome_no hno).1]⟩) (Nat.le_of_ble_eq_true rfl) (Nat.le_of_ble_eq_true rfl)
            · skip
              refine x_iconst B (pc := 74) 1 dX4_comes_74 (by decide) ?_
              refine x_goto B (pc := 75) 79 dX4_comes_75 (by decide) ?_
              refine x_istore B (pc := 79) [(5, .int 1), (4, .int (S 9 d)), (0, .ref (am 0)), (1, .int (nI d)), (2, .int (nI p)), (3, .int (nI kd))] dX4_comes_79 (by decide) rfl ?_
              refine x_iload B (pc := 81) 0 dX4_comes_81 rfl ?_
              refine x_if_ne B (pc := 83) 88 dX4_comes_83 (by decide) (fun h83 => ?_) (fun h83 => absurd h83 (by decide))
              refine x_aload_n B (pc := 88) 2 dX4_comes_88 rfl rfl ?_
              refine x_get B (pc := 89) xcl_M 0 0 11 rfl rfl (by decide) tm641 rfl rfl dX4_comes_89 ?_
              refine x_iload_n B (pc := 92) 3 dX4_comes_92 rfl rfl ?_
              refine x_iload B (pc := 93) 1 dX4_comes_93 rfl ?_
              refine x_iconst B (pc := 95) 1 dX4_comes_95 (by decide) ?_
              refine x_icmp_ne B (pc := 96) 108 dX4_comes_96 (by decide) (fun h96 => absurd h61 h96) (fun h96 => ?_)
              refine x_aload_n B (pc := 99) 2 dX4_comes_99 rfl rfl ?_
              refine x_get B (pc := 100) xcl_M 0 0 11 rfl rfl (by decide) tm641 rfl rfl dX4_comes_100 ?_
              refine x_iload_n B (pc := 103) 3 dX4_comes_103 rfl rfl ?_
              refine x_zaldN B (pc := 104) d 2 7 hd (by decide) rfl rfl dX4_comes_104 ?_
              refine x_goto B (pc := 105) 119 dX4_comes_105 (by decide) ?_
              refine x_zastN B (pc := 119) d 2 7 [moW am N tf tt bf bt up op tr tn th, mlW D am (rcvL L S (kd, d, p)), mdW D am S] hd (by decide) rfl rfl (md_set11c (nar_01 h11)) rfl dX4_comes_119 ?_
              refine x_aload_n B (pc := 120) 2 dX4_comes_120 rfl rfl ?_
              refine x_get B (pc := 121) xcl_M 0 0 10 rfl rfl (by decide) tm640 rfl rfl dX4_comes_121 ?_
              refine x_iload_n B (pc := 124) 3 dX4_comes_124 rfl rfl ?_
              refine x_iload_n B (pc := 125) 4 dX4_comes_125 rfl rfl ?_
              refine x_iconst B (pc := 126) 1 dX4_comes_126 (by decide) ?_
              refine x_iadd B (pc := 127) dX4_comes_127 ?_
              refine x_val B (y := nI (p + 1)) (nI_1 p) ?_
              refine x_iastN B (pc := 128) d 2 6 [moW am N tf tt bf bt up op tr tn th, mlW D am (rcvL L S (kd, d, p)), mdW D am (xup S 10 d (nI (p + 1)))] hd (by decide) rfl rfl md_set10 rfl dX4_comes_128 ?_
              refine x_aload_n B (pc := 129) 2 dX4_comes_129 rfl rfl ?_
              refine x_get B (pc := 130) xcl_M 0 0 9 rfl rfl (by decide) tm639 rfl rfl dX4_comes_130 ?_
              refine x_iload_n B (pc := 133) 3 dX4_comes_133 rfl rfl ?_
              refine x_aload_n B (pc := 134) 2 dX4_comes_134 rfl rfl ?_
              refine x_get B (pc := 135) xcl_M 0 0 10 rfl rfl (by decide) tm640 rfl rfl dX4_comes_135 ?_
              refine x_iload_n B (pc := 138) 3 dX4_comes_138 rfl rfl ?_
              refine x_ialdN B (pc := 139) d 2 6 hd (by decide) rfl rfl dX4_comes_139 ?_
              refine x_val B (y := nI (p + 1)) (xup_same S 10 d (nI (p + 1))) ?_
              refine x_aload_n B (pc := 140) 2 dX4_comes_140 rfl rfl ?_
              refine x_get B (pc := 141) xcl_M 0 0 6 rfl rfl (by decide) tm636 rfl rfl dX4_comes_141 ?_
              refine x_iload_n B (pc := 144) 3 dX4_comes_144 rfl rfl ?_
              refine x_ialdN B (pc := 145) d 2 2 hd (by decide) rfl rfl dX4_comes_145 ?_
              refine x_val B (y := S 6 d) rfl ?_
              refine x_icmp_ne B (pc := 146) 153 dX4_comes_146 (by decide) (fun h146 => ?_) (fun h146 => ?_)
              · skip
                refine x_iconst B (pc := 153) 1 dX4_comes_153 (by decide) ?_
                refine x_iastN B (pc := 154) d 2 5 [moW am N tf tt bf bt up op tr tn th, mlW D am (rcvL L S (kd, d, p)), mdW D am (xup (xup S 10 d (nI (p + 1))) 9 d 1)] hd (by decide) rfl rfl md_set9 rfl dX4_comes_154 ?_
                refine x_aload_n B (pc := 155) 2 dX4_comes_155 rfl rfl ?_
                refine x_get B (pc := 156) xcl_M 0 0 9 rfl rfl (by decide) tm639 rfl rfl dX4_comes_156 ?_
                refine x_iload_n B (pc := 159) 3 dX4_comes_159 rfl rfl ?_
                refine x_ialdN B (pc := 160) d 2 5 hd (by decide) rfl rfl dX4_comes_160 ?_
                refine x_val B (y := 1) (xup_same (xup S 10 d (nI (p + 1))) 9 d 1) ?_
                refine x_iconst B (pc := 161) 2 dX4_comes_161 (by decide) ?_
                refine x_icmp_ne B (pc := 162) 169 dX4_comes_162 (by decide) (fun h162 => ?_) (fun h162 => absurd h162 (by decide))
                refine x_iconst B (pc := 169) 0 dX4_comes_169 (by decide) ?_
                exact x_zret F (pc := 170) rfl rfl dX4_comes_170 (⟨by rw [(aCome_p h61 h71).2, if_neg h146], by rw [(aCome_p h61 h71).1, if_neg h146]⟩) (Nat.le_of_ble_eq_true rfl) (Nat.le_of_ble_eq_true rfl)
              · skip
                refine x_iconst B (pc := 149) 2 dX4_comes_149 (by decide) ?_
                refine x_goto B (pc := 150) 154 dX4_comes_150 (by decide) ?_
                refine x_iastN B (pc := 154) d 2 5 [moW am N tf tt bf bt up op tr tn th, mlW D am (rcvL L S (kd, d, p)), mdW D am (xup (xup S 10 d (nI (p + 1))) 9 d 2)] hd (by decide) rfl rfl md_set9 rfl dX4_comes_154 ?_
                refine x_aload_n B (pc := 155) 2 dX4_comes_155 rfl rfl ?_
                refine x_get B (pc := 156) xcl_M 0 0 9 rfl rfl (by decide) tm639 rfl rfl dX4_comes_156 ?_
                refine x_iload_n B (pc := 159) 3 dX4_comes_159 rfl rfl ?_
                refine x_ialdN B (pc := 160) d 2 5 hd (by decide) rfl rfl dX4_comes_160 ?_
                refine x_val B (y := 2) (xup_same (xup S 10 d (nI (p + 1))) 9 d 2) ?_
                refine x_iconst B (pc := 161) 2 dX4_comes_161 (by decide) ?_
                refine x_icmp_ne B (pc := 162) 169 dX4_comes_162 (by decide) (fun h162 => absurd (by decide) h162) (fun h162 => ?_)
                refine x_iconst B (pc := 165) 1 dX4_comes_165 (by decide) ?_
                refine x_goto B (pc := 166) 170 dX4_comes_166 (by decide) ?_
                exact x_zret F (pc := 170) rfl rfl dX4_comes_170 (⟨by rw [(aCome_p h61 h71).2, if_pos h146], by rw [(aCome_p h61 h71).1, if_pos h146]⟩) (Nat.le_of_ble_eq_true rfl) (Nat.le_of_ble_eq_true rfl)
    · skip
      refine x_aload_n B (pc := 8) 0 dX4_comes_8 rfl rfl ?_
      refine x_get B (pc := 9) xcl_M 0 0 3 rfl rfl (by decide) tm633 rfl rfl dX4_comes_9 ?_
      refine x_aload_n B (pc := 12) 0 dX4_comes_12 rfl rfl ?_
      refine x_get B (pc := 13) xcl_M 0 0 4 rfl rfl (by decide) tm634 rfl rfl dX4_comes_13 ?_
      refine x_iload_n B (pc := 16) 1 dX4_comes_16 rfl rfl ?_
      refine x_ialdN B (pc := 17) d 2 0 hd (by decide) rfl rfl dX4_comes_17 ?_
      refine x_val B (y := nI j) ej ?_
      refine x_aload_n B (pc := 18) 0 dX4_comes_18 rfl rfl ?_
      refine x_get B (pc := 19) xcl_M 0 0 3 rfl rfl (by decide) tm633 rfl rfl dX4_comes_19 ?_
      refine x_aload_n B (pc := 22) 0 dX4_comes_22 rfl rfl ?_
      refine x_get B (pc := 23) xcl_M 0 0 4 rfl rfl (by decide) tm634 rfl rfl dX4_comes_23 ?_
      refine x_iload_n B (pc := 26) 1 dX4_comes_26 rfl rfl ?_
      refine x_ialdN B (pc := 27) d 2 0 hd (by decide) rfl rfl dX4_comes_27 ?_
      refine x_val B (y := nI j) ej ?_
      refine x_ialdN B (pc := 28) j 1 3 hj (by decide) rfl rfl dX4_comes_28 ?_
      refine x_iconst B (pc := 29) 1 dX4_comes_29 (by decide) ?_
      refine x_iadd B (pc := 30) dX4_comes_30 ?_
      refine x_bipush B (pc := 31) 16 dX4_comes_31 (by decide) ?_
      refine x_irem B (pc := 33) dX4_comes_33 (by decide) ?_
      refine x_val B (y := (L 3 j + 1) &&& 15) (by rw [ev]; exact inc_m hv) ?_
      refine x_iastN B (pc := 34) j 1 3 [moW am N tf tt bf bt up op tr tn th, mlW D am (xup L 3 j ((L 3 j + 1) &&& 15)), mdW D am S] hj (by decide) rfl rfl ml_set3 rfl dX4_comes_34 ?_
      have e35 : xup L 3 j ((L 3 j + 1) &&& 15) = rcvL L S (kd, d, p) := (by unfold rcvL; rw [if_pos (show kd = 0 ∧ p = 0 from ⟨(nI_eq (by omega) (by decide)).mp (h5.trans nI_0.symm), (nI_eq (by omega) (by decide)).mp (h1.trans nI_0.symm)⟩), elk])
      refine x_flat B (cs1 := [moW am N tf tt bf bt up op tr tn th, mlW D am (rcvL L S (kd, d, p)), mdW D am S]) (congrArg (fun z => ([moW am N tf tt bf bt up op tr tn th, mlW D am z, mdW D am S] : List va_W).flatten) e35) ?_
      refine x_aload_n B (pc := 35) 0 dX4_comes_35 rfl rfl ?_
      refine x_get B (pc := 36) xcl_M 0 0 9 rfl rfl (by decide) tm639 rfl rfl dX4_comes_36 ?_
      refine x_iload_n B (pc := 39) 1 dX4_comes_39 rfl rfl ?_
      refine x_ialdN B (pc := 40) d 2 5 hd (by decide) rfl rfl dX4_comes_40 ?_
      refine x_istore B (pc := 41) [(4, .int (S 9 d)), (0, .ref (am 0)), (1, .int (nI d)), (2, .int (nI p)), (3, .int (nI kd))] dX4_comes_41 (by decide) rfl ?_
      refine x_iload_n B (pc := 43) 3 dX4_comes_43 rfl rfl ?_
      refine x_if_ne B (pc := 44) 58 dX4_comes_44 (by decide) (fun h44 => absurd h1 h44) (fun h44 => ?_)
      refine x_iload B (pc := 47) 0 dX4_comes_47 rfl ?_
      refine x_if_eq B (pc := 49) 74 dX4_comes_49 (by decide) (fun h49 => ?_) (fun h49 => ?_)
      · skip
        refine x_iconst B (pc := 74) 1 dX4_comes_74 (by decide) ?_
        refine x_goto B (pc := 75) 79 dX4_comes_75 (by decide) ?_
        refine x_istore B (pc := 79) [(5, .int 1), (4, .int (S 9 d)), (0, .ref (am 0)), (1, .int (nI d)), (2, .int (nI p)), (3, .int (nI kd))] dX4_comes_79 (by decide) rfl ?_
        refine x_iload B (pc := 81) 0 dX4_comes_81 rfl ?_
        refine x_if_ne B (pc := 83) 88 dX4_comes_83 (by decide) (fun h83 => ?_) (fun h83 => absurd h83 (by decide))
        have hp0 : p = 0 := (nI_eq (by omega) (by decide)).mp (h1.trans nI_0.symm)
        refine x_aload_n B (pc := 88) 2 dX4_comes_88 rfl rfl ?_
        refine x_get B (pc := 89) xcl_M 0 0 11 rfl rfl (by decide) tm641 rfl rfl dX4_comes_89 ?_
        refine x_iload_n B (pc := 92) 3 dX4_comes_92 rfl rfl ?_
        refine x_iload B (pc := 93) 1 dX4_comes_93 rfl ?_
        refine x_iconst B (pc := 95) 1 dX4_comes_95 (by decide) ?_
        refine x_icmp_ne B (pc := 96) 108 dX4_comes_96 (by decide) (fun h96 => ?_) (fun h96 => absurd h96 (show ¬ S 9 d = 1 by rw [h49]; decide))
        refine x_iload B (pc := 108) 1 dX4_comes_108 rfl ?_
        refine x_iconst B (pc := 110) 4 dX4_comes_110 (by decide) ?_
        refine x_icmp_ne B (pc := 111) 118 dX4_comes_111 (by decide) (fun h111 => ?_) (fun h111 => absurd h111 (show ¬ S 9 d = 4 by rw [h49]; decide))
        refine x_iconst B (pc := 118) 0 dX4_comes_118 (by decide) ?_
        refine x_zastN B (pc := 119) d 2 7 [moW am N tf tt bf bt up op tr tn th, mlW D am (rcvL L S (kd, d, p)), mdW D am (xup S 11 d 0)] hd (by decide) rfl rfl (md_set11b (nar_0)) rfl dX4_comes_119 ?_
        refine x_aload_n B (pc := 120) 2 dX4_comes_120 rfl rfl ?_
        refine x_get B (pc := 121) xcl_M 0 0 10 rfl rfl (by decide) tm640 rfl rfl dX4_comes_121 ?_
        refine x_iload_n B (pc := 124) 3 dX4_comes_124 rfl rfl ?_
        refine x_iload_n B (pc := 125) 4 dX4_comes_125 rfl rfl ?_
        refine x_iconst B (pc := 126) 1 dX4_comes_126 (by decide) ?_
        refine x_iadd B (pc := 127) dX4_comes_127 ?_
        refine x_val B (y := nI (p + 1)) (nI_1 p) ?_
        refine x_iastN B (pc := 128) d 2 6 [moW am N tf tt bf bt up op tr tn th, mlW D am (rcvL L S (kd, d, p)), mdW D am (xup (xup S 11 d 0) 10 d (nI (p + 1)))] hd (by decide) rfl rfl md_set10 rfl dX4_comes_128 ?_
        refine x_aload_n B (pc := 129) 2 dX4_comes_129 rfl rfl ?_
        refine x_get B (pc := 130) xcl_M 0 0 9 rfl rfl (by decide) tm639 rfl rfl dX4_comes_130 ?_
        refine x_iload_n B (pc := 133) 3 dX4_comes_133 rfl rfl ?_
        refine x_aload_n B (pc := 134) 2 dX4_comes_134 rfl rfl ?_
        refine x_get B (pc := 135) xcl_M 0 0 10 rfl rfl (by decide) tm640 rfl rfl dX4_comes_135 ?_
        refine x_iload_n B (pc := 138) 3 dX4_comes_138 rfl rfl ?_
        refine x_ialdN B (pc := 139) d 2 6 hd (by decide) rfl rfl dX4_comes_139 ?_
        refine x_val B (y := nI (p + 1)) (xup_same (xup S 11 d 0) 10 d (nI (p + 1))) ?_
        refine x_aload_n B (pc := 140) 2 dX4_comes_140 rfl rfl ?_
        refine x_get B (pc := 141) xcl_M 0 0 6 rfl rfl (by decide) tm636 rfl rfl dX4_comes_141 ?_
        refine x_iload_n B (pc := 144) 3 dX4_comes_144 rfl rfl ?_
        refine x_ialdN B (pc := 145) d 2 2 hd (by decide) rfl rfl dX4_comes_145 ?_
        refine x_val B (y := S 6 d) rfl ?_
        refine x_icmp_ne B (pc := 146) 153 dX4_comes_146 (by decide) (fun h146 => ?_) (fun h146 => ?_)
        · skip
          refine x_iconst B (pc := 153) 1 dX4_comes_153 (by decide) ?_
          refine x_iastN B (pc := 154) d 2 5 [moW am N tf tt bf bt up op tr tn th, mlW D am (rcvL L S (kd, d, p)), mdW D am (xup (xup (xup S 11 d 0) 10 d (nI (p + 1))) 9 d 1)] hd (by decide) rfl rfl md_set9 rfl dX4_comes_154 ?_
          refine x_aload_n B (pc := 155) 2 dX4_comes_155 rfl rfl ?_
          refine x_get B (pc := 156) xcl_M 0 0 9 rfl rfl (by decide) tm639 rfl rfl dX4_comes_156 ?_
          refine x_iload_n B (pc := 159) 3 dX4_comes_159 rfl rfl ?_
          refine x_ialdN B (pc := 160) d 2 5 hd (by decide) rfl rfl dX4_comes_160 ?_
          refine x_val B (y := 1) (xup_same (xup (xup S 11 d 0) 10 d (nI (p + 1))) 9 d 1) ?_
          refine x_iconst B (pc := 161) 2 dX4_comes_161 (by decide) ?_
          refine x_icmp_ne B (pc := 162) 169 dX4_comes_162 (by decide) (fun h162 => ?_) (fun h162 => absurd h162 (by decide))
          refine x_iconst B (pc := 169) 0 dX4_comes_169 (by decide) ?_
          exact x_zret F (pc := 170) rfl rfl dX4_comes_170 (⟨by rw [(aCome_b hp0 (Or.inl h49)).2, if_neg h146], by rw [(aCome_b hp0 (Or.inl h49)).1, if_neg h146, if_neg (show ¬ S 9 d = 4 by rw [h49]; decide)]⟩) (Nat.le_of_ble_eq_true rfl) (Nat.le_of_ble_eq_true rfl)
        · skip
          refine x_iconst B (pc := 149) 2 dX4_comes_149 (by decide) ?_
          refine x_goto B (pc := 150) 154 dX4_comes_150 (by decide) ?_
          refine x_iastN B (pc := 154) d 2 5 [moW am N tf tt bf bt up op tr tn th, mlW D am (rcvL L S (kd, d, p)), mdW D am (xup (xup (xup S 11 d 0) 10 d (nI (p + 1))) 9 d 2)] hd (by decide) rfl rfl md_set9 rfl dX4_comes_154 ?_
          refine x_aload_n B (pc := 155) 2 dX4_comes_155 rfl rfl ?_
          refine x_get B (pc := 156) xcl_M 0 0 9 rfl rfl (by decide) tm639 rfl rfl dX4_comes_156 ?_
          refine x_iload_n B (pc := 159) 3 dX4_comes_159 rfl rfl ?_
          refine x_ialdN B (pc := 160) d 2 5 hd (by decide) rfl rfl dX4_comes_160 ?_
          refine x_val B (y := 2) (xup_same (xup (xup S 11 d 0) 10 d (nI (p + 1))) 9 d 2) ?_
          refine x_iconst B (pc := 161) 2 dX4_comes_161 (by decide) ?_
          refine x_icmp_ne B (pc := 162) 169 dX4_comes_162 (by decide) (fun h162 => absurd (by decide) h162) (fun h162 => ?_)
          refine x_iconst B (pc := 165) 1 dX4_comes_165 (by decide) ?_
          refine x_goto B (pc := 166) 170 dX4_comes_166 (by decide) ?_
          exact x_zret F (pc := 170) rfl rfl dX4_comes_170 (⟨by rw [(aCome_b hp0 (Or.inl h49)).2, if_pos h146], by rw [(aCome_b hp0 (Or.inl h49)).1, if_pos h146, if_neg (show ¬ S 9 d = 4 by rw [h49]; decide)]⟩) (Nat.le_of_ble_eq_true rfl) (Nat.le_of_ble_eq_true rfl)
      · skip
        refine x_iload B (pc := 52) 0 dX4_comes_52 rfl ?_
        refine x_iconst B (pc := 54) 4 dX4_comes_54 (by decide) ?_
        refine x_icmp_eq B (pc := 55) 74 dX4_comes_55 (by decide) (fun h55 => ?_) (fun h55 => ?_)
        · skip
          refine x_iconst B (pc := 74) 1 dX4_comes_74 (by decide) ?_
          refine x_goto B (pc := 75) 79 dX4_comes_75 (by decide) ?_
          refine x_istore B (pc := 79) [(5, .int 1), (4, .int (S 9 d)), (0, .ref (am 0)), (1, .int (nI d)), (2, .int (nI p)), (3, .int (nI kd))] dX4_comes_79 (by decide) rfl ?_
          refine x_iload B (pc := 81) 0 dX4_comes_81 rfl ?_
          refine x_if_ne B (pc := 83) 88 dX4_comes_83 (by decide) (fun h83 => ?_) (fun h83 => absurd h83 (by decide))
          have hp0 : p = 0 := (nI_eq (by omega) (by decide)).mp (h1.trans nI_0.symm)
          refine x_aload_n B (pc := 88) 2 dX4_comes_88 rfl rfl ?_
          refine x_get B (pc := 89) xcl_M 0 0 11 rfl rfl (by decide) tm641 rfl rfl dX4_comes_89 ?_
          refine x_iload_n B (pc := 92) 3 dX4_comes_92 rfl rfl ?_
          refine x_iload B (pc := 93) 1 dX4_comes_93 rfl ?_
          refine x_iconst B (pc := 95) 1 dX4_comes_95 (by decide) ?_
          refine x_icmp_ne B (pc := 96) 108 dX4_comes_96 (by decide) (fun h96 => ?_) (fun h96 => absurd h96 (show ¬ S 9 d = 1 by rw [h55]; decide))
          refine x_iload B (pc := 108) 1 dX4_comes_108 rfl ?_
          refine x_iconst B (pc := 110) 4 dX4_comes_110 (by decide) ?_
          refine x_icmp_ne B (pc := 111) 118 dX4_comes_111 (by decide) (fun h111 => absurd h55 h111) (fun h111 => ?_)
          refine x_iconst B (pc := 114) 1 dX4_comes_114 (by decide) ?_
          refine x_goto B (pc := 115) 119 dX4_comes_115 (by decide) ?_
          refine x_zastN B (pc := 119) d 2 7 [moW am N tf tt bf bt up op tr tn th, mlW D am (rcvL L S (kd, d, p)), mdW D am (xup S 11 d 1)] hd (by decide) rfl rfl (md_set11b (nar_1)) rfl dX4_comes_119 ?_
          refine x_aload_n B (pc := 120) 2 dX4_comes_120 rfl rfl ?_
          refine x_get B (pc := 121) xcl_M 0 0 10 rfl rfl (by decide) tm640 rfl rfl dX4_comes_121 ?_
          refine x_iload_n B (pc := 124) 3 dX4_comes_124 rfl rfl ?_
          refine x_iload_n B (pc := 125) 4 dX4_comes_125 rfl rfl ?_
          refine x_iconst B (pc := 126) 1 dX4_comes_126 (by decide) ?_
          refine x_iadd B (pc := 127) dX4_comes_127 ?_
          refine x_val B (y := nI (p + 1)) (nI_1 p) ?_
          refine x_iastN B (pc := 128) d 2 6 [moW am N tf tt bf bt up op tr tn th, mlW D am (rcvL L S (kd, d, p)), mdW D am (xup (xup S 11 d 1) 10 d (nI (p + 1)))] hd (by decide) rfl rfl md_set10 rfl dX4_comes_128 ?_
          refine x_aload_n B (pc := 129) 2 dX4_comes_129 rfl rfl ?_
          refine x_get B (pc := 130) xcl_M 0 0 9 rfl rfl (by decide) tm639 rfl rfl dX4_comes_130 ?_
          refine x_iload_n B (pc := 133) 3 dX4_comes_133 rfl rfl ?_
          refine x_aload_n B (pc := 134) 2 dX4_comes_134 rfl rfl ?_
          refine x_get B (pc := 135) xcl_M 0 0 10 rfl rfl (by decide) tm640 rfl rfl dX4_comes_135 ?_
          refine x_iload_n B (pc := 138) 3 dX4_comes_138 rfl rfl ?_
          refine x_ialdN B (pc := 139) d 2 6 hd (by decide) rfl rfl dX4_comes_139 ?_
          refine x_val B (y := nI (p + 1)) (xup_same (xup S 11 d 1) 10 d (nI (p + 1))) ?_
          refine x_aload_n B (pc := 140) 2 dX4_comes_140 rfl rfl ?_
          refine x_get B (pc := 141) xcl_M 0 0 6 rfl rfl (by decide) tm636 rfl rfl dX4_comes_141 ?_
          refine x_iload_n B (pc := 144) 3 dX4_comes_144 rfl rfl ?_
          refine x_ialdN B (pc := 145) d 2 2 hd (by decide) rfl rfl dX4_comes_145 ?_
          refine x_val B (y := S 6 d) rfl ?_
          refine x_icmp_ne B (pc := 146) 153 dX4_comes_146 (by decide) (fun h146 => ?_) (fun h146 => ?_)
          · skip
            refine x_iconst B (pc := 153) 1 dX4_comes_153 (by decide) ?_
            refine x_iastN B (pc := 154) d 2 5 [moW am N tf tt bf bt up op tr tn th, mlW D am (rcvL L S (kd, d, p)), mdW D am (xup (xup (xup S 11 d 1) 10 d (nI (p + 1))) 9 d 1)] hd (by decide) rfl rfl md_set9 rfl dX4_comes_154 ?_
            refine x_aload_n B (pc := 155) 2 dX4_comes_155 rfl rfl ?_
            refine x_get B (pc := 156) xcl_M 0 0 9 rfl rfl (by decide) tm639 rfl rfl dX4_comes_156 ?_
            refine x_iload_n B (pc := 159) 3 dX4_comes_159 rfl rfl ?_
            refine x_ialdN B (pc := 160) d 2 5 hd (by decide) rfl rfl dX4_comes_160 ?_
            refine x_val B (y := 1) (xup_same (xup (xup S 11 d 1) 10 d (nI (p + 1))) 9 d 1) ?_
            refine x_iconst B (pc := 161) 2 dX4_comes_161 (by decide) ?_
            refine x_icmp_ne B (pc := 162) 169 dX4_comes_162 (by decide) (fun h162 => ?_) (fun h162 => absurd h162 (by decide))
            refine x_iconst B (pc := 169) 0 dX4_comes_169 (by decide) ?_
            exact x_zret F (pc := 170) rfl rfl dX4_comes_170 (⟨by rw [(aCome_b hp0 (Or.inr h55)).2, if_neg h146], by rw [(aCome_b hp0 (Or.inr h55)).1, if_neg h146, if_pos h55]⟩) (Nat.le_of_ble_eq_true rfl) (Nat.le_of_ble_eq_true rfl)
          · skip
            refine x_iconst B (pc := 149) 2 dX4_comes_149 (by decide) ?_
            refine x_goto B (pc := 150) 154 dX4_comes_150 (by decide) ?_
            refine x_iastN B (pc := 154) d 2 5 [moW am N tf tt bf bt up op tr tn th, mlW D am (rcvL L S (kd, d, p)), mdW D am (xup (xup (xup S 11 d 1) 10 d (nI (p + 1))) 9 d 2)] hd (by decide) rfl rfl md_set9 rfl dX4_comes_154 ?_
            refine x_aload_n B (pc := 155) 2 dX4_comes_155 rfl rfl ?_
            refine x_get B (pc := 156) xcl_M 0 0 9 rfl rfl (by decide) tm639 rfl rfl dX4_comes_156 ?_
            refine x_iload_n B (pc := 159) 3 dX4_comes_159 rfl rfl ?_
            refine x_ialdN B (pc := 160) d 2 5 hd (by decide) rfl rfl dX4_comes_160 ?_
            refine x_val B (y := 2) (xup_same (xup (xup S 11 d 1) 10 d (nI (p + 1))) 9 d 2) ?_
            refine x_iconst B (pc := 161) 2 dX4_comes_161 (by decide) ?_
            refine x_icmp_ne B (pc := 162) 169 dX4_comes_162 (by decide) (fun h162 => absurd (by decide) h162) (fun h162 => ?_)
            refine x_iconst B (pc := 165) 1 dX4_comes_165 (by decide) ?_
            refine x_goto B (pc := 166) 170 dX4_comes_166 (by decide) ?_
            exact x_zret F (pc := 170) rfl rfl dX4_comes_170 (⟨by rw [(aCome_b hp0 (Or.inr h55)).2, if_pos h146], by rw [(aCome_b hp0 (Or.inr h55)).1, if_pos h146, if_pos h55]⟩) (Nat.le_of_ble_eq_true rfl) (Nat.le_of_ble_eq_true rfl)
        · skip
          refine x_iload B (pc := 58) 0 dX4_comes_58 rfl ?_
          refine x_iconst B (pc := 60) 1 dX4_comes_60 (by decide) ?_
          refine x_icmp_ne B (pc := 61) 78 dX4_comes_61 (by decide) (fun h61 => ?_) (fun h61 => ?_)
          · skip
            refine x_iconst B (pc := 78) 0 dX4_comes_78 (by decide) ?_
            refine x_istore B (pc := 79) [(5, .int 0), (4, .int (S 9 d)), (0, .ref (am 0)), (1, .int (nI d)), (2, .int (nI p)), (3, .int (nI kd))] dX4_comes_79 (by decide) rfl ?_
            refine x_iload B (pc := 81) 0 dX4_comes_81 rfl ?_
            refine x_if_ne B (pc := 83) 88 dX4_comes_83 (by decide) (fun h83 => absurd (by decide) h83) (fun h83 => ?_)
            refine x_iconst B (pc := 86) 0 dX4_comes_86 (by decide) ?_
            have hno : aCnt S d p = false := by
              unfold aCnt
              first
                | (simp [h49, h55, h61]; done)
                | (simp [h49, h55, h61, h71]; done)
                | (simp [show p ≠ 0 from fun e => h1 (by rw [e]; rfl), h61]; done)
                | (simp [show p ≠ 0 from fun e => h1 (by rw [e]; rfl), h61, h71]; done)
            exact x_zret F (pc := 87) rfl rfl dX4_comes_87 (⟨by rw [(aCome_no hno).2], by rw [(aCome_no hno).1]⟩) (Nat.le_of_ble_eq_true rfl) (Nat.le_of_ble_eq_true rfl)
          · skip
            refine x_iload_n B (pc := 64) 3 dX4_comes_64 rfl rfl ?_
            refine x_aload_n B (pc := 65) 1 dX4_comes_65 rfl rfl ?_
            refine x_get B (pc := 66) xcl_M 0 0 10 rfl rfl (by decide) tm640 rfl rfl dX4_comes_66 ?_
            refine x_iload_n B (pc := 69) 2 dX4_comes_69 rfl rfl ?_
            refine x_ialdN B (pc := 70) d 2 6 hd (by decide) rfl rfl dX4_comes_70 ?_
            refine x_icmp_ne B (pc := 71) 78 dX4_comes_71 (by decide) (fun h71 => ?_) (fun h71 => ?_)
            · skip
              refine x_iconst B (pc := 78) 0 dX4_comes_78 (by decide) ?_
              refine x_istore B (pc := 79) [(5, .int 0), (4, .int (S 9 d)), (0, .ref (am 0)), (1, .int (nI d)), (2, .int (nI p)), (3, .int (nI kd))] dX4_comes_79 (by decide) rfl ?_
              refine x_iload B (pc := 81) 0 dX4_comes_81 rfl ?_
              refine x_if_ne B (pc := 83) 88 dX4_comes_83 (by decide) (fun h83 => absurd (by decide) h83) (fun h83 => ?_)
              refine x_iconst B (pc := 86) 0 dX4_comes_86 (by decide) ?_
              have hno : aCnt S d p = false := by
                unfold aCnt
                first
                  | (simp [h49, h55, h61]; done)
                  | (simp [h49, h55, h61, h71]; done)
                  | (simp [show p ≠ 0 from fun e => h1 (by rw [e]; rfl), h61]; done)
                  | (simp [show p ≠ 0 from fun e => h1 (by rw [e]; rfl), h61, h71]; done)
              exact x_zret F (pc := 87) rfl rfl dX4_comes_87 (⟨by rw [(aCome_no hno).2], by rw [(aCome_no hno).1]⟩) (Nat.le_of_ble_eq_true rfl) (Nat.le_of_ble_eq_true rfl)
            · skip
              refine x_iconst B (pc := 74) 1 dX4_comes_74 (by decide) ?_
              refine x_goto B (pc := 75) 79 dX4_comes_75 (by decide) ?_
              refine x_istore B (pc := 79) [(5, .int 1), (4, .int (S 9 d)), (0, .ref (am 0)), (1, .int (nI d)), (2, .int (nI p)), (3, .int (nI kd))] dX4_comes_79 (by decide) rfl ?_
              refine x_iload B (pc := 81) 0 dX4_comes_81 rfl ?_
              refine x_if_ne B (pc := 83) 88 dX4_comes_83 (by decide) (fun h83 => ?_) (fun h83 => absurd h83 (by decide))
              refine x_aload_n B (pc := 88) 2 dX4_comes_88 rfl rfl ?_
              refine x_get B (pc := 89) xcl_M 0 0 11 rfl rfl (by decide) tm641 rfl rfl dX4_comes_89 ?_
              refine x_iload_n B (pc := 92) 3 dX4_comes_92 rfl rfl ?_
              refine x_iload B (pc := 93) 1 dX4_comes_93 rfl ?_
              refine x_iconst B (pc := 95) 1 dX4_comes_95 (by decide) ?_
              refine x_icmp_ne B (pc := 96) 108 dX4_comes_96 (by decide) (fun h96 => absurd h61 h96) (fun h96 => ?_)
              refine x_aload_n B (pc := 99) 2 dX4_comes_99 rfl rfl ?_
              refine x_get B (pc := 100) xcl_M 0 0 11 rfl rfl (by decide) tm641 rfl rfl dX4_comes_100 ?_
              refine x_iload_n B (pc := 103) 3 dX4_comes_103 rfl rfl ?_
              refine x_zaldN B (pc := 104) d 2 7 hd (by decide) rfl rfl dX4_comes_104 ?_
              refine x_goto B (pc := 105) 119 dX4_comes_105 (by decide) ?_
              refine x_zastN B (pc := 119) d 2 7 [moW am N tf tt bf bt up op tr tn th, mlW D am (rcvL L S (kd, d, p)), mdW D am S] hd (by decide) rfl rfl (md_set11c (nar_01 h11)) rfl dX4_comes_119 ?_
              refine x_aload_n B (pc := 120) 2 dX4_comes_120 rfl rfl ?_
              refine x_get B (pc := 121) xcl_M 0 0 10 rfl rfl (by decide) tm640 rfl rfl dX4_comes_121 ?_
              refine x_iload_n B (pc := 124) 3 dX4_comes_124 rfl rfl ?_
              refine x_iload_n B (pc := 125) 4 dX4_comes_125 rfl rfl ?_
              refine x_iconst B (pc := 126) 1 dX4_comes_126 (by decide) ?_
              refine x_iadd B (pc := 127) dX4_comes_127 ?_
              refine x_val B (y := nI (p + 1)) (nI_1 p) ?_
              refine x_iastN B (pc := 128) d 2 6 [moW am N tf tt bf bt up op tr tn th, mlW D am (rcvL L S (kd, d, p)), mdW D am (xup S 10 d (nI (p + 1)))] hd (by decide) rfl rfl md_set10 rfl dX4_comes_128 ?_
              refine x_aload_n B (pc := 129) 2 dX4_comes_129 rfl rfl ?_
              refine x_get B (pc := 130) xcl_M 0 0 9 rfl rfl (by decide) tm639 rfl rfl dX4_comes_130 ?_
              refine x_iload_n B (pc := 133) 3 dX4_comes_133 rfl rfl ?_
              refine x_aload_n B (pc := 134) 2 dX4_comes_134 rfl rfl ?_
              refine x_get B (pc := 135) xcl_M 0 0 10 rfl rfl (by decide) tm640 rfl rfl dX4_comes_135 ?_
              refine x_iload_n B (pc := 138) 3 dX4_comes_138 rfl rfl ?_
              refine x_ialdN B (pc := 139) d 2 6 hd (by decide) rfl rfl dX4_comes_139 ?_
              refine x_val B (y := nI (p + 1)) (xup_same S 10 d (nI (p + 1))) ?_
              refine x_aload_n B (pc := 140) 2 dX4_comes_140 rfl rfl ?_
              refine x_get B (pc := 141) xcl_M 0 0 6 rfl rfl (by decide) tm636 rfl rfl dX4_comes_141 ?_
              refine x_iload_n B (pc := 144) 3 dX4_comes_144 rfl rfl ?_
              refine x_ialdN B (pc := 145) d 2 2 hd (by decide) rfl rfl dX4_comes_145 ?_
              refine x_val B (y := S 6 d) rfl ?_
              refine x_icmp_ne B (pc := 146) 153 dX4_comes_146 (by decide) (fun h146 => ?_) (fun h146 => ?_)
              · skip
                refine x_iconst B (pc := 153) 1 dX4_comes_153 (by decide) ?_
                refine x_iastN B (pc := 154) d 2 5 [moW am N tf tt bf bt up op tr tn th, mlW D am (rcvL L S (kd, d, p)), mdW D am (xup (xup S 10 d (nI (p + 1))) 9 d 1)] hd (by decide) rfl rfl md_set9 rfl dX4_comes_154 ?_
                refine x_aload_n B (pc := 155) 2 dX4_comes_155 rfl rfl ?_
                refine x_get B (pc := 156) xcl_M 0 0 9 rfl rfl (by decide) tm639 rfl rfl dX4_comes_156 ?_
                refine x_iload_n B (pc := 159) 3 dX4_comes_159 rfl rfl ?_
                refine x_ialdN B (pc := 160) d 2 5 hd (by decide) rfl rfl dX4_comes_160 ?_
                refine x_val B (y := 1) (xup_same (xup S 10 d (nI (p + 1))) 9 d 1) ?_
                refine x_iconst B (pc := 161) 2 dX4_comes_161 (by decide) ?_
                refine x_icmp_ne B (pc := 162) 169 dX4_comes_162 (by decide) (fun h162 => ?_) (fun h162 => absurd h162 (by decide))
                refine x_iconst B (pc := 169) 0 dX4_comes_169 (by decide) ?_
                exact x_zret F (pc := 170) rfl rfl dX4_comes_170 (⟨by rw [(aCome_p h61 h71).2, if_neg h146], by rw [(aCome_p h61 h71).1, if_neg h146]⟩) (Nat.le_of_ble_eq_true rfl) (Nat.le_of_ble_eq_true rfl)
              · skip
                refine x_iconst B (pc := 149) 2 dX4_comes_149 (by decide) ?_
                refine x_goto B (pc := 150) 154 dX4_comes_150 (by decide) ?_
                refine x_iastN B (pc := 154) d 2 5 [moW am N tf tt bf bt up op tr tn th, mlW D am (rcvL L S (kd, d, p)), mdW D am (xup (xup S 10 d (nI (p + 1))) 9 d 2)] hd (by decide) rfl rfl md_set9 rfl dX4_comes_154 ?_
                refine x_aload_n B (pc := 155) 2 dX4_comes_155 rfl rfl ?_
                refine x_get B (pc := 156) xcl_M 0 0 9 rfl rfl (by decide) tm639 rfl rfl dX4_comes_156 ?_
                refine x_iload_n B (pc := 159) 3 dX4_comes_159 rfl rfl ?_
                refine x_ialdN B (pc := 160) d 2 5 hd (by decide) rfl rfl dX4_comes_160 ?_
                refine x_val B (y := 2) (xup_same (xup S 10 d (nI (p + 1))) 9 d 2) ?_
                refine x_iconst B (pc := 161) 2 dX4_comes_161 (by decide) ?_
                refine x_icmp_ne B (pc := 162) 169 dX4_comes_162 (by decide) (fun h162 => absurd (by decide) h162) (fun h162 => ?_)
                refine x_iconst B (pc := 165) 1 dX4_comes_165 (by decide) ?_
                refine x_goto B (pc := 166) 170 dX4_comes_166 (by decide) ?_
                exact x_zret F (pc := 170) rfl rfl dX4_comes_170 (⟨by rw [(aCome_p h61 h71).2, if_pos h146], by rw [(aCome_p h61 h71).1, if_pos h146]⟩) (Nat.le_of_ble_eq_true rfl) (Nat.le_of_ble_eq_true rfl)

set_option maxRecDepth 100000 in
set_option maxHeartbeats 4000000 in
theorem c_X4_toReceiver {l : Launch} (hl : l.stackTraces = false) (D : va_G) (e0 : Nat) {am : Nat → Nat} {N tf tt bf bt : Nat} {up op tr : Int32} {tn : Nat} {th : Int32} {L : xS} {S : xS} {tg : Nat → Int32} {qf : List xFr} {a : Int32} (hL : l16 L) (hN : N ≤ 60) (hq : mgOk encF qf tf tt tg) (htt : tt < 2 ^ 30) (hfr : (∀ x, x ∈ qf → x.1 ≤ 2 ∧ x.2.1 < N ∧ x.2.2 < 4)) (h11 : b11 S) (hl4 : ∀ d, d < N → ∃ j, j < 4 ∧ S 4 d = nI j) : xC l yX4_toReceiver (.code yX4_toReceiver cX4_toReceiver 6 (some .int)) ({ frames := 1, cells := 0, slots := 0, locals := 25 } : Room) D e0 [.ref (am 0), .int a] [moW am N tf tt bf bt up op tr tn th, mlW D am L, mdW D am S, rtW D am tg] (fun w cs => (cod (xinB 1 100 a) true true = 0 ∧ w = some (.int ((rcvN (ix a) L S qf 0).2.2.2)) ∧ ∃ tf1, mgOk encF (rcvN (ix a) L S qf 0).2.2.1 tf1 tt tg ∧ cs = [moW am N tf1 tt bf bt up op tr tn 0, mlW D am ((rcvN (ix a) L S qf 0).1), mdW D am ((rcvN (ix a) L S qf 0).2.1), rtW D am tg]) ∨ (cod (xinB 1 100 a) true true ≠ 0 ∧ (∃ z, w = some (.int z)) ∧ cs = [moW am N tf tt bf bt up op tr tn (nI (cod (xinB 1 100 a) true true)), mlW D am L, mdW D am S, rtW D am tg])) (fun _ => False) := by
  refine xC_of hl (by decide +kernel) (Nat.le_of_ble_eq_true rfl) (fun G X F => ?_)
  have B : xB l D e0 "CreditLinksModel" cX4_toReceiver 6 (some .int) [] _ G X := F.base
  show G 0 [(0, .ref (am 0)), (1, .int a)] [] [moW am N tf tt bf bt up op tr tn th, mlW D am L, mdW D am S, rtW D am tg] 0 0
  refine x_iconst B (pc := 0) 0 dX4_toReceiver_0 (by decide) ?_
  refine x_istore_n B (pc := 1) [(2, .int 0), (0, .ref (am 0)), (1, .int a)] dX4_toReceiver_1 rfl (by decide) rfl ?_
  refine x_aload_n B (pc := 2) 1 dX4_toReceiver_2 rfl rfl ?_
  refine x_iload_n B (pc := 3) 2 dX4_toReceiver_3 rfl rfl ?_
  refine x_iconst B (pc := 4) 1 dX4_toReceiver_4 (by decide) ?_
  refine x_bipush B (pc := 5) 100 dX4_toReceiver_5 (by decide) ?_
  refine x_callS B (pc := 7) (As := [.int a, .int 1, .int 100]) (c_X4_in hl D e0 ) tm727 tm728 tm7 tm729 md_X4_in ⟨Nat.le_of_ble_eq_true rfl, Nat.le_of_ble_eq_true rfl⟩ [] rfl rfl rfl (Nat.le_of_ble_eq_true rfl) (Nat.le_of_ble_eq_true rfl) (Nat.le_of_ble_eq_true rfl) dX4_toReceiver_7 (fun E hE => False.elim hE) (fun v cs1 hp => ?_)
  obtain ⟨rfl, rfl⟩ := hp
  show G 10 [(2, .int 0), (0, .ref (am 0)), (1, .int a)] [.int (bz (xinB 1 100 a)), .ref (am 0)] [moW am N tf tt bf bt up op tr tn th, mlW D am L, mdW D am S, rtW D am tg] 0 0
  cases ha : xinB 1 100 a
  · skip
    refine x_callV B (pc := 10) (As := [.int 0]) (c_X4_asked hl D e0 (p := false)) xcl_M rfl 0 0 rfl rfl tm750 tm752 ts16 tm7 tm753 md_X4_asked ⟨Nat.le_of_ble_eq_true rfl, Nat.le_of_ble_eq_true rfl⟩ [0] rfl rfl rfl (Nat.le_of_ble_eq_true rfl) (Nat.le_of_ble_eq_true rfl) (Nat.le_of_ble_eq_true rfl) dX4_toReceiver_10 (fun E hE => False.elim hE) (fun v cs1 hp => ?_)
    obtain ⟨rfl, rfl⟩ := hp
    show G 13 [(2, .int 0), (0, .ref (am 0)), (1, .int a)] [.int 0] [moW am N tf tt bf bt up op tr tn (nI 1), mlW D am L, mdW D am S, rtW D am tg] 0 0
    refine x_if_eq B (pc := 13) 148 dX4_toReceiver_13 (by decide) (fun h13 => ?_) (fun h13 => absurd (by decide) h13)
    refine x_iload_n B (pc := 148) 0 dX4_toReceiver_148 rfl rfl ?_
    have hc : cod (xinB 1 100 a) true true = 1 := by first | (rw [ha]; rfl)
    exact x_iret F (pc := 149) rfl dX4_toReceiver_149 (Or.inr ⟨by rw [hc]; decide, ⟨_, rfl⟩, by rw [hc]⟩) (Nat.le_of_ble_eq_true rfl) (Nat.le_of_ble_eq_true rfl)
  · obtain ⟨c, hc1, hc2, rfl⟩ := xinB_t ha (by decide) (by decide)
    have ec : ix (nI c) = c := ix_nI (by omega)
    refine x_callV B (pc := 10) (As := [.int 1]) (c_X4_asked hl D e0 (p := true)) xcl_M rfl 0 0 rfl rfl tm750 tm752 ts16 tm7 tm753 md_X4_asked ⟨Nat.le_of_ble_eq_true rfl, Nat.le_of_ble_eq_true rfl⟩ [0] rfl rfl rfl (Nat.le_of_ble_eq_true rfl) (Nat.le_of_ble_eq_true rfl) (Nat.le_of_ble_eq_true rfl) dX4_toReceiver_10 (fun E hE => False.elim hE) (fun v cs1 hp => ?_)
    obtain ⟨rfl, rfl⟩ := hp
    show G 13 [(2, .int 0), (0, .ref (am 0)), (1, .int (nI c))] [.int 1] [moW am N tf tt bf bt up op tr tn 0, mlW D am L, mdW D am S, rtW D am tg] 0 0
    refine x_if_eq B (pc := 13) 148 dX4_toReceiver_13 (by decide) (fun h13 => absurd h13 (by decide)) (fun h13 => ?_)
    refine x_iconst B (pc := 16) 0 dX4_toReceiver_16 (by decide) ?_
    refine x_val B (y := nI 0) rfl ?_
    refine x_istore_n B (pc := 17) [(3, .int (nI 0)), (2, .int 0), (0, .ref (am 0)), (1, .int (nI c))] dX4_toReceiver_17 rfl (by decide) rfl ?_
    have hloop18 : ∀ (fu : Nat) (i tf1 : Nat) (L1 S1 : xS) (q1 : List xFr) (n1 : Int32), i ≤ c → c + 1 ≤ i + fu → mgOk encF q1 tf1 tt tg → (∀ x, x ∈ q1 → x.1 ≤ 2 ∧ x.2.1 < N ∧ x.2.2 < 4) → l16 L1 → b11 S1 → S1 4 = S 4 → rcvN (c - i) L1 S1 q1 n1 = rcvN c L S qf 0 → G 18 [(3, .int (nI i)), (2, .int n1), (1, .int (nI c)), (0, .ref (am 0))] [] [moW am N tf1 tt bf bt up op tr tn 0, mlW D am L1, mdW D am S1, rtW D am tg] 0 0 := by
      intro fu
      induction fu with
      | zero =>
        intro i tf1 L1 S1 q1 n1 hi hfu hg hfr1 hL1 h111 h41 hrec
        omega
      | succ fu ih =>
        intro i tf1 L1 S1 q1 n1 hi hfu hg hfr1 hL1 h111 h41 hrec
        refine x_iload_n B (pc := 18) 0 dX4_toReceiver_18 rfl rfl ?_
        refine x_iload_n B (pc := 19) 2 dX4_toReceiver_19 rfl rfl ?_
        refine x_icmp_ge B (pc := 20) 148 dX4_toReceiver_20 (by decide) (fun h20 => ?_) (fun h20 => ?_)
        · skip
          have hge : c - i = 0 := by
            have := (nI_leI (by omega) (by omega)).mp h20
            omega
          rw [hge] at hrec
          have hend : rcvN c L S qf 0 = (L1, S1, q1, n1) := hrec.symm
          refine x_iload_n B (pc := 148) 1 dX4_toReceiver_148 rfl rfl ?_
          exact x_iret F (pc := 149) rfl dX4_toReceiver_149 (Or.inl ⟨by rw [ha]; rfl, by rw [ec, hend], tf1, by rw [ec, hend]; exact hg, by rw [ec, hend]⟩) (Nat.le_of_ble_eq_true rfl) (Nat.le_of_ble_eq_true rfl)
        · skip
          have hlt : i < c := Nat.lt_of_not_le (fun e => h20 (nI_le e (by omega)))
          rcases q1 with _ | ⟨⟨kd, d, p⟩, q2⟩
          · have etf := hg.1
            rw [show ([] : List xFr).length = 0 from rfl] at etf
            refine x_aload_n B (pc := 23) 3 dX4_toReceiver_23 rfl rfl ?_
            refine x_get B (pc := 24) (v := .int (nI tf1)) xcl_M 0 0 17 rfl rfl (by decide) tm647 rfl rfl dX4_toReceiver_24 ?_
            refine x_aload_n B (pc := 27) 3 dX4_toReceiver_27 rfl rfl ?_
            refine x_get B (pc := 28) (v := .int (nI tt)) xcl_M 0 0 18 rfl rfl (by decide) tm648 rfl rfl dX4_toReceiver_28 ?_
            refine x_icmp_ge B (pc := 31) 148 dX4_toReceiver_31 (by decide) (fun h31 => ?_) (fun h31 => absurd (nI_le (by omega) (by omega)) h31)
            refine x_iload_n B (pc := 148) 1 dX4_toReceiver_148 rfl rfl ?_
            have hnil : rcvN c L S qf 0 = (L1, S1, [], n1) := hrec.symm.trans (rcvN_nil _ _ _ _)
            exact x_iret F (pc := 149) rfl dX4_toReceiver_149 (Or.inl ⟨by rw [ha]; rfl, by rw [ec, hnil], tf1, by rw [ec, hnil]; exact hg, by rw [ec, hnil]⟩) (Nat.le_of_ble_eq_true rfl) (Nat.le_of_ble_eq_true rfl)
          · have etf := hg.1
            rw [List.length_cons] at etf
            refine x_aload_n B (pc := 23) 3 dX4_toReceiver_23 rfl rfl ?_
            refine x_get B (pc := 24) (v := .int (nI tf1)) xcl_M 0 0 17 rfl rfl (by decide) tm647 rfl rfl dX4_toReceiver_24 ?_
            refine x_aload_n B (pc := 27) 3 dX4_toReceiver_27 rfl rfl ?_
            refine x_get B (pc := 28) (v := .int (nI tt)) xcl_M 0 0 18 rfl rfl (by decide) tm648 rfl rfl dX4_toReceiver_28 ?_
            refine x_icmp_ge B (pc := 31) 148 dX4_toReceiver_31 (by decide) (fun h31 => absurd h31 (nI_ge (by omega) (by omega))) (fun h31 => ?_)
            refine x_aload_n B (pc := 34) 3 dX4_toReceiver_34 rfl rfl ?_
            refine x_get B (pc := 35) xcl_M 0 0 16 rfl rfl (by decide) tm646 rfl rfl dX4_toReceiver_35 ?_
            refine x_aload_n B (pc := 38) 3 dX4_toReceiver_38 rfl rfl ?_
            refine x_get B (pc := 39) (v := .int (nI tf1)) xcl_M 0 0 17 rfl rfl (by decide) tm647 rfl rfl dX4_toReceiver_39 ?_
            refine x_sipush B (pc := 42) 2048 dX4_toReceiver_42 (by decide) ?_
            refine x_irem B (pc := 45) dX4_toReceiver_45 (by decide) ?_
            refine x_val B (y := nI (tf1 % 2048)) (pk_rem (d := 2048) (by omega) (by decide) (by decide)) ?_
            refine x_ialdN B (pc := 46) (tf1 % 2048) 3 0 (Nat.mod_lt _ (by decide)) (by decide) rfl rfl dX4_toReceiver_46 ?_
            refine x_val B (y := encF (kd, d, p)) (mg_hd hg) ?_
            obtain ⟨hkd, hdN, hp4⟩ := hfr1 _ (List.mem_cons_self (a := (kd, d, p)))
            have hkd : kd ≤ 2 := hkd
            have hdN : d < N := hdN
            have hp4 : p < 4 := hp4
            have hd6 : d < 60 := by omega
            by_cases hk2 : kd = 2
            · have hz : True := trivial
              refine x_val B (y := (-1) - nI d) (by rw [hk2]; exact encF_2) ?_
              refine x_istore B (pc := 47) [(4, .int ((-1) - nI d)), (3, .int (nI i)), (2, .int n1), (1, .int (nI c)), (0, .ref (am 0))] dX4_toReceiver_47 (by decide) rfl ?_
              refine x_aload_n B (pc := 49) 4 dX4_toReceiver_49 rfl rfl ?_
              refine x_dup B (pc := 50) dX4_toReceiver_50 rfl ?_
              refine x_get B (pc := 51) (v := .int (nI tf1)) xcl_M 0 0 17 rfl rfl (by decide) tm647 rfl rfl dX4_toReceiver_51 ?_
              refine x_iconst B (pc := 54) 1 dX4_toReceiver_54 (by decide) ?_
              refine x_iadd B (pc := 55) dX4_toReceiver_55 ?_
              refine x_val B (y := nI (tf1 + 1)) (nI_1 tf1) ?_
              refine x_put B (pc := 56) xcl_M 0 0 17 [moW am N (tf1 + 1) tt bf bt up op tr tn 0, mlW D am L1, mdW D am S1, rtW D am tg] rfl rfl (by decide) tm647 rfl rfl rfl rfl rfl (Nat.le_of_ble_eq_true rfl) rfl rfl dX4_toReceiver_56 ?_
              refine x_iload B (pc := 59) 0 dX4_toReceiver_59 rfl ?_
              refine x_if_ge B (pc := 61) 102 dX4_toReceiver_61 (by decide) (fun h61 => absurd h61 (Int32.not_le.mpr (neg_lt (by omega)))) (fun h61 => ?_)
              refine x_iconst B (pc := 64) (-1) dX4_toReceiver_64 (by decide) ?_
              refine x_iload B (pc := 65) 0 dX4_toReceiver_65 rfl ?_
              refine x_isub B (pc := 67) dX4_toReceiver_67 ?_
              refine x_val B (y := nI d) (neg_neg _) ?_
              refine x_istore B (pc := 68) [(5, .int (nI d)), (4, .int ((-1) - nI d)), (3, .int (nI i)), (2, .int n1), (1, .int (nI c)), (0, .ref (am 0))] dX4_toReceiver_68 (by decide) rfl ?_
              refine x_aload_n B (pc := 70) 5 dX4_toReceiver_70 rfl rfl ?_
              refine x_get B (pc := 71) xcl_M 0 0 9 rfl rfl (by decide) tm639 rfl rfl dX4_toReceiver_71 ?_
              refine x_iload B (pc := 74) 0 dX4_toReceiver_74 rfl ?_
              refine x_aload_n B (pc := 76) 5 dX4_toReceiver_76 rfl rfl ?_
              refine x_get B (pc := 77) xcl_M 0 0 9 rfl rfl (by decide) tm639 rfl rfl dX4_toReceiver_77 ?_
              refine x_iload B (pc := 80) 0 dX4_toReceiver_80 rfl ?_
              refine x_ialdN B (pc := 82) d 2 5 hd6 (by decide) rfl rfl dX4_toReceiver_82 ?_
              refine x_iconst B (pc := 83) 3 dX4_toReceiver_83 (by decide) ?_
              refine x_icmp_ne B (pc := 84) 91 dX4_toReceiver_84 (by decide) (fun h84 => ?_) (fun h84 => ?_)
              · skip
                refine x_aload_n B (pc := 91) 5 dX4_toReceiver_91 rfl rfl ?_
                refine x_get B (pc := 92) xcl_M 0 0 9 rfl rfl (by decide) tm639 rfl rfl dX4_toReceiver_92 ?_
                refine x_iload B (pc := 95) 0 dX4_toReceiver_95 rfl ?_
                refine x_ialdN B (pc := 97) d 2 5 hd6 (by decide) rfl rfl dX4_toReceiver_97 ?_
                refine x_iastN B (pc := 98) d 2 5 [moW am N (tf1 + 1) tt bf bt up op tr tn 0, mlW D am L1, mdW D am (xup S1 9 d (S1 9 d)), rtW D am tg] hd6 (by decide) rfl rfl md_set9 rfl dX4_toReceiver_98 ?_
                refine x_goto B (pc := 99) 142 dX4_toReceiver_99 (by decide) ?_
                refine x_iinc B (pc := 142) 2 (nI (i + 1)) [(3, .int (nI (i + 1))), (5, .int (nI d)), (4, .int ((-1) - nI d)), (2, .int n1), (1, .int (nI c)), (0, .ref (am 0))] dX4_toReceiver_142 rfl (nI_1 i) (by decide) rfl ?_
                refine x_goto B (pc := 145) 18 dX4_toReceiver_145 (by decide) ?_
                refine x_lv B [0, 3, 4, 5] [(3, .int (nI (i + 1))), (2, .int n1), (1, .int (nI c)), (0, .ref (am 0))] rfl ?_
                have eL : rcvL L1 S1 (kd, d, p) = L1 := by unfold rcvL; exact if_neg (fun e => by have e1 : kd = 0 := e.1; omega)
                have eS : rcvS S1 (kd, d, p) = xup S1 9 d (S1 9 d) := (by unfold rcvS aForget; rw [if_pos hk2]; first | rw [if_pos h84] | rw [if_neg h84, xup_id rfl])
                have eR : n1 + rcvR S1 (kd, d, p) = n1 := by unfold rcvR; rw [if_pos hk2, Int32.add_zero]
                refine ih (i + 1) (tf1 + 1) (L1) (xup S1 9 d (S1 9 d)) q2 (n1) (by omega) (by omega) (mg_tl hg) (fun x hx => hfr1 x (List.mem_cons_of_mem _ hx)) (by rw [← eL]; exact l16_rcv hL1) (by rw [← eS]; exact b11_rcv h111) (by rw [← eS]; exact (rcvS_k S1 _ (by decide)).trans h41) ?_
                rw [← eL, ← eS, ← eR, ← hrec, show c - i = (c - (i + 1)) + 1 by omega]
                rfl
              · skip
                refine x_iconst B (pc := 87) 4 dX4_toReceiver_87 (by decide) ?_
                refine x_goto B (pc := 88) 98 dX4_toReceiver_88 (by decide) ?_
                refine x_iastN B (pc := 98) d 2 5 [moW am N (tf1 + 1) tt bf bt up op tr tn 0, mlW D am L1, mdW D am (xup S1 9 d 4), rtW D am tg] hd6 (by decide) rfl rfl md_set9 rfl dX4_toReceiver_98 ?_
                refine x_goto B (pc := 99) 142 dX4_toReceiver_99 (by decide) ?_
                refine x_iinc B (pc := 142) 2 (nI (i + 1)) [(3, .int (nI (i + 1))), (5, .int (nI d)), (4, .int ((-1) - nI d)), (2, .int n1), (1, .int (nI c)), (0, .ref (am 0))] dX4_toReceiver_142 rfl (nI_1 i) (by decide) rfl ?_
                refine x_goto B (pc := 145) 18 dX4_toReceiver_145 (by decide) ?_
                refine x_lv B [0, 3, 4, 5] [(3, .int (nI (i + 1))), (2, .int n1), (1, .int (nI c)), (0, .ref (am 0))] rfl ?_
                have eL : rcvL L1 S1 (kd, d, p) = L1 := by unfold rcvL; exact if_neg (fun e => by have e1 : kd = 0 := e.1; omega)
                have eS : rcvS S1 (kd, d, p) = xup S1 9 d 4 := (by unfold rcvS aForget; rw [if_pos hk2]; first | rw [if_pos h84] | rw [if_neg h84, xup_id rfl])
                have eR : n1 + rcvR S1 (kd, d, p) = n1 := by unfold rcvR; rw [if_pos hk2, Int32.add_zero]
                refine ih (i + 1) (tf1 + 1) (L1) (xup S1 9 d 4) q2 (n1) (by omega) (by omega) (mg_tl hg) (fun x hx => hfr1 x (List.mem_cons_of_mem _ hx)) (by rw [← eL]; exact l16_rcv hL1) (by rw [← eS]; exact b11_rcv h111) (by rw [← eS]; exact (rcvS_k S1 _ (by decide)).trans h41) ?_
                rw [← eL, ← eS, ← eR, ← hrec, show c - i = (c - (i + 1)) + 1 by omega]
                rfl
            · have hkd2 : kd < 2 := by omega
              refine x_val B (y := nI (16 * d + 2 * p + kd)) (encF_lt hd6 hp4 hkd2) ?_
              refine x_istore B (pc := 47) [(4, .int (nI (16 * d + 2 * p + kd))), (3, .int (nI i)), (2, .int n1), (1, .int (nI c)), (0, .ref (am 0))] dX4_toReceiver_47 (by decide) rfl ?_
              refine x_aload_n B (pc := 49) 4 dX4_toReceiver_49 rfl rfl ?_
              refine x_dup B (pc := 50) dX4_toReceiver_50 rfl ?_
              refine x_get B (pc := 51) (v := .int (nI tf1)) xcl_M 0 0 17 rfl rfl (by decide) tm647 rfl rfl dX4_toReceiver_51 ?_
              refine x_iconst B (pc := 54) 1 dX4_toReceiver_54 (by decide) ?_
              refine x_iadd B (pc := 55) dX4_toReceiver_55 ?_
              refine x_val B (y := nI (tf1 + 1)) (nI_1 tf1) ?_
              refine x_put B (pc := 56) xcl_M 0 0 17 [moW am N (tf1 + 1) tt bf bt up op tr tn 0, mlW D am L1, mdW D am S1, rtW D am tg] rfl rfl (by decide) tm647 rfl rfl rfl rfl rfl (Nat.le_of_ble_eq_true rfl) rfl rfl dX4_toReceiver_56 ?_
              refine x_iload B (pc := 59) 0 dX4_toReceiver_59 rfl ?_
              refine x_if_ge B (pc := 61) 102 dX4_toReceiver_61 (by decide) (fun h61 => ?_) (fun h61 => absurd (show nI 0 ≤ nI (16 * d + 2 * p + kd) from nI_le (Nat.zero_le _) (by omega)) h61)
              refine x_iload_n B (pc := 102) 2 dX4_toReceiver_102 rfl rfl ?_
              refine x_aload_n B (pc := 103) 4 dX4_toReceiver_103 rfl rfl ?_
              refine x_iload B (pc := 104) 0 dX4_toReceiver_104 rfl ?_
              refine x_bipush B (pc := 106) 16 dX4_toReceiver_106 (by decide) ?_
              refine x_idiv B (pc := 108) dX4_toReceiver_108 (by decide) ?_
              refine x_val B (y := nI d) (enc_d hd6 hp4 hkd2) ?_
              refine x_iload B (pc := 109) 0 dX4_toReceiver_109 rfl ?_
              refine x_iconst B (pc := 111) 2 dX4_toReceiver_111 (by decide) ?_
              refine x_idiv B (pc := 112) dX4_toReceiver_112 (by decide) ?_
              refine x_val B (y := nI (8 * d + p)) (enc_h hd6 hp4 hkd2) ?_
              refine x_bipush B (pc := 113) 8 dX4_toReceiver_113 (by decide) ?_
              refine x_irem B (pc := 115) dX4_toReceiver_115 (by decide) ?_
              refine x_val B (y := nI p) (enc_p hd6 hp4) ?_
              refine x_iload B (pc := 116) 0 dX4_toReceiver_116 rfl ?_
              refine x_iconst B (pc := 118) 2 dX4_toReceiver_118 (by decide) ?_
              refine x_irem B (pc := 119) dX4_toReceiver_119 (by decide) ?_
              refine x_val B (y := nI kd) (enc_k hd6 hp4 hkd2) ?_
              refine x_iconst B (pc := 120) 1 dX4_toReceiver_120 (by decide) ?_
              refine x_icmp_ne B (pc := 121) 128 dX4_toReceiver_121 (by decide) (fun h121 => ?_) (fun h121 => ?_)
              · skip
                refine x_iconst B (pc := 128) 0 dX4_toReceiver_128 (by decide) ?_
                refine x_val B (y := nI 0) rfl ?_
                refine x_callV B (pc := 129) (As := [.int (nI d), .int (nI p), .int (nI 0)]) (c_X4_comes hl D e0 hL1 hd6 hp4 (by decide) (by rw [h41]; exact hl4 d hdN) (h111 d)) xcl_M rfl 0 0 rfl rfl tm774 tm776 ts20 tm7 tm777 md_X4_comes ⟨Nat.le_of_ble_eq_true rfl, Nat.le_of_ble_eq_true rfl⟩ [0, 1, 2] rfl rfl rfl (Nat.le_of_ble_eq_true rfl) (Nat.le_of_ble_eq_true rfl) (Nat.le_of_ble_eq_true rfl) dX4_toReceiver_129 (fun E hE => False.elim hE) (fun v cs1 hp => ?_)
                obtain ⟨rfl, rfl⟩ := hp
                show G 132 [(4, .int (nI (16 * d + 2 * p + kd))), (3, .int (nI i)), (2, .int n1), (1, .int (nI c)), (0, .ref (am 0))] [.int (aComeR S1 d p), .int n1] [moW am N (tf1 + 1) tt bf bt up op tr tn 0, mlW D am (rcvL L1 S1 (0, d, p)), mdW D am (aComeS S1 d p), rtW D am tg] 0 0
                refine x_if_eq B (pc := 132) 139 dX4_toReceiver_132 (by decide) (fun h132 => ?_) (fun h132 => ?_)
                · skip
                  refine x_iconst B (pc := 139) 0 dX4_toReceiver_139 (by decide) ?_
                  refine x_iadd B (pc := 140) dX4_toReceiver_140 ?_
                  refine x_istore_n B (pc := 141) [(2, .int (n1 + 0)), (4, .int (nI (16 * d + 2 * p + kd))), (3, .int (nI i)), (1, .int (nI c)), (0, .ref (am 0))] dX4_toReceiver_141 rfl (by decide) rfl ?_
                  refine x_iinc B (pc := 142) 2 (nI (i + 1)) [(3, .int (nI (i + 1))), (2, .int (n1 + 0)), (4, .int (nI (16 * d + 2 * p + kd))), (1, .int (nI c)), (0, .ref (am 0))] dX4_toReceiver_142 rfl (nI_1 i) (by decide) rfl ?_
                  refine x_goto B (pc := 145) 18 dX4_toReceiver_145 (by decide) ?_
                  refine x_lv B [0, 1, 3, 4] [(3, .int (nI (i + 1))), (2, .int (n1 + 0)), (1, .int (nI c)), (0, .ref (am 0))] rfl ?_
                  have ek : kd = 0 := by
                    have h9 := h121
                    first
                      | exact (nI_eq (b := 1) (by omega) (by decide)).mp h9
                      | (have h8 : kd ≠ 1 := fun e => h9 (congrArg nI e)
                         omega)
                  have eL : rcvL L1 S1 (kd, d, p) = rcvL L1 S1 (0, d, p) := by rw [ek]
                  have eS : rcvS S1 (kd, d, p) = aComeS S1 d p := by unfold rcvS; rw [if_neg hk2]
                  have eR : n1 + rcvR S1 (kd, d, p) = n1 + 0 := by unfold rcvR; rw [if_neg hk2]; first | rw [h132] | rw [show aComeR S1 d p = 1 from (aComeR_01 S1 d p).resolve_left h132]
                  refine ih (i + 1) (tf1 + 1) (rcvL L1 S1 (0, d, p)) (aComeS S1 d p) q2 (n1 + 0) (by omega) (by omega) (mg_tl hg) (fun x hx => hfr1 x (List.mem_cons_of_mem _ hx)) (by rw [← eL]; exact l16_rcv hL1) (by rw [← eS]; exact b11_rcv h111) (by rw [← eS]; exact (rcvS_k S1 _ (by decide)).trans h41) ?_
                  rw [← eL, ← eS, ← eR, ← hrec, show c - i = (c - (i + 1)) + 1 by omega]
                  rfl
                · skip
                  refine x_iconst B (pc := 135) 1 dX4_toReceiver_135 (by decide) ?_
                  refine x_goto B (pc := 136) 140 dX4_toReceiver_136 (by decide) ?_
                  refine x_iadd B (pc := 140) dX4_toReceiver_140 ?_
                  refine x_istore_n B (pc := 141) [(2, .int (n1 + 1)), (4, .int (nI (16 * d + 2 * p + kd))), (3, .int (nI i)), (1, .int (nI c)), (0, .ref (am 0))] dX4_toReceiver_141 rfl (by decide) rfl ?_
                  refine x_iinc B (pc := 142) 2 (nI (i + 1)) [(3, .int (nI (i + 1))), (2, .int (n1 + 1)), (4, .int (nI (16 * d + 2 * p + kd))), (1, .int (nI c)), (0, .ref (am 0))] dX4_toReceiver_142 rfl (nI_1 i) (by decide) rfl ?_
                  refine x_goto B (pc := 145) 18 dX4_toReceiver_145 (by decide) ?_
                  refine x_lv B [0, 1, 3, 4] [(3, .int (nI (i + 1))), (2, .int (n1 + 1)), (1, .int (nI c)), (0, .ref (am 0))] rfl ?_
                  have ek : kd = 0 := by
                    have h9 := h121
                    first
                      | exact (nI_eq (b := 1) (by omega) (by decide)).mp h9
                      | (have h8 : kd ≠ 1 := fun e => h9 (congrArg nI e)
                         omega)
                  have eL : rcvL L1 S1 (kd, d, p) = rcvL L1 S1 (0, d, p) := by rw [ek]
                  have eS : rcvS S1 (kd, d, p) = aComeS S1 d p := by unfold rcvS; rw [if_neg hk2]
                  have eR : n1 + rcvR S1 (kd, d, p) = n1 + 1 := by unfold rcvR; rw [if_neg hk2]; first | rw [h132] | rw [show aComeR S1 d p = 1 from (aComeR_01 S1 d p).resolve_left h132]
                  refine ih (i + 1) (tf1 + 1) (rcvL L1 S1 (0, d, p)) (aComeS S1 d p) q2 (n1 + 1) (by omega) (by omega) (mg_tl hg) (fun x hx => hfr1 x (List.mem_cons_of_mem _ hx)) (by rw [← eL]; exact l16_rcv hL1) (by rw [← eS]; exact b11_rcv h111) (by rw [← eS]; exact (rcvS_k S1 _ (by decide)).trans h41) ?_
                  rw [← eL, ← eS, ← eR, ← hrec, show c - i = (c - (i + 1)) + 1 by omega]
                  rfl
              · skip
                refine x_iconst B (pc := 124) 1 dX4_toReceiver_124 (by decide) ?_
                refine x_val B (y := nI 1) rfl ?_
                refine x_goto B (pc := 125) 129 dX4_toReceiver_125 (by decide) ?_
                refine x_callV B (pc := 129) (As := [.int (nI d), .int (nI p), .int (nI 1)]) (c_X4_comes hl D e0 hL1 hd6 hp4 (by decide) (by rw [h41]; exact hl4 d hdN) (h111 d)) xcl_M rfl 0 0 rfl rfl tm774 tm776 ts20 tm7 tm777 md_X4_comes ⟨Nat.le_of_ble_eq_true rfl, Nat.le_of_ble_eq_true rfl⟩ [0, 1, 2] rfl rfl rfl (Nat.le_of_ble_eq_true rfl) (Nat.le_of_ble_eq_true rfl) (Nat.le_of_ble_eq_true rfl) dX4_toReceiver_129 (fun E hE => False.elim hE) (fun v cs1 hp => ?_)
                obtain ⟨rfl, rfl⟩ := hp
                show G 132 [(4, .int (nI (16 * d + 2 * p + kd))), (3, .int (nI i)), (2, .int n1), (1, .int (nI c)), (0, .ref (am 0))] [.int (aComeR S1 d p), .int n1] [moW am N (tf1 + 1) tt bf bt up op tr tn 0, mlW D am (rcvL L1 S1 (1, d, p)), mdW D am (aComeS S1 d p), rtW D am tg] 0 0
                refine x_if_eq B (pc := 132) 139 dX4_toReceiver_132 (by decide) (fun h132 => ?_) (fun h132 => ?_)
                · skip
                  refine x_iconst B (pc := 139) 0 dX4_toReceiver_139 (by decide) ?_
                  refine x_iadd B (pc := 140) dX4_toReceiver_140 ?_
                  refine x_istore_n B (pc := 141) [(2, .int (n1 + 0)), (4, .int (nI (16 * d + 2 * p + kd))), (3, .int (nI i)), (1, .int (nI c)), (0, .ref (am 0))] dX4_toReceiver_141 rfl (by decide) rfl ?_
                  refine x_iinc B (pc := 142) 2 (nI (i + 1)) [(3, .int (nI (i + 1))), (2, .int (n1 + 0)), (4, .int (nI (16 * d + 2 * p + kd))), (1, .int (nI c)), (0, .ref (am 0))] dX4_toReceiver_142 rfl (nI_1 i) (by decide) rfl ?_
                  refine x_goto B (pc := 145) 18 dX4_toReceiver_145 (by decide) ?_
                  refine x_lv B [0, 1, 3, 4] [(3, .int (nI (i + 1))), (2, .int (n1 + 0)), (1, .int (nI c)), (0, .ref (am 0))] rfl ?_
                  have ek : kd = 1 := by
                    have h9 := h121
                    first
                      | exact (nI_eq (b := 1) (by omega) (by decide)).mp h9
                      | (have h8 : kd ≠ 1 := fun e => h9 (congrArg nI e)
                         omega)
                  have eL : rcvL L1 S1 (kd, d, p) = rcvL L1 S1 (1, d, p) := by rw [ek]
                  have eS : rcvS S1 (kd, d, p) = aComeS S1 d p := by unfold rcvS; rw [if_neg hk2]
                  have eR : n1 + rcvR S1 (kd, d, p) = n1 + 0 := by unfold rcvR; rw [if_neg hk2]; first | rw [h132] | rw [show aComeR S1 d p = 1 from (aComeR_01 S1 d p).resolve_left h132]
                  refine ih (i + 1) (tf1 + 1) (rcvL L1 S1 (1, d, p)) (aComeS S1 d p) q2 (n1 + 0) (by omega) (by omega) (mg_tl hg) (fun x hx => hfr1 x (List.mem_cons_of_mem _ hx)) (by rw [← eL]; exact l16_rcv hL1) (by rw [← eS]; exact b11_rcv h111) (by rw [← eS]; exact (rcvS_k S1 _ (by decide)).trans h41) ?_
                  rw [← eL, ← eS, ← eR, ← hrec, show c - i = (c - (i + 1)) + 1 by omega]
                  rfl
                · skip
                  refine x_iconst B (pc := 135) 1 dX4_toReceiver_135 (by decide) ?_
                  refine x_goto B (pc := 136) 140 dX4_toReceiver_136 (by decide) ?_
                  refine x_iadd B (pc := 140) dX4_toReceiver_140 ?_
                  refine x_istore_n B (pc := 141) [(2, .int (n1 + 1)), (4, .int (nI (16 * d + 2 * p + kd))), (3, .int (nI i)), (1, .int (nI c)), (0, .ref (am 0))] dX4_toReceiver_141 rfl (by decide) rfl ?_
                  refine x_iinc B (pc := 142) 2 (nI (i + 1)) [(3, .int (nI (i + 1))), (2, .int (n1 + 1)), (4, .int (nI (16 * d + 2 * p + kd))), (1, .int (nI c)), (0, .ref (am 0))] dX4_toReceiver_142 rfl (nI_1 i) (by decide) rfl ?_
                  refine x_goto B (pc := 145) 18 dX4_toReceiver_145 (by decide) ?_
                  refine x_lv B [0, 1, 3, 4] [(3, .int (nI (i + 1))), (2, .int (n1 + 1)), (1, .int (nI c)), (0, .ref (am 0))] rfl ?_
                  have ek : kd = 1 := by
                    have h9 := h121
                    first
                      | exact (nI_eq (b := 1) (by omega) (by decide)).mp h9
                      | (have h8 : kd ≠ 1 := fun e => h9 (congrArg nI e)
                         omega)
                  have eL : rcvL L1 S1 (kd, d, p) = rcvL L1 S1 (1, d, p) := by rw [ek]
                  have eS : rcvS S1 (kd, d, p) = aComeS S1 d p := by unfold rcvS; rw [if_neg hk2]
                  have eR : n1 + rcvR S1 (kd, d, p) = n1 + 1 := by unfold rcvR; rw [if_neg hk2]; first | rw [h132] | rw [show aComeR S1 d p = 1 from (aComeR_01 S1 d p).resolve_left h132]
                  refine ih (i + 1) (tf1 + 1) (rcvL L1 S1 (1, d, p)) (aComeS S1 d p) q2 (n1 + 1) (by omega) (by omega) (mg_tl hg) (fun x hx => hfr1 x (List.mem_cons_of_mem _ hx)) (by rw [← eL]; exact l16_rcv hL1) (by rw [← eS]; exact b11_rcv h111) (by rw [← eS]; exact (rcvS_k S1 _ (by decide)).trans h41) ?_
                  rw [← eL, ← eS, ← eR, ← hrec, show c - i = (c - (i + 1)) + 1 by omega]
                  rfl
    refine x_lv B [0, 1, 3, 2] [(3, .int (nI 0)), (2, .int 0), (1, .int (nI c)), (0, .ref (am 0))] rfl ?_
    exact hloop18 (c + 1) 0 tf L S qf 0 (Nat.zero_le _) (by omega) hq hfr hL h11 rfl rfl

set_option maxRecDepth 100000 in
set_option maxHeartbeats 4000000 in
theorem c_X4_toSender {l : Launch} (hl : l.stackTraces = false) (D : va_G) (e0 : Nat) {am : Nat → Nat} {N tf tt bf bt : Nat} {up op tr : Int32} {tn : Nat} {th : Int32} {L : xS} {S : xS} {tg : Nat → Int32} {bg : Nat → Int32} {qf qb : List xFr} {a : Int32} (hN : N ≤ 60) (hq : mgOk encF qf tf tt tg) (hqb : mgOk encB qb bf bt bg) (htt : tt + 100 < 2 ^ 30) (hbt : bt < 2 ^ 30) (hfr : (∀ x, x ∈ qb → (x.1 = 3 ∧ x.2.1 < 4 ∧ x.2.2 < 16) ∨ (x.1 = 4 ∧ x.2.1 < N ∧ x.2.2 < 4))) (hlen : qf.length + outs qb ≤ 2000) : xC l yX4_toSender (.code yX4_toSender cX4_toSender 6 (some .int)) ({ frames := 1, cells := 0, slots := 0, locals := 22 } : Room) D e0 [.ref (am 0), .int a] [moW am N tf tt bf bt up op tr tn th, mlW D am L, mdW D am S, rtW D am tg, rbW D am bg] (fun w cs => (cod (xinB 1 100 a) true true = 0 ∧ w = some (.int ((sndN (ix a) L S qf qb 0).2.2.2.2)) ∧ ∃ bf1 tt1 tg1, tt1 ≤ tt + 100 ∧ mgOk encF (sndN (ix a) L S qf qb 0).2.2.1 tf tt1 tg1 ∧ mgOk encB (sndN (ix a) L S qf qb 0).2.2.2.1 bf1 bt bg ∧ cs = [moW am N tf tt1 bf1 bt up op tr tn 0, mlW D am ((sndN (ix a) L S qf qb 0).1), mdW D am ((sndN (ix a) L S qf qb 0).2.1), rtW D am tg1, rbW D am bg]) ∨ (cod (xinB 1 100 a) true true ≠ 0 ∧ (∃ z, w = some (.int z)) ∧ cs = [moW am N tf tt bf bt up op tr tn (nI (cod (xinB 1 100 a) true true)), mlW D am L, mdW D am S, rtW D am tg, rbW D am bg])) (fun _ => False) := by
  refine xC_of hl (by decide +kernel) (Nat.le_of_ble_eq_true rfl) (fun G X F => ?_)
  have B : xB l D e0 "CreditLinksModel" cX4_toSender 6 (some .int) [] _ G X := F.base
  show G 0 [(0, .ref (am 0)), (1, .int a)] [] [moW am N tf tt bf bt up op tr tn th, mlW D am L, mdW D am S, rtW D am tg, rbW D am bg] 0 0
  refine x_iconst B (pc := 0) 0 dX4_toSender_0 (by decide) ?_
  refine x_istore_n B (pc := 1) [(2, .int 0), (0, .ref (am 0)), (1, .int a)] dX4_toSender_1 rfl (by decide) rfl ?_
  refine x_aload_n B (pc := 2) 1 dX4_toSender_2 rfl rfl ?_
  refine x_iload_n B (pc := 3) 2 dX4_toSender_3 rfl rfl ?_
  refine x_iconst B (pc := 4) 1 dX4_toSender_4 (by decide) ?_
  refine x_bipush B (pc := 5) 100 dX4_toSender_5 (by decide) ?_
  refine x_callS B (pc := 7) (As := [.int a, .int 1, .int 100]) (c_X4_in hl D e0 ) tm727 tm728 tm7 tm729 md_X4_in ⟨Nat.le_of_ble_eq_true rfl, Nat.le_of_ble_eq_true rfl⟩ [] rfl rfl rfl (Nat.le_of_ble_eq_true rfl) (Nat.le_of_ble_eq_true rfl) (Nat.le_of_ble_eq_true rfl) dX4_toSender_7 (fun E hE => False.elim hE) (fun v cs1 hp => ?_)
  obtain ⟨rfl, rfl⟩ := hp
  show G 10 [(2, .int 0), (0, .ref (am 0)), (1, .int a)] [.int (bz (xinB 1 100 a)), .ref (am 0)] [moW am N tf tt bf bt up op tr tn th, mlW D am L, mdW D am S, rtW D am tg, rbW D am bg] 0 0
  cases ha : xinB 1 100 a
  · skip
    refine x_callV B (pc := 10) (As := [.int 0]) (c_X4_asked hl D e0 (p := false)) xcl_M rfl 0 0 rfl rfl tm750 tm752 ts16 tm7 tm753 md_X4_asked ⟨Nat.le_of_ble_eq_true rfl, Nat.le_of_ble_eq_true rfl⟩ [0] rfl rfl rfl (Nat.le_of_ble_eq_true rfl) (Nat.le_of_ble_eq_true rfl) (Nat.le_of_ble_eq_true rfl) dX4_toSender_10 (fun E hE => False.elim hE) (fun v cs1 hp => ?_)
    obtain ⟨rfl, rfl⟩ := hp
    show G 13 [(2, .int 0), (0, .ref (am 0)), (1, .int a)] [.int 0] [moW am N tf tt bf bt up op tr tn (nI 1), mlW D am L, mdW D am S, rtW D am tg, rbW D am bg] 0 0
    refine x_if_eq B (pc := 13) 149 dX4_toSender_13 (by decide) (fun h13 => ?_) (fun h13 => absurd (by decide) h13)
    refine x_iload_n B (pc := 149) 0 dX4_toSender_149 rfl rfl ?_
    have hc : cod (xinB 1 100 a) true true = 1 := by first | (rw [ha]; rfl)
    exact x_iret F (pc := 150) rfl dX4_toSender_150 (Or.inr ⟨by rw [hc]; decide, ⟨_, rfl⟩, by rw [hc]⟩) (Nat.le_of_ble_eq_true rfl) (Nat.le_of_ble_eq_true rfl)
  · obtain ⟨c, hc1, hc2, rfl⟩ := xinB_t ha (by decide) (by decide)
    have ec : ix (nI c) = c := ix_nI (by omega)
    refine x_callV B (pc := 10) (As := [.int 1]) (c_X4_asked hl D e0 (p := true)) xcl_M rfl 0 0 rfl rfl tm750 tm752 ts16 tm7 tm753 md_X4_asked ⟨Nat.le_of_ble_eq_true rfl, Nat.le_of_ble_eq_true rfl⟩ [0] rfl rfl rfl (Nat.le_of_ble_eq_true rfl) (Nat.le_of_ble_eq_true rfl) (Nat.le_of_ble_eq_true rfl) dX4_toSender_10 (fun E hE => False.elim hE) (fun v cs1 hp => ?_)
    obtain ⟨rfl, rfl⟩ := hp
    show G 13 [(2, .int 0), (0, .ref (am 0)), (1, .int (nI c))] [.int 1] [moW am N tf tt bf bt up op tr tn 0, mlW D am L, mdW D am S, rtW D am tg, rbW D am bg] 0 0
    refine x_if_eq B (pc := 13) 149 dX4_toSender_13 (by decide) (fun h13 => absurd h13 (by decide)) (fun h13 => ?_)
    refine x_iconst B (pc := 16) 0 dX4_toSender_16 (by decide) ?_
    refine x_val B (y := nI 0) rfl ?_
    refine x_istore_n B (pc := 17) [(3, .int (nI 0)), (2, .int 0), (0, .ref (am 0)), (1, .int (nI c))] dX4_toSender_17 rfl (by decide) rfl ?_
    have hloop18 : ∀ (fu : Nat) (i bf1 tt1 : Nat) (tg1 : Nat → Int32) (L1 S1 : xS) (q1 b1 : List xFr) (n1 : Int32), i ≤ c → c + 1 ≤ i + fu → mgOk encB b1 bf1 bt bg → mgOk encF q1 tf tt1 tg1 → (∀ x, x ∈ b1 → (x.1 = 3 ∧ x.2.1 < 4 ∧ x.2.2 < 16) ∨ (x.1 = 4 ∧ x.2.1 < N ∧ x.2.2 < 4)) → q1.length + outs b1 ≤ 2000 → tt1 ≤ tt + i → S1 5 = S 5 → sndN (c - i) L1 S1 q1 b1 n1 = sndN c L S qf qb 0 → G 18 [(3, .int (nI i)), (2, .int n1), (1, .int (nI c)), (0, .ref (am 0))] [] [moW am N tf tt1 bf1 bt up op tr tn 0, mlW D am L1, mdW D am S1, rtW D am tg1, rbW D am bg] 0 0 := by
      intro fu
      induction fu with
      | zero =>
        intro i bf1 tt1 tg1 L1 S1 q1 b1 n1 hi hfu hgb hgf hfr1 hln ht1 h51 hrec
        omega
      | succ fu ih =>
        intro i bf1 tt1 tg1 L1 S1 q1 b1 n1 hi hfu hgb hgf hfr1 hln ht1 h51 hrec
        refine x_iload_n B (pc := 18) 0 dX4_toSender_18 rfl rfl ?_
        refine x_iload_n B (pc := 19) 2 dX4_toSender_19 rfl rfl ?_
        refine x_icmp_ge B (pc := 20) 149 dX4_toSender_20 (by decide) (fun h20 => ?_) (fun h20 => ?_)
        · skip
          have hge : c - i = 0 := by
            have := (nI_leI (by omega) (by omega)).mp h20
            omega
          rw [hge] at hrec
          have hend : sndN c L S qf qb 0 = (L1, S1, q1, b1, n1) := hrec.symm
          refine x_iload_n B (pc := 149) 1 dX4_toSender_149 rfl rfl ?_
          exact x_iret F (pc := 150) rfl dX4_toSender_150 (Or.inl ⟨by rw [ha]; rfl, by rw [ec, hend], bf1, tt1, tg1, by omega, by rw [ec, hend]; exact hgf, by rw [ec, hend]; exact hgb, by rw [ec, hend]⟩) (Nat.le_of_ble_eq_true rfl) (Nat.le_of_ble_eq_true rfl)
        · skip
          have hlt : i < c := Nat.lt_of_not_le (fun e => h20 (nI_le e (by omega)))
          rcases b1 with _ | ⟨⟨kd, s9, v9⟩, q2⟩
          · have etf := hgb.1
            rw [show ([] : List xFr).length = 0 from rfl] at etf
            refine x_aload_n B (pc := 23) 3 dX4_toSender_23 rfl rfl ?_
            refine x_get B (pc := 24) (v := .int (nI bf1)) xcl_M 0 0 20 rfl rfl (by decide) tm650 rfl rfl dX4_toSender_24 ?_
            refine x_aload_n B (pc := 27) 3 dX4_toSender_27 rfl rfl ?_
            refine x_get B (pc := 28) (v := .int (nI bt)) xcl_M 0 0 21 rfl rfl (by decide) tm651 rfl rfl dX4_toSender_28 ?_
            refine x_icmp_ge B (pc := 31) 149 dX4_toSender_31 (by decide) (fun h31 => ?_) (fun h31 => absurd (nI_le (by omega) (by omega)) h31)
            refine x_iload_n B (pc := 149) 1 dX4_toSender_149 rfl rfl ?_
            have hnil : sndN c L S qf qb 0 = (L1, S1, q1, [], n1) := hrec.symm.trans (sndN_nil _ _ _ _ _)
            exact x_iret F (pc := 150) rfl dX4_toSender_150 (Or.inl ⟨by rw [ha]; rfl, by rw [ec, hnil], bf1, tt1, tg1, by omega, by rw [ec, hnil]; exact hgf, by rw [ec, hnil]; exact hgb, by rw [ec, hnil]⟩) (Nat.le_of_ble_eq_true rfl) (Nat.le_of_ble_eq_true rfl)
          · have etf := hgb.1
            rw [List.length_cons] at etf
            have hlq := hgf.2.1
            refine x_aload_n B (pc := 23) 3 dX4_toSender_23 rfl rfl ?_
            refine x_get B (pc := 24) (v := .int (nI bf1)) xcl_M 0 0 20 rfl rfl (by decide) tm650 rfl rfl dX4_toSender_24 ?_
            refine x_aload_n B (pc := 27) 3 dX4_toSender_27 rfl rfl ?_
            refine x_get B (pc := 28) (v := .int (nI bt)) xcl_M 0 0 21 rfl rfl (by decide) tm651 rfl rfl dX4_toSender_28 ?_
            refine x_icmp_ge B (pc := 31) 149 dX4_toSender_31 (by decide) (fun h31 => absurd h31 (nI_ge (by omega) (by omega))) (fun h31 => ?_)
            refine x_aload_n B (pc := 34) 3 dX4_toSender_34 rfl rfl ?_
            refine x_get B (pc := 35) xcl_M 0 0 19 rfl rfl (by decide) tm649 rfl rfl dX4_toSender_35 ?_
            refine x_aload_n B (pc := 38) 3 dX4_toSender_38 rfl rfl ?_
            refine x_get B (pc := 39) (v := .int (nI bf1)) xcl_M 0 0 20 rfl rfl (by decide) tm650 rfl rfl dX4_toSender_39 ?_
            refine x_sipush B (pc := 42) 2048 dX4_toSender_42 (by decide) ?_
            refine x_irem B (pc := 45) dX4_toSender_45 (by decide) ?_
            refine x_val B (y := nI (bf1 % 2048)) (pk_rem (d := 2048) (by omega) (by decide) (by decide)) ?_
            refine x_ialdN B (pc := 46) (bf1 % 2048) 4 0 (Nat.mod_lt _ (by decide)) (by decide) rfl rfl dX4_toSender_46 ?_
            refine x_val B (y := encB (kd, s9, v9)) (mg_hd hgb) ?_
            have hk9 := hfr1 _ (List.mem_cons_self (a := (kd, s9, v9)))
            have hk9 : (kd = 3 ∧ s9 < 4 ∧ v9 < 16) ∨ (kd = 4 ∧ s9 < N ∧ v9 < 4) := hk9
            have hlo : q1.length + ((if kd = 4 then 1 else 0) + outs q2) ≤ 2000 := hln
            by_cases hk3 : kd = 3
            · obtain ⟨hs4, hv16⟩ : s9 < 4 ∧ v9 < 16 := by omega
              refine x_val B (y := (-1) - nI (16 * s9 + v9)) (by rw [hk3]; exact encB_3) ?_
              refine x_istore B (pc := 47) [(4, .int ((-1) - nI (16 * s9 + v9))), (3, .int (nI i)), (2, .int n1), (1, .int (nI c)), (0, .ref (am 0))] dX4_toSender_47 (by decide) rfl ?_
              refine x_aload_n B (pc := 49) 4 dX4_toSender_49 rfl rfl ?_
              refine x_dup B (pc := 50) dX4_toSender_50 rfl ?_
              refine x_get B (pc := 51) (v := .int (nI bf1)) xcl_M 0 0 20 rfl rfl (by decide) tm650 rfl rfl dX4_toSender_51 ?_
              refine x_iconst B (pc := 54) 1 dX4_toSender_54 (by decide) ?_
              refine x_iadd B (pc := 55) dX4_toSender_55 ?_
              refine x_val B (y := nI (bf1 + 1)) (nI_1 bf1) ?_
              refine x_put B (pc := 56) xcl_M 0 0 20 [moW am N tf tt1 (bf1 + 1) bt up op tr tn 0, mlW D am L1, mdW D am S1, rtW D am tg1, rbW D am bg] rfl rfl (by decide) tm650 rfl rfl rfl rfl rfl (Nat.le_of_ble_eq_true rfl) rfl rfl dX4_toSender_56 ?_
              refine x_iload B (pc := 59) 0 dX4_toSender_59 rfl ?_
              refine x_if_ge B (pc := 61) 86 dX4_toSender_61 (by decide) (fun h61 => absurd h61 (Int32.not_le.mpr (neg_lt (by omega)))) (fun h61 => ?_)
              refine x_aload_n B (pc := 64) 4 dX4_toSender_64 rfl rfl ?_
              refine x_get B (pc := 65) xcl_M 0 0 2 rfl rfl (by decide) tm632 rfl rfl dX4_toSender_65 ?_
              refine x_iconst B (pc := 68) (-1) dX4_toSender_68 (by decide) ?_
              refine x_iload B (pc := 69) 0 dX4_toSender_69 rfl ?_
              refine x_isub B (pc := 71) dX4_toSender_71 ?_
              refine x_val B (y := nI (16 * s9 + v9)) (neg_neg _) ?_
              refine x_bipush B (pc := 72) 16 dX4_toSender_72 (by decide) ?_
              refine x_idiv B (pc := 74) dX4_toSender_74 (by decide) ?_
              refine x_val B (y := nI s9) (enb_l hs4 hv16) ?_
              refine x_iconst B (pc := 75) (-1) dX4_toSender_75 (by decide) ?_
              refine x_iload B (pc := 76) 0 dX4_toSender_76 rfl ?_
              refine x_isub B (pc := 78) dX4_toSender_78 ?_
              refine x_val B (y := nI (16 * s9 + v9)) (neg_neg _) ?_
              refine x_bipush B (pc := 79) 16 dX4_toSender_79 (by decide) ?_
              refine x_irem B (pc := 81) dX4_toSender_81 (by decide) ?_
              refine x_val B (y := nI v9) (enb_v hs4 hv16) ?_
              refine x_iastN B (pc := 82) s9 1 2 [moW am N tf tt1 (bf1 + 1) bt up op tr tn 0, mlW D am (xup L1 2 s9 (nI v9)), mdW D am S1, rtW D am tg1, rbW D am bg] hs4 (by decide) rfl rfl ml_set2 rfl dX4_toSender_82 ?_
              refine x_goto B (pc := 83) 143 dX4_toSender_83 (by decide) ?_
              refine x_iinc B (pc := 143) 1 (nI (i + 1)) [(3, .int (nI (i + 1))), (4, .int ((-1) - nI (16 * s9 + v9))), (2, .int n1), (1, .int (nI c)), (0, .ref (am 0))] dX4_toSender_143 rfl (nI_1 i) (by decide) rfl ?_
              refine x_goto B (pc := 146) 18 dX4_toSender_146 (by decide) ?_
              refine x_lv B [0, 2, 3, 4] [(3, .int (nI (i + 1))), (2, .int n1), (1, .int (nI c)), (0, .ref (am 0))] rfl ?_
              have eL : sndL L1 (kd, s9, v9) = xup L1 2 s9 (nI v9) := by unfold sndL; rw [if_pos hk3]
              have eS : sndS S1 (kd, s9, v9) = S1 := by unfold sndS; rw [if_pos hk3]
              have eQ : sndQ S1 (kd, s9, v9) q1 = q1 := by unfold sndQ; rw [if_pos hk3]
              have eR : n1 + sndR S1 (kd, s9, v9) = n1 := by unfold sndR; rw [if_pos hk3, Int32.add_zero]
              have hgq : mgOk encF (sndQ S1 (kd, s9, v9) q1) tf tt1 tg1 := by rw [eQ]; exact hgf
              refine ih (i + 1) (bf1 + 1) _ _ (xup L1 2 s9 (nI v9)) (S1) (sndQ S1 (kd, s9, v9) q1) q2 (n1) (by omega) (by omega) (mg_tl hgb) hgq (fun x hx => hfr1 x (List.mem_cons_of_mem _ hx)) (Nat.le_trans (sndQ_len S1 (kd, s9, v9) q1 q2 (by show kd = 3 ∨ kd = 4; omega)) hln) (by omega) (by rw [← eS]; exact (sndS_k S1 _ (by decide)).trans h51) ?_
              have hstep : sndN (c - i) L1 S1 q1 ((kd, s9, v9) :: q2) n1 = sndN (c - (i + 1)) (sndL L1 (kd, s9, v9)) (sndS S1 (kd, s9, v9)) (sndQ S1 (kd, s9, v9) q1) q2 (n1 + sndR S1 (kd, s9, v9)) := by
                rw [show c - i = (c - (i + 1)) + 1 by omega]
                rfl
              rw [eL, eS, eR] at hstep
              exact hstep.symm.trans hrec
            · obtain ⟨hk4, hsN, hv4⟩ : kd = 4 ∧ s9 < N ∧ v9 < 4 := by omega
              have hs6 : s9 < 60 := by omega
              refine x_val B (y := nI (4 * s9 + v9)) (by rw [hk4]; exact encB_4) ?_
              refine x_istore B (pc := 47) [(4, .int (nI (4 * s9 + v9))), (3, .int (nI i)), (2, .int n1), (1, .int (nI c)), (0, .ref (am 0))] dX4_toSender_47 (by decide) rfl ?_
              refine x_aload_n B (pc := 49) 4 dX4_toSender_49 rfl rfl ?_
              refine x_dup B (pc := 50) dX4_toSender_50 rfl ?_
              refine x_get B (pc := 51) (v := .int (nI bf1)) xcl_M 0 0 20 rfl rfl (by decide) tm650 rfl rfl dX4_toSender_51 ?_
              refine x_iconst B (pc := 54) 1 dX4_toSender_54 (by decide) ?_
              refine x_iadd B (pc := 55) dX4_toSender_55 ?_
              refine x_val B (y := nI (bf1 + 1)) (nI_1 bf1) ?_
              refine x_put B (pc := 56) xcl_M 0 0 20 [moW am N tf tt1 (bf1 + 1) bt up op tr tn 0, mlW D am L1, mdW D am S1, rtW D am tg1, rbW D am bg] rfl rfl (by decide) tm650 rfl rfl rfl rfl rfl (Nat.le_of_ble_eq_true rfl) rfl rfl dX4_toSender_56 ?_
              refine x_iload B (pc := 59) 0 dX4_toSender_59 rfl ?_
              refine x_if_ge B (pc := 61) 86 dX4_toSender_61 (by decide) (fun h61 => ?_) (fun h61 => absurd (show nI 0 ≤ nI (4 * s9 + v9) from nI_le (Nat.zero_le _) (by omega)) h61)
              refine x_iload B (pc := 86) 0 dX4_toSender_86 rfl ?_
              refine x_iconst B (pc := 88) 4 dX4_toSender_88 (by decide) ?_
              refine x_idiv B (pc := 89) dX4_toSender_89 (by decide) ?_
              refine x_val B (y := nI s9) (enb_d hs6 hv4) ?_
              refine x_istore B (pc := 90) [(5, .int (nI s9)), (4, .int (nI (4 * s9 + v9))), (3, .int (nI i)), (2, .int n1), (1, .int (nI c)), (0, .ref (am 0))] dX4_toSender_90 (by decide) rfl ?_
              refine x_aload_n B (pc := 92) 5 dX4_toSender_92 rfl rfl ?_
              refine x_get B (pc := 93) xcl_M 0 0 7 rfl rfl (by decide) tm637 rfl rfl dX4_toSender_93 ?_
              refine x_iload B (pc := 96) 0 dX4_toSender_96 rfl ?_
              refine x_ialdN B (pc := 98) s9 2 3 hs6 (by decide) rfl rfl dX4_toSender_98 ?_
              refine x_if_ne B (pc := 99) 124 dX4_toSender_99 (by decide) (fun h99 => ?_) (fun h99 => ?_)
              · skip
                refine x_aload_n B (pc := 124) 5 dX4_toSender_124 rfl rfl ?_
                refine x_get B (pc := 125) xcl_M 0 0 5 rfl rfl (by decide) tm635 rfl rfl dX4_toSender_125 ?_
                refine x_iload B (pc := 128) 0 dX4_toSender_128 rfl ?_
                refine x_ialdN B (pc := 130) s9 2 1 hs6 (by decide) rfl rfl dX4_toSender_130 ?_
                refine x_iconst B (pc := 131) 2 dX4_toSender_131 (by decide) ?_
                refine x_icmp_ne B (pc := 132) 143 dX4_toSender_132 (by decide) (fun h132 => ?_) (fun h132 => ?_)
                · skip
                  refine x_iinc B (pc := 143) 2 (nI (i + 1)) [(3, .int (nI (i + 1))), (5, .int (nI s9)), (4, .int (nI (4 * s9 + v9))), (2, .int n1), (1, .int (nI c)), (0, .ref (am 0))] dX4_toSender_143 rfl (nI_1 i) (by decide) rfl ?_
                  refine x_goto B (pc := 146) 18 dX4_toSender_146 (by decide) ?_
                  refine x_lv B [0, 3, 4, 5] [(3, .int (nI (i + 1))), (2, .int n1), (1, .int (nI c)), (0, .ref (am 0))] rfl ?_
                  have eL : sndL L1 (kd, s9, v9) = L1 := by unfold sndL; rw [if_neg hk3]
                  have eS : sndS S1 (kd, s9, v9) = S1 := by unfold sndS aSetS; rw [if_neg hk3]; first | rw [if_pos h99] | rw [if_neg h99]
                  have eR : n1 + sndR S1 (kd, s9, v9) = n1 := by unfold sndR aSetR; rw [if_neg hk3]; first | rw [if_pos h99] | rw [if_neg h99, Int32.add_zero]
                  have eQ : sndQ S1 (kd, s9, v9) q1 = q1 := by unfold sndQ; rw [if_neg hk3, if_neg h132]
                  have hgq : mgOk encF (sndQ S1 (kd, s9, v9) q1) tf tt1 tg1 := by rw [eQ]; exact hgf
                  refine ih (i + 1) (bf1 + 1) _ _ (L1) (S1) (sndQ S1 (kd, s9, v9) q1) q2 (n1) (by omega) (by omega) (mg_tl hgb) hgq (fun x hx => hfr1 x (List.mem_cons_of_mem _ hx)) (Nat.le_trans (sndQ_len S1 (kd, s9, v9) q1 q2 (by show kd = 3 ∨ kd = 4; omega)) hln) (by omega) (by rw [← eS]; exact (sndS_k S1 _ (by decide)).trans h51) ?_
                  have hstep : sndN (c - i) L1 S1 q1 ((kd, s9, v9) :: q2) n1 = sndN (c - (i + 1)) (sndL L1 (kd, s9, v9)) (sndS S1 (kd, s9, v9)) (sndQ S1 (kd, s9, v9) q1) q2 (n1 + sndR S1 (kd, s9, v9)) := by
                    rw [show c - i = (c - (i + 1)) + 1 by omega]
                    rfl
                  rw [eL, eS, eR] at hstep
                  exact hstep.symm.trans hrec
                · skip
                  refine x_aload_n B (pc := 135) 5 dX4_toSender_135 rfl rfl ?_
                  refine x_iconst B (pc := 136) (-1) dX4_toSender_136 (by decide) ?_
                  refine x_iload B (pc := 137) 0 dX4_toSender_137 rfl ?_
                  refine x_isub B (pc := 139) dX4_toSender_139 ?_
                  refine x_callV B (pc := 140) (As := [.int ((-1) - (nI s9))]) (c_X4_goes hl D e0 (by omega)) xcl_M rfl 0 0 rfl rfl tm766 tm768 ts19 tm7 tm769 md_X4_goes ⟨Nat.le_of_ble_eq_true rfl, Nat.le_of_ble_eq_true rfl⟩ [0, 3] rfl rfl rfl (Nat.le_of_ble_eq_true rfl) (Nat.le_of_ble_eq_true rfl) (Nat.le_of_ble_eq_true rfl) dX4_toSender_140 (fun E hE => False.elim hE) (fun v cs1 hp => ?_)
                  obtain ⟨rfl, rfl⟩ := hp
                  show G 143 [(5, .int (nI s9)), (4, .int (nI (4 * s9 + v9))), (3, .int (nI i)), (2, .int n1), (1, .int (nI c)), (0, .ref (am 0))] [] [moW am N tf (tt1 + 1) (bf1 + 1) bt up op tr tn 0, mlW D am L1, mdW D am S1, rtW D am (upd tg1 (tt1 % 2048) ((-1) - (nI s9))), rbW D am bg] 0 0
                  refine x_iinc B (pc := 143) 2 (nI (i + 1)) [(3, .int (nI (i + 1))), (5, .int (nI s9)), (4, .int (nI (4 * s9 + v9))), (2, .int n1), (1, .int (nI c)), (0, .ref (am 0))] dX4_toSender_143 rfl (nI_1 i) (by decide) rfl ?_
                  refine x_goto B (pc := 146) 18 dX4_toSender_146 (by decide) ?_
                  refine x_lv B [0, 3, 4, 5] [(3, .int (nI (i + 1))), (2, .int n1), (1, .int (nI c)), (0, .ref (am 0))] rfl ?_
                  have eL : sndL L1 (kd, s9, v9) = L1 := by unfold sndL; rw [if_neg hk3]
                  have eS : sndS S1 (kd, s9, v9) = S1 := by unfold sndS aSetS; rw [if_neg hk3]; first | rw [if_pos h99] | rw [if_neg h99]
                  have eR : n1 + sndR S1 (kd, s9, v9) = n1 := by unfold sndR aSetR; rw [if_neg hk3]; first | rw [if_pos h99] | rw [if_neg h99, Int32.add_zero]
                  have eQ : sndQ S1 (kd, s9, v9) q1 = q1 ++ [(2, s9, 0)] := by unfold sndQ; rw [if_neg hk3, if_pos h132]
                  have hgq : mgOk encF (sndQ S1 (kd, s9, v9) q1) tf (tt1 + 1) (upd tg1 (tt1 % 2048) ((-1) - (nI s9))) := by rw [eQ]; exact mg_add hgf (by omega) encF_2.symm
                  refine ih (i + 1) (bf1 + 1) _ _ (L1) (S1) (sndQ S1 (kd, s9, v9) q1) q2 (n1) (by omega) (by omega) (mg_tl hgb) hgq (fun x hx => hfr1 x (List.mem_cons_of_mem _ hx)) (Nat.le_trans (sndQ_len S1 (kd, s9, v9) q1 q2 (by show kd = 3 ∨ kd = 4; omega)) hln) (by omega) (by rw [← eS]; exact (sndS_k S1 _ (by decide)).trans h51) ?_
                  have hstep : sndN (c - i) L1 S1 q1 ((kd, s9, v9) :: q2) n1 = sndN (c - (i + 1)) (sndL L1 (kd, s9, v9)) (sndS S1 (kd, s9, v9)) (sndQ S1 (kd, s9, v9) q1) q2 (n1 + sndR S1 (kd, s9, v9)) := by
                    rw [show c - i = (c - (i + 1)) + 1 by omega]
                    rfl
                  rw [eL, eS, eR] at hstep
                  exact hstep.symm.trans hrec
              · skip
                refine x_aload_n B (pc := 102) 5 dX4_toSender_102 rfl rfl ?_
                refine x_get B (pc := 103) xcl_M 0 0 7 rfl rfl (by decide) tm637 rfl rfl dX4_toSender_103 ?_
                refine x_iload B (pc := 106) 0 dX4_toSender_106 rfl ?_
                refine x_iconst B (pc := 108) 1 dX4_toSender_108 (by decide) ?_
                refine x_iastN B (pc := 109) s9 2 3 [moW am N tf tt1 (bf1 + 1) bt up op tr tn 0, mlW D am L1, mdW D am (xup S1 7 s9 1), rtW D am tg1, rbW D am bg] hs6 (by decide) rfl rfl md_set7 rfl dX4_toSender_109 ?_
                refine x_aload_n B (pc := 110) 5 dX4_toSender_110 rfl rfl ?_
                refine x_get B (pc := 111) xcl_M 0 0 8 rfl rfl (by decide) tm638 rfl rfl dX4_toSender_111 ?_
                refine x_iload B (pc := 114) 0 dX4_toSender_114 rfl ?_
                refine x_iload B (pc := 116) 1 dX4_toSender_116 rfl ?_
                refine x_iconst B (pc := 118) 4 dX4_toSender_118 (by decide) ?_
                refine x_irem B (pc := 119) dX4_toSender_119 (by decide) ?_
                refine x_val B (y := nI v9) (enb_o hs6 hv4) ?_
                refine x_iastN B (pc := 120) s9 2 4 [moW am N tf tt1 (bf1 + 1) bt up op tr tn 0, mlW D am L1, mdW D am (xup (xup S1 7 s9 1) 8 s9 (nI v9)), rtW D am tg1, rbW D am bg] hs6 (by decide) rfl rfl md_set8 rfl dX4_toSender_120 ?_
                refine x_iinc B (pc := 121) 3 (n1 + 1) [(2, .int (n1 + 1)), (5, .int (nI s9)), (4, .int (nI (4 * s9 + v9))), (3, .int (nI i)), (1, .int (nI c)), (0, .ref (am 0))] dX4_toSender_121 rfl rfl (by decide) rfl ?_
                refine x_aload_n B (pc := 124) 5 dX4_toSender_124 rfl rfl ?_
                refine x_get B (pc := 125) xcl_M 0 0 5 rfl rfl (by decide) tm635 rfl rfl dX4_toSender_125 ?_
                refine x_iload B (pc := 128) 1 dX4_toSender_128 rfl ?_
                refine x_ialdN B (pc := 130) s9 2 1 hs6 (by decide) rfl rfl dX4_toSender_130 ?_
                refine x_val B (y := S1 5 s9) rfl ?_
                refine x_iconst B (pc := 131) 2 dX4_toSender_131 (by decide) ?_
                refine x_icmp_ne B (pc := 132) 143 dX4_toSender_132 (by decide) (fun h132 => ?_) (fun h132 => ?_)
                · skip
                  refine x_iinc B (pc := 143) 3 (nI (i + 1)) [(3, .int (nI (i + 1))), (2, .int (n1 + 1)), (5, .int (nI s9)), (4, .int (nI (4 * s9 + v9))), (1, .int (nI c)), (0, .ref (am 0))] dX4_toSender_143 rfl (nI_1 i) (by decide) rfl ?_
                  refine x_goto B (pc := 146) 18 dX4_toSender_146 (by decide) ?_
                  refine x_lv B [0, 1, 4, 5] [(3, .int (nI (i + 1))), (2, .int (n1 + 1)), (1, .int (nI c)), (0, .ref (am 0))] rfl ?_
                  have eL : sndL L1 (kd, s9, v9) = L1 := by unfold sndL; rw [if_neg hk3]
                  have eS : sndS S1 (kd, s9, v9) = xup (xup S1 7 s9 1) 8 s9 (nI v9) := by unfold sndS aSetS; rw [if_neg hk3]; first | rw [if_pos h99] | rw [if_neg h99]
                  have eR : n1 + sndR S1 (kd, s9, v9) = n1 + 1 := by unfold sndR aSetR; rw [if_neg hk3]; first | rw [if_pos h99] | rw [if_neg h99, Int32.add_zero]
                  have eQ : sndQ S1 (kd, s9, v9) q1 = q1 := by unfold sndQ; rw [if_neg hk3, if_neg h132]
                  have hgq : mgOk encF (sndQ S1 (kd, s9, v9) q1) tf tt1 tg1 := by rw [eQ]; exact hgf
                  refine ih (i + 1) (bf1 + 1) _ _ (L1) (xup (xup S1 7 s9 1) 8 s9 (nI v9)) (sndQ S1 (kd, s9, v9) q1) q2 (n1 + 1) (by omega) (by omega) (mg_tl hgb) hgq (fun x hx => hfr1 x (List.mem_cons_of_mem _ hx)) (Nat.le_trans (sndQ_len S1 (kd, s9, v9) q1 q2 (by show kd = 3 ∨ kd = 4; omega)) hln) (by omega) (by rw [← eS]; exact (sndS_k S1 _ (by decide)).trans h51) ?_
                  have hstep : sndN (c - i) L1 S1 q1 ((kd, s9, v9) :: q2) n1 = sndN (c - (i + 1)) (sndL L1 (kd, s9, v9)) (sndS S1 (kd, s9, v9)) (sndQ S1 (kd, s9, v9) q1) q2 (n1 + sndR S1 (kd, s9, v9)) := by
                    rw [show c - i = (c - (i + 1)) + 1 by omega]
                    rfl
                  rw [eL, eS, eR] at hstep
                  exact hstep.symm.trans hrec
                · skip
                  refine x_aload_n B (pc := 135) 5 dX4_toSender_135 rfl rfl ?_
                  refine x_iconst B (pc := 136) (-1) dX4_toSender_136 (by decide) ?_
                  refine x_iload B (pc := 137) 1 dX4_toSender_137 rfl ?_
                  refine x_isub B (pc := 139) dX4_toSender_139 ?_
                  refine x_callV B (pc := 140) (As := [.int ((-1) - (nI s9))]) (c_X4_goes hl D e0 (by omega)) xcl_M rfl 0 0 rfl rfl tm766 tm768 ts19 tm7 tm769 md_X4_goes ⟨Nat.le_of_ble_eq_true rfl, Nat.le_of_ble_eq_true rfl⟩ [0, 3] rfl rfl rfl (Nat.le_of_ble_eq_true rfl) (Nat.le_of_ble_eq_true rfl) (Nat.le_of_ble_eq_true rfl) dX4_toSender_140 (fun E hE => False.elim hE) (fun v cs1 hp => ?_)
                  obtain ⟨rfl, rfl⟩ := hp
                  show G 143 [(2, .int (n1 + 1)), (5, .int (nI s9)), (4, .int (nI (4 * s9 + v9))), (3, .int (nI i)), (1, .int (nI c)), (0, .ref (am 0))] [] [moW am N tf (tt1 + 1) (bf1 + 1) bt up op tr tn 0, mlW D am L1, mdW D am (xup (xup S1 7 s9 1) 8 s9 (nI v9)), rtW D am (upd tg1 (tt1 % 2048) ((-1) - (nI s9))), rbW D am bg] 0 0
                  refine x_iinc B (pc := 143) 3 (nI (i + 1)) [(3, .int (nI (i + 1))), (2, .int (n1 + 1)), (5, .int (nI s9)), (4, .int (nI (4 * s9 + v9))), (1, .int (nI c)), (0, .ref (am 0))] dX4_toSender_143 rfl (nI_1 i) (by decide) rfl ?_
                  refine x_goto B (pc := 146) 18 dX4_toSender_146 (by decide) ?_
                  refine x_lv B [0, 1, 4, 5] [(3, .int (nI (i + 1))), (2, .int (n1 + 1)), (1, .int (nI c)), (0, .ref (am 0))] rfl ?_
                  have eL : sndL L1 (kd, s9, v9) = L1 := by unfold sndL; rw [if_neg hk3]
                  have eS : sndS S1 (kd, s9, v9) = xup (xup S1 7 s9 1) 8 s9 (nI v9) := by unfold sndS aSetS; rw [if_neg hk3]; first | rw [if_pos h99] | rw [if_neg h99]
                  have eR : n1 + sndR S1 (kd, s9, v9) = n1 + 1 := by unfold sndR aSetR; rw [if_neg hk3]; first | rw [if_pos h99] | rw [if_neg h99, Int32.add_zero]
                  have eQ : sndQ S1 (kd, s9, v9) q1 = q1 ++ [(2, s9, 0)] := by unfold sndQ; rw [if_neg hk3, if_pos h132]
                  have hgq : mgOk encF (sndQ S1 (kd, s9, v9) q1) tf (tt1 + 1) (upd tg1 (tt1 % 2048) ((-1) - (nI s9))) := by rw [eQ]; exact mg_add hgf (by omega) encF_2.symm
                  refine ih (i + 1) (bf1 + 1) _ _ (L1) (xup (xup S1 7 s9 1) 8 s9 (nI v9)) (sndQ S1 (kd, s9, v9) q1) q2 (n1 + 1) (by omega) (by omega) (mg_tl hgb) hgq (fun x hx => hfr1 x (List.mem_cons_of_mem _ hx)) (Nat.le_trans (sndQ_len S1 (kd, s9, v9) q1 q2 (by show kd = 3 ∨ kd = 4; omega)) hln) (by omega) (by rw [← eS]; exact (sndS_k S1 _ (by decide)).trans h51) ?_
                  have hstep : sndN (c - i) L1 S1 q1 ((kd, s9, v9) :: q2) n1 = sndN (c - (i + 1)) (sndL L1 (kd, s9, v9)) (sndS S1 (kd, s9, v9)) (sndQ S1 (kd, s9, v9) q1) q2 (n1 + sndR S1 (kd, s9, v9)) := by
                    rw [show c - i = (c - (i + 1)) + 1 by omega]
                    rfl
                  rw [eL, eS, eR] at hstep
                  exact hstep.symm.trans hrec
    refine x_lv B [0, 1, 3, 2] [(3, .int (nI 0)), (2, .int 0), (1, .int (nI c)), (0, .ref (am 0))] rfl ?_
    exact hloop18 (c + 1) 0 bf tt tg L S qf qb 0 (Nat.zero_le _) (by omega) hqb hq hfr hlen (Nat.le_refl _) rfl rfl

set_option maxRecDepth 100000 in
set_option maxHeartbeats 4000000 in
theorem c_X4_join {l : Launch} (hl : l.stackTraces = false) (D : va_G) (e0 : Nat) {am : Nat → Nat} {N tf tt bf bt : Nat} {up op tr : Int32} {tn : Nat} {th : Int32} {L : xS} {S : xS} {tg : Nat → Int32} {qf : List xFr} (hup : up = 0 ∨ up = 1) (hN : N ≤ 60) (hq : mgOk encF qf tf tt tg) (hql : qf.length + 4 * N ≤ 2048) (htt : tt + 4 * N < 2 ^ 30) (h6 : ∀ d, d < N → ∃ m, m ≤ 4 ∧ S 6 d = nI m) (h9 : ∀ d, d < N → (S 9 d = 0 ∨ S 9 d = 1 ∨ S 9 d = 2 ∨ S 9 d = 3 ∨ S 9 d = 4)) (h7 : ∀ d, d < N → S 7 d = 0 ∨ S 7 d = 1) : xC l yX4_join (.code yX4_join cX4_join 3 (some .int)) ({ frames := 2, cells := 0, slots := 0, locals := 44 } : Room) D e0 [.ref (am 0)] [moW am N tf tt bf bt up op tr tn th, mlW D am L, mdW D am S, rtW D am tg] (fun w cs => (cod (decide (up = 0)) true true = 0 ∧ w = some (.int ((jn S qf N).2.2)) ∧ ∃ tt1 tg1, tt1 ≤ tt + 4 * N ∧ mgOk encF (jn S qf N).2.1 tf tt1 tg1 ∧ cs = [moW am N tf tt1 bf bt 1 op tr tn 0, mlW D am (jnL L 4), mdW D am ((jn S qf N).1), rtW D am tg1]) ∨ (cod (decide (up = 0)) true true ≠ 0 ∧ (∃ z, w = some (.int z)) ∧ cs = [moW am N tf tt bf bt up op tr tn (nI (cod (decide (up = 0)) true true)), mlW D am L, mdW D am S, rtW D am tg])) (fun _ => False) := by
  refine xC_of hl (by decide +kernel) (Nat.le_of_ble_eq_true rfl) (fun G X F => ?_)
  have B : xB l D e0 "CreditLinksModel" cX4_join 3 (some .int) [] _ G X := F.base
  show G 0 [(0, .ref (am 0))] [] [moW am N tf tt bf bt up op tr tn th, mlW D am L, mdW D am S, rtW D am tg] 0 0
  rcases hup with rfl | rfl
  · skip
    refine x_aload_n B (pc := 0) 0 dX4_join_0 rfl rfl ?_
    refine x_aload_n B (pc := 1) 0 dX4_join_1 rfl rfl ?_
    refine x_get B (pc := 2) (v := .int 0) xcl_M 0 0 22 rfl rfl (by decide) tm652 rfl rfl dX4_join_2 ?_
    refine x_if_ne B (pc := 5) 12 dX4_join_5 (by decide) (fun h5 => absurd (by decide) h5) (fun h5 => ?_)
    refine x_iconst B (pc := 8) 1 dX4_join_8 (by decide) ?_
    refine x_goto B (pc := 9) 13 dX4_join_9 (by decide) ?_
    refine x_callV B (pc := 13) (As := [.int 1]) (c_X4_asked hl D e0 (p := true)) xcl_M rfl 0 0 rfl rfl tm750 tm752 ts16 tm7 tm753 md_X4_asked ⟨Nat.le_of_ble_eq_true rfl, Nat.le_of_ble_eq_true rfl⟩ [0] rfl rfl rfl (Nat.le_of_ble_eq_true rfl) (Nat.le_of_ble_eq_true rfl) (Nat.le_of_ble_eq_true rfl) dX4_join_13 (fun E hE => False.elim hE) (fun v cs1 hp => ?_)
    obtain ⟨rfl, rfl⟩ := hp
    show G 16 [(0, .ref (am 0))] [.int 1] [moW am N tf tt bf bt 0 op tr tn 0, mlW D am L, mdW D am S, rtW D am tg] 0 0
    refine x_if_ne B (pc := 16) 21 dX4_join_16 (by decide) (fun h16 => ?_) (fun h16 => absurd h16 (by decide))
    refine x_aload_n B (pc := 21) 0 dX4_join_21 rfl rfl ?_
    refine x_iconst B (pc := 22) 1 dX4_join_22 (by decide) ?_
    refine x_put B (pc := 23) xcl_M 0 0 22 [moW am N tf tt bf bt 1 op tr tn 0, mlW D am L, mdW D am S, rtW D am tg] rfl rfl (by decide) tm652 rfl rfl rfl rfl rfl (Nat.le_of_ble_eq_true rfl) rfl rfl dX4_join_23 ?_
    refine x_iconst B (pc := 26) 0 dX4_join_26 (by decide) ?_
    refine x_val B (y := nI 0) rfl ?_
    refine x_istore_n B (pc := 27) [(1, .int (nI 0)), (0, .ref (am 0))] dX4_join_27 rfl (by decide) rfl ?_
    have hloop28 : ∀ (fu : Nat) (j : Nat), j ≤ 4 → 5 ≤ j + fu → G 28 [(1, .int (nI j)), (0, .ref (am 0))] [] [moW am N tf tt bf bt 1 op tr tn 0, mlW D am (jnL L j), mdW D am S, rtW D am tg] 0 0 := by
      intro fu
      induction fu with
      | zero =>
        intro j hj4 hfu
        omega
      | succ fu ih =>
        intro j hj4 hfu
        refine x_iload_n B (pc := 28) 0 dX4_join_28 rfl rfl ?_
        refine x_iconst B (pc := 29) 4 dX4_join_29 (by decide) ?_
        refine x_icmp_ge B (pc := 30) 63 dX4_join_30 (by decide) (fun h30 => ?_) (fun h30 => ?_)
        · skip
          have hge : j = 4 := by
            have := (nI_leI (b := j) (a := 4) (by omega) (by omega)).mp h30
            omega
          subst hge
          refine x_lv B [1] [(0, .ref (am 0))] rfl ?_
          refine x_iconst B (pc := 63) 0 dX4_join_63 (by decide) ?_
          refine x_istore_n B (pc := 64) [(1, .int 0), (0, .ref (am 0))] dX4_join_64 rfl (by decide) rfl ?_
          refine x_iconst B (pc := 65) 0 dX4_join_65 (by decide) ?_
          refine x_val B (y := nI 0) rfl ?_
          refine x_istore_n B (pc := 66) [(2, .int (nI 0)), (1, .int 0), (0, .ref (am 0))] dX4_join_66 rfl (by decide) rfl ?_
          have hloop67 : ∀ (fu : Nat) (i tt1 : Nat) (tg1 : Nat → Int32) (S1 : xS) (q1 : List xFr) (n1 : Int32), i ≤ N → N + 1 ≤ i + fu → mgOk encF q1 tf tt1 tg1 → tt1 ≤ tt + 4 * i → jn S qf i = (S1, q1, n1) → G 67 [(2, .int (nI i)), (1, .int n1), (0, .ref (am 0))] [] [moW am N tf tt1 bf bt 1 op tr tn 0, mlW D am (jnL L 4), mdW D am S1, rtW D am tg1] 0 0 := by
            intro fu
            induction fu with
            | zero =>
              intro i tt1 tg1 S1 q1 n1 hi hfu hg ht1 hrec
              omega
            | succ fu ih =>
              intro i tt1 tg1 S1 q1 n1 hi hfu hg ht1 hrec
              have hS1 : S1 = (jn S qf i).1 := by rw [hrec]
              have hq1 : q1 = (jn S qf i).2.1 := by rw [hrec]
              have hsuc : ∀ n2, n1 + aAnew (aBring S1 i) i = n2 → jn S qf (i + 1) = (aBring S1 i, jnQ S1 i q1, n2) := by
                intro n2 en
                show (aBring (jn S qf i).1 i, jnQ (jn S qf i).1 i (jn S qf i).2.1, (jn S qf i).2.2 + aAnew (aBring (jn S qf i).1 i) i) = _
                rw [hrec, ← en]
              refine x_iload_n B (pc := 67) 0 dX4_join_67 rfl rfl ?_
              refine x_aload_n B (pc := 68) 2 dX4_join_68 rfl rfl ?_
              refine x_get B (pc := 69) (v := .int (nI N)) xcl_M 0 0 15 rfl rfl (by decide) tm645 rfl rfl dX4_join_69 ?_
              refine x_icmp_ge B (pc := 72) 182 dX4_join_72 (by decide) (fun h72 => ?_) (fun h72 => ?_)
              · skip
                have hge : i = N := by
                  have := (nI_leI (by omega) (by omega)).mp h72
                  omega
                subst hge
                refine x_iload_n B (pc := 182) 1 dX4_join_182 rfl rfl ?_
                exact x_iret F (pc := 183) rfl dX4_join_183 (Or.inl ⟨rfl, by rw [hrec], tt1, tg1, ht1, by rw [hrec]; exact hg, by rw [hrec]⟩) (Nat.le_of_ble_eq_true rfl) (Nat.le_of_ble_eq_true rfl)
              · skip
                have hlt : i < N := Nat.lt_of_not_le (fun e => h72 (nI_le e (by omega)))
                have hi6 : i < 60 := by omega
                obtain ⟨m, hm4, em6⟩ := h6 i hlt
                have em : ix (nI m) = m := ix_nI (by omega)
                have e61 : S1 6 i = nI m := by rw [hS1, jn_at S qf i (Nat.le_refl i)]; exact em6
                have h91 : (S1 9 i = 0 ∨ S1 9 i = 1 ∨ S1 9 i = 2 ∨ S1 9 i = 3 ∨ S1 9 i = 4) := by rw [hS1, jn_at S qf i (Nat.le_refl i)]; exact h9 i hlt
                have h7i : S1 7 i = 0 ∨ S1 7 i = 1 := by rw [hS1, jn_at S qf i (Nat.le_refl i)]; exact h7 i hlt
                have eb6 : aBr1 S1 i 6 i = nI m := by rw [aBr1_k S1 i (by decide)]; exact e61
                have hl1 : q1.length ≤ qf.length + 4 * i := by
                  rw [hq1]
                  refine jn_len S qf i (fun d hd => ?_)
                  obtain ⟨m2, hm2, em2⟩ := h6 d (by omega)
                  rw [em2, ix_nI (by omega)]
                  exact hm2
                refine x_aload_n B (pc := 75) 2 dX4_join_75 rfl rfl ?_
                refine x_get B (pc := 76) xcl_M 0 0 9 rfl rfl (by decide) tm639 rfl rfl dX4_join_76 ?_
                refine x_iload_n B (pc := 79) 0 dX4_join_79 rfl rfl ?_
                refine x_ialdN B (pc := 80) i 2 5 hi6 (by decide) rfl rfl dX4_join_80 ?_
                refine x_iconst B (pc := 81) 1 dX4_join_81 (by decide) ?_
                refine x_icmp_ne B (pc := 82) 105 dX4_join_82 (by decide) (fun h82 => ?_) (fun h82 => ?_)
                · skip
                  have eb1 : S1 = aBr1 S1 i := (by unfold aBr1; exact (if_neg h82).symm)
                  rw [eb1]
                  refine x_aload_n B (pc := 105) 2 dX4_join_105 rfl rfl ?_
                  refine x_iload_n B (pc := 106) 0 dX4_join_106 rfl rfl ?_
                  refine x_callV B (pc := 107) (As := [.int (nI i)]) (c_X4_isSentAnew hl D e0 hi6 (aBr1_9 h91)) xcl_M rfl 0 0 rfl rfl tm838 tm840 ts25 tm7 tm841 md_X4_isSentAnew ⟨Nat.le_of_ble_eq_true rfl, Nat.le_of_ble_eq_true rfl⟩ [0, 2] rfl rfl rfl (Nat.le_of_ble_eq_true rfl) (Nat.le_of_ble_eq_true rfl) (Nat.le_of_ble_eq_true rfl) dX4_join_107 (fun E hE => False.elim hE) (fun v cs1 hp => ?_)
                  obtain ⟨rfl, rfl⟩ := hp
                  show G 110 [(2, .int (nI i)), (1, .int n1), (0, .ref (am 0))] [.int (aAnew (aBr1 S1 i) i)] [moW am N tf tt1 bf bt 1 op tr tn 0, mlW D am (jnL L 4), mdW D am (aBr1 S1 i), rtW D am tg1] 0 0
                  refine x_if_eq B (pc := 110) 122 dX4_join_110 (by decide) (fun h110 => ?_) (fun h110 => ?_)
                  · skip
                    refine x_aload_n B (pc := 122) 2 dX4_join_122 rfl rfl ?_
                    refine x_get B (pc := 123) xcl_M 0 0 9 rfl rfl (by decide) tm639 rfl rfl dX4_join_123 ?_
                    refine x_iload_n B (pc := 126) 0 dX4_join_126 rfl rfl ?_
                    refine x_ialdN B (pc := 127) i 2 5 hi6 (by decide) rfl rfl dX4_join_127 ?_
                    refine x_iconst B (pc := 128) 3 dX4_join_128 (by decide) ?_
                    refine x_icmp_ne B (pc := 129) 176 dX4_join_129 (by decide) (fun h129 => ?_) (fun h129 => ?_)
                    · skip
                      refine x_iinc B (pc := 176) 0 (nI (i + 1)) [(2, .int (nI (i + 1))), (1, .int n1), (0, .ref (am 0))] dX4_join_176 rfl (nI_1 i) (by decide) rfl ?_
                      refine x_goto B (pc := 179) 67 dX4_join_179 (by decide) ?_
                      refine x_lv B [0, 1, 2] [(2, .int (nI (i + 1))), (1, .int n1), (0, .ref (am 0))] rfl ?_
                      have eS : aBring S1 i = aBr1 S1 i := aBr_no h129
                      have ea : aAnew (aBring S1 i) i = 0 := by rw [← aBr_anew]; exact h110
                      have eqq : jnQ S1 i q1 = q1 := by unfold jnQ; rw [if_neg (by rw [ea]; decide)]
                      refine ih (i + 1) _ _ _ (jnQ S1 i q1) _ (by omega) (by omega) (by rw [eqq]; exact hg) (by omega) ?_
                      rw [← eS]
                      exact hsuc _ (by rw [ea, Int32.add_zero])
                    · skip
                      refine x_aload_n B (pc := 132) 2 dX4_join_132 rfl rfl ?_
                      refine x_get B (pc := 133) xcl_M 0 0 8 rfl rfl (by decide) tm638 rfl rfl dX4_join_133 ?_
                      refine x_iload_n B (pc := 136) 0 dX4_join_136 rfl rfl ?_
                      refine x_aload_n B (pc := 137) 2 dX4_join_137 rfl rfl ?_
                      refine x_get B (pc := 138) xcl_M 0 0 7 rfl rfl (by decide) tm637 rfl rfl dX4_join_138 ?_
                      refine x_iload_n B (pc := 141) 0 dX4_join_141 rfl rfl ?_
                      refine x_ialdN B (pc := 142) i 2 3 hi6 (by decide) rfl rfl dX4_join_142 ?_
                      refine x_if_ne B (pc := 143) 155 dX4_join_143 (by decide) (fun h143 => ?_) (fun h143 => ?_)
                      · skip
                        refine x_aload_n B (pc := 155) 2 dX4_join_155 rfl rfl ?_
                        refine x_get B (pc := 156) xcl_M 0 0 8 rfl rfl (by decide) tm638 rfl rfl dX4_join_156 ?_
                        refine x_iload_n B (pc := 159) 0 dX4_join_159 rfl rfl ?_
                        refine x_ialdN B (pc := 160) i 2 4 hi6 (by decide) rfl rfl dX4_join_160 ?_
                        refine x_iastN B (pc := 161) i 2 4 [moW am N tf tt1 bf bt 1 op tr tn 0, mlW D am (jnL L 4), mdW D am (xup (aBr1 S1 i) 8 i ((aBr1 S1 i) 8 i)), rtW D am tg1] hi6 (by decide) rfl rfl md_set8 rfl dX4_join_161 ?_
                        refine x_aload_n B (pc := 162) 2 dX4_join_162 rfl rfl ?_
                        refine x_get B (pc := 163) xcl_M 0 0 7 rfl rfl (by decide) tm637 rfl rfl dX4_join_163 ?_
                        refine x_iload_n B (pc := 166) 0 dX4_join_166 rfl rfl ?_
                        refine x_iconst B (pc := 167) 1 dX4_join_167 (by decide) ?_
                        refine x_iastN B (pc := 168) i 2 3 [moW am N tf tt1 bf bt 1 op tr tn 0, mlW D am (jnL L 4), mdW D am (xup (xup (aBr1 S1 i) 8 i ((aBr1 S1 i) 8 i)) 7 i 1), rtW D am tg1] hi6 (by decide) rfl rfl md_set7 rfl dX4_join_168 ?_
                        refine x_aload_n B (pc := 169) 2 dX4_join_169 rfl rfl ?_
                        refine x_get B (pc := 170) xcl_M 0 0 9 rfl rfl (by decide) tm639 rfl rfl dX4_join_170 ?_
                        refine x_iload_n B (pc := 173) 0 dX4_join_173 rfl rfl ?_
                        refine x_iconst B (pc := 174) 4 dX4_join_174 (by decide) ?_
                        refine x_iastN B (pc := 175) i 2 5 [moW am N tf tt1 bf bt 1 op tr tn 0, mlW D am (jnL L 4), mdW D am (xup (xup (xup (aBr1 S1 i) 8 i ((aBr1 S1 i) 8 i)) 7 i 1) 9 i 4), rtW D am tg1] hi6 (by decide) rfl rfl md_set9 rfl dX4_join_175 ?_
                        refine x_iinc B (pc := 176) 0 (nI (i + 1)) [(2, .int (nI (i + 1))), (1, .int n1), (0, .ref (am 0))] dX4_join_176 rfl (nI_1 i) (by decide) rfl ?_
                        refine x_goto B (pc := 179) 67 dX4_join_179 (by decide) ?_
                        refine x_lv B [0, 1, 2] [(2, .int (nI (i + 1))), (1, .int n1), (0, .ref (am 0))] rfl ?_
                        have eS : aBring S1 i = xup (xup (xup (aBr1 S1 i) 8 i ((aBr1 S1 i) 8 i)) 7 i 1) 9 i 4 := aBr_dec h129 h7i (Or.inr ⟨h143, rfl⟩)
                        have ea : aAnew (aBring S1 i) i = 0 := by rw [← aBr_anew]; exact h110
                        have eqq : jnQ S1 i q1 = q1 := by unfold jnQ; rw [if_neg (by rw [ea]; decide)]
                        refine ih (i + 1) _ _ _ (jnQ S1 i q1) _ (by omega) (by omega) (by rw [eqq]; exact hg) (by omega) ?_
                        rw [← eS]
                        exact hsuc _ (by rw [ea, Int32.add_zero])
                      · skip
                        refine x_aload_n B (pc := 146) 2 dX4_join_146 rfl rfl ?_
                        refine x_get B (pc := 147) xcl_M 0 0 12 rfl rfl (by decide) tm642 rfl rfl dX4_join_147 ?_
                        refine x_iload_n B (pc := 150) 0 dX4_join_150 rfl rfl ?_
                        refine x_ialdN B (pc := 151) i 2 8 hi6 (by decide) rfl rfl dX4_join_151 ?_
                        refine x_goto B (pc := 152) 161 dX4_join_152 (by decide) ?_
                        refine x_iastN B (pc := 161) i 2 4 [moW am N tf tt1 bf bt 1 op tr tn 0, mlW D am (jnL L 4), mdW D am (xup (aBr1 S1 i) 8 i ((aBr1 S1 i) 12 i)), rtW D am tg1] hi6 (by decide) rfl rfl md_set8 rfl dX4_join_161 ?_
                        refine x_aload_n B (pc := 162) 2 dX4_join_162 rfl rfl ?_
                        refine x_get B (pc := 163) xcl_M 0 0 7 rfl rfl (by decide) tm637 rfl rfl dX4_join_163 ?_
                        refine x_iload_n B (pc := 166) 0 dX4_join_166 rfl rfl ?_
                        refine x_iconst B (pc := 167) 1 dX4_join_167 (by decide) ?_
                        refine x_iastN B (pc := 168) i 2 3 [moW am N tf tt1 bf bt 1 op tr tn 0, mlW D am (jnL L 4), mdW D am (xup (xup (aBr1 S1 i) 8 i ((aBr1 S1 i) 12 i)) 7 i 1), rtW D am tg1] hi6 (by decide) rfl rfl md_set7 rfl dX4_join_168 ?_
                        refine x_aload_n B (pc := 169) 2 dX4_join_169 rfl rfl ?_
                        refine x_get B (pc := 170) xcl_M 0 0 9 rfl rfl (by decide) tm639 rfl rfl dX4_join_170 ?_
                        refine x_iload_n B (pc := 173) 0 dX4_join_173 rfl rfl ?_
                        refine x_iconst B (pc := 174) 4 dX4_join_174 (by decide) ?_
                        refine x_iastN B (pc := 175) i 2 5 [moW am N tf tt1 bf bt 1 op tr tn 0, mlW D am (jnL L 4), mdW D am (xup (xup (xup (aBr1 S1 i) 8 i ((aBr1 S1 i) 12 i)) 7 i 1) 9 i 4), rtW D am tg1] hi6 (by decide) rfl rfl md_set9 rfl dX4_join_175 ?_
                        refine x_iinc B (pc := 176) 0 (nI (i + 1)) [(2, .int (nI (i + 1))), (1, .int n1), (0, .ref (am 0))] dX4_join_176 rfl (nI_1 i) (by decide) rfl ?_
                        refine x_goto B (pc := 179) 67 dX4_join_179 (by decide) ?_
                        refine x_lv B [0, 1, 2] [(2, .int (nI (i + 1))), (1, .int n1), (0, .ref (am 0))] rfl ?_
                        have eS : aBring S1 i = xup (xup (xup (aBr1 S1 i) 8 i ((aBr1 S1 i) 12 i)) 7 i 1) 9 i 4 := aBr_dec h129 h7i (Or.inl ⟨h143, rfl⟩)
                        have ea : aAnew (aBring S1 i) i = 0 := by rw [← aBr_anew]; exact h110
                        have eqq : jnQ S1 i q1 = q1 := by unfold jnQ; rw [if_neg (by rw [ea]; decide)]
                        refine ih (i + 1) _ _ _ (jnQ S1 i q1) _ (by omega) (by omega) (by rw [eqq]; exact hg) (by omega) ?_
                        rw [← eS]
                        exact hsuc _ (by rw [ea, Int32.add_zero])
                  · skip
                    refine x_aload_n B (pc := 113) 2 dX4_join_113 rfl rfl ?_
                    refine x_iload_n B (pc := 114) 0 dX4_join_114 rfl rfl ?_
                    refine x_iconst B (pc := 115) 1 dX4_join_115 (by decide) ?_
                    refine x_val B (y := nI 1) rfl ?_
                    refine x_callV B (pc := 116) (As := [.int (nI i), .int (nI 1)]) (c_X4_sends hl D e0 (kd := 1) (d := i) (m := m) hi6 (by decide) eb6 hm4 hg (by omega) (by omega)) xcl_M rfl 0 0 rfl rfl tm762 tm764 ts18 tm7 tm765 md_X4_sends ⟨Nat.le_of_ble_eq_true rfl, Nat.le_of_ble_eq_true rfl⟩ [0, 2, 3] rfl rfl rfl (Nat.le_of_ble_eq_true rfl) (Nat.le_of_ble_eq_true rfl) (Nat.le_of_ble_eq_true rfl) dX4_join_116 (fun E hE => False.elim hE) (fun v cs1 hp => ?_)
                    obtain ⟨rfl, tg2, hg2, rfl⟩ := hp
                    show G 119 [(2, .int (nI i)), (1, .int n1), (0, .ref (am 0))] [] [moW am N tf (tt1 + m) bf bt 1 op tr tn 0, mlW D am (jnL L 4), mdW D am (aBr1 S1 i), rtW D am tg2] 0 0
                    refine x_iinc B (pc := 119) 1 (n1 + 1) [(1, .int (n1 + 1)), (2, .int (nI i)), (0, .ref (am 0))] dX4_join_119 rfl rfl (by decide) rfl ?_
                    refine x_aload_n B (pc := 122) 2 dX4_join_122 rfl rfl ?_
                    refine x_get B (pc := 123) xcl_M 0 0 9 rfl rfl (by decide) tm639 rfl rfl dX4_join_123 ?_
                    refine x_iload_n B (pc := 126) 1 dX4_join_126 rfl rfl ?_
                    refine x_ialdN B (pc := 127) i 2 5 hi6 (by decide) rfl rfl dX4_join_127 ?_
                    refine x_iconst B (pc := 128) 3 dX4_join_128 (by decide) ?_
                    refine x_icmp_ne B (pc := 129) 176 dX4_join_129 (by decide) (fun h129 => ?_) (fun h129 => ?_)
                    · skip
                      refine x_iinc B (pc := 176) 1 (nI (i + 1)) [(2, .int (nI (i + 1))), (1, .int (n1 + 1)), (0, .ref (am 0))] dX4_join_176 rfl (nI_1 i) (by decide) rfl ?_
                      refine x_goto B (pc := 179) 67 dX4_join_179 (by decide) ?_
                      refine x_lv B [0, 1, 2] [(2, .int (nI (i + 1))), (1, .int (n1 + 1)), (0, .ref (am 0))] rfl ?_
                      have eS : aBring S1 i = aBr1 S1 i := aBr_no h129
                      have ea : aAnew (aBring S1 i) i = 1 := by rw [← aBr_anew]; exact (aAnew_01 _ _).resolve_left h110
                      have eqq : jnQ S1 i q1 = q1 ++ pts 1 i m := by unfold jnQ; rw [if_pos ea, e61, em]
                      refine ih (i + 1) _ _ _ (jnQ S1 i q1) _ (by omega) (by omega) (by rw [eqq]; exact hg2) (by omega) ?_
                      rw [← eS]
                      exact hsuc _ (by rw [ea])
                    · skip
                      refine x_aload_n B (pc := 132) 2 dX4_join_132 rfl rfl ?_
                      refine x_get B (pc := 133) xcl_M 0 0 8 rfl rfl (by decide) tm638 rfl rfl dX4_join_133 ?_
                      refine x_iload_n B (pc := 136) 1 dX4_join_136 rfl rfl ?_
                      refine x_aload_n B (pc := 137) 2 dX4_join_137 rfl rfl ?_
                      refine x_get B (pc := 138) xcl_M 0 0 7 rfl rfl (by decide) tm637 rfl rfl dX4_join_138 ?_
                      refine x_iload_n B (pc := 141) 1 dX4_join_141 rfl rfl ?_
                      refine x_ialdN B (pc := 142) i 2 3 hi6 (by decide) rfl rfl dX4_join_142 ?_
                      refine x_if_ne B (pc := 143) 155 dX4_join_143 (by decide) (fun h143 => ?_) (fun h143 => ?_)
                      · skip
                        refine x_aload_n B (pc := 155) 2 dX4_join_155 rfl rfl ?_
                        refine x_get B (pc := 156) xcl_M 0 0 8 rfl rfl (by decide) tm638 rfl rfl dX4_join_156 ?_
                        refine x_iload_n B (pc := 159) 1 dX4_join_159 rfl rfl ?_
                        refine x_ialdN B (pc := 160) i 2 4 hi6 (by decide) rfl rfl dX4_join_160 ?_
                        refine x_iastN B (pc := 161) i 2 4 [moW am N tf (tt1 + m) bf bt 1 op tr tn 0, mlW D am (jnL L 4), mdW D am (xup (aBr1 S1 i) 8 i ((aBr1 S1 i) 8 i)), rtW D am tg2] hi6 (by decide) rfl rfl md_set8 rfl dX4_join_161 ?_
                        refine x_aload_n B (pc := 162) 2 dX4_join_162 rfl rfl ?_
                        refine x_get B (pc := 163) xcl_M 0 0 7 rfl rfl (by decide) tm637 rfl rfl dX4_join_163 ?_
                        refine x_iload_n B (pc := 166) 1 dX4_join_166 rfl rfl ?_
                        refine x_iconst B (pc := 167) 1 dX4_join_167 (by decide) ?_
                        refine x_iastN B (pc := 168) i 2 3 [moW am N tf (tt1 + m) bf bt 1 op tr tn 0, mlW D am (jnL L 4), mdW D am (xup (xup (aBr1 S1 i) 8 i ((aBr1 S1 i) 8 i)) 7 i 1), rtW D am tg2] hi6 (by decide) rfl rfl md_set7 rfl dX4_join_168 ?_
                        refine x_aload_n B (pc := 169) 2 dX4_join_169 rfl rfl ?_
                        refine x_get B (pc := 170) xcl_M 0 0 9 rfl rfl (by decide) tm639 rfl rfl dX4_join_170 ?_
                        refine x_iload_n B (pc := 173) 1 dX4_join_173 rfl rfl ?_
                        refine x_iconst B (pc := 174) 4 dX4_join_174 (by decide) ?_
                        refine x_iastN B (pc := 175) i 2 5 [moW am N tf (tt1 + m) bf bt 1 op tr tn 0, mlW D am (jnL L 4), mdW D am (xup (xup (xup (aBr1 S1 i) 8 i ((aBr1 S1 i) 8 i)) 7 i 1) 9 i 4), rtW D am tg2] hi6 (by decide) rfl rfl md_set9 rfl dX4_join_175 ?_
                        refine x_iinc B (pc := 176) 1 (nI (i + 1)) [(2, .int (nI (i + 1))), (1, .int (n1 + 1)), (0, .ref (am 0))] dX4_join_176 rfl (nI_1 i) (by decide) rfl ?_
                        refine x_goto B (pc := 179) 67 dX4_join_179 (by decide) ?_
                        refine x_lv B [0, 1, 2] [(2, .int (nI (i + 1))), (1, .int (n1 + 1)), (0, .ref (am 0))] rfl ?_
                        have eS : aBring S1 i = xup (xup (xup (aBr1 S1 i) 8 i ((aBr1 S1 i) 8 i)) 7 i 1) 9 i 4 := aBr_dec h129 h7i (Or.inr ⟨h143, rfl⟩)
                        have ea : aAnew (aBring S1 i) i = 1 := by rw [← aBr_anew]; exact (aAnew_01 _ _).resolve_left h110
                        have eqq : jnQ S1 i q1 = q1 ++ pts 1 i m := by unfold jnQ; rw [if_pos ea, e61, em]
                        refine ih (i + 1) _ _ _ (jnQ S1 i q1) _ (by omega) (by omega) (by rw [eqq]; exact hg2) (by omega) ?_
                        rw [← eS]
                        exact hsuc _ (by rw [ea])
                      · skip
                        refine x_aload_n B (pc := 146) 2 dX4_join_146 rfl rfl ?_
                        refine x_get B (pc := 147) xcl_M 0 0 12 rfl rfl (by decide) tm642 rfl rfl dX4_join_147 ?_
                        refine x_iload_n B (pc := 150) 1 dX4_join_150 rfl rfl ?_
                        refine x_ialdN B (pc := 151) i 2 8 hi6 (by decide) rfl rfl dX4_join_151 ?_
                        refine x_goto B (pc := 152) 161 dX4_join_152 (by decide) ?_
                        refine x_iastN B (pc := 161) i 2 4 [moW am N tf (tt1 + m) bf bt 1 op tr tn 0, mlW D am (jnL L 4), mdW D am (xup (aBr1 S1 i) 8 i ((aBr1 S1 i) 12 i)), rtW D am tg2] hi6 (by decide) rfl rfl md_set8 rfl dX4_join_161 ?_
                        refine x_aload_n B (pc := 162) 2 dX4_join_162 rfl rfl ?_
                        refine x_get B (pc := 163) xcl_M 0 0 7 rfl rfl (by decide) tm637 rfl rfl dX4_join_163 ?_
                        refine x_iload_n B (pc := 166) 1 dX4_join_166 rfl rfl ?_
                        refine x_iconst B (pc := 167) 1 dX4_join_167 (by decide) ?_
                        refine x_iastN B (pc := 168) i 2 3 [moW am N tf (tt1 + m) bf bt 1 op tr tn 0, mlW D am (jnL L 4), mdW D am (xup (xup (aBr1 S1 i) 8 i ((aBr1 S1 i) 12 i)) 7 i 1), rtW D am tg2] hi6 (by decide) rfl rfl md_set7 rfl dX4_join_168 ?_
                        refine x_aload_n B (pc := 169) 2 dX4_join_169 rfl rfl ?_
                        refine x_get B (pc := 170) xcl_M 0 0 9 rfl rfl (by decide) tm639 rfl rfl dX4_join_170 ?_
                        refine x_iload_n B (pc := 173) 1 dX4_join_173 rfl rfl ?_
                        refine x_iconst B (pc := 174) 4 dX4_join_174 (by decide) ?_
                        refine x_iastN B (pc := 175) i 2 5 [moW am N tf (tt1 + m) bf bt 1 op tr tn 0, mlW D am (jnL L 4), mdW D am (xup (xup (xup (aBr1 S1 i) 8 i ((aBr1 S1 i) 12 i)) 7 i 1) 9 i 4), rtW D am tg2] hi6 (by decide) rfl rfl md_set9 rfl dX4_join_175 ?_
                        refine x_iinc B (pc := 176) 1 (nI (i + 1)) [(2, .int (nI (i + 1))), (1, .int (n1 + 1)), (0, .ref (am 0))] dX4_join_176 rfl (nI_1 i) (by decide) rfl ?_
                        refine x_goto B (pc := 179) 67 dX4_join_179 (by decide) ?_
                        refine x_lv B [0, 1, 2] [(2, .int (nI (i + 1))), (1, .int (n1 + 1)), (0, .ref (am 0))] rfl ?_
                        have eS : aBring S1 i = xup (xup (xup (aBr1 S1 i) 8 i ((aBr1 S1 i) 12 i)) 7 i 1) 9 i 4 := aBr_dec h129 h7i (Or.inl ⟨h143, rfl⟩)
                        have ea : aAnew (aBring S1 i) i = 1 := by rw [← aBr_anew]; exact (aAnew_01 _ _).resolve_left h110
                        have eqq : jnQ S1 i q1 = q1 ++ pts 1 i m := by unfold jnQ; rw [if_pos ea, e61, em]
                        refine ih (i + 1) _ _ _ (jnQ S1 i q1) _ (by omega) (by omega) (by rw [eqq]; exact hg2) (by omega) ?_
                        rw [← eS]
                        exact hsuc _ (by rw [ea])
                · skip
                  refine x_aload_n B (pc := 85) 2 dX4_join_85 rfl rfl ?_
                  refine x_get B (pc := 86) xcl_M 0 0 9 rfl rfl (by decide) tm639 rfl rfl dX4_join_86 ?_
                  refine x_iload_n B (pc := 89) 0 dX4_join_89 rfl rfl ?_
                  refine x_aload_n B (pc := 90) 2 dX4_join_90 rfl rfl ?_
                  refine x_get B (pc := 91) xcl_M 0 0 11 rfl rfl (by decide) tm641 rfl rfl dX4_join_91 ?_
                  refine x_iload_n B (pc := 94) 0 dX4_join_94 rfl rfl ?_
                  refine x_zaldN B (pc := 95) i 2 7 hi6 (by decide) rfl rfl dX4_join_95 ?_
                  refine x_if_eq B (pc := 96) 103 dX4_join_96 (by decide) (fun h96 => ?_) (fun h96 => ?_)
                  · skip
                    refine x_iconst B (pc := 103) 0 dX4_join_103 (by decide) ?_
                    refine x_iastN B (pc := 104) i 2 5 [moW am N tf tt1 bf bt 1 op tr tn 0, mlW D am (jnL L 4), mdW D am (xup S1 9 i 0), rtW D am tg1] hi6 (by decide) rfl rfl md_set9 rfl dX4_join_104 ?_
                    have eb1 : xup S1 9 i 0 = aBr1 S1 i := (by unfold aBr1 xbf; rw [if_pos h82]; first | rw [if_pos h96] | rw [if_neg h96])
                    rw [eb1]
                    refine x_aload_n B (pc := 105) 2 dX4_join_105 rfl rfl ?_
                    refine x_iload_n B (pc := 106) 0 dX4_join_106 rfl rfl ?_
                    refine x_callV B (pc := 107) (As := [.int (nI i)]) (c_X4_isSentAnew hl D e0 hi6 (aBr1_9 h91)) xcl_M rfl 0 0 rfl rfl tm838 tm840 ts25 tm7 tm841 md_X4_isSentAnew ⟨Nat.le_of_ble_eq_true rfl, Nat.le_of_ble_eq_true rfl⟩ [0, 2] rfl rfl rfl (Nat.le_of_ble_eq_true rfl) (Nat.le_of_ble_eq_true rfl) (Nat.le_of_ble_eq_true rfl) dX4_join_107 (fun E hE => False.elim hE) (fun v cs1 hp => ?_)
                    obtain ⟨rfl, rfl⟩ := hp
                    show G 110 [(2, .int (nI i)), (1, .int n1), (0, .ref (am 0))] [.int (aAnew (aBr1 S1 i) i)] [moW am N tf tt1 bf bt 1 op tr tn 0, mlW D am (jnL L 4), mdW D am (aBr1 S1 i), rtW D am tg1] 0 0
                    refine x_if_eq B (pc := 110) 122 dX4_join_110 (by decide) (fun h110 => ?_) (fun h110 => ?_)
                    · skip
                      refine x_aload_n B (pc := 122) 2 dX4_join_122 rfl rfl ?_
                      refine x_get B (pc := 123) xcl_M 0 0 9 rfl rfl (by decide) tm639 rfl rfl dX4_join_123 ?_
                      refine x_iload_n B (pc := 126) 0 dX4_join_126 rfl rfl ?_
                      refine x_ialdN B (pc := 127) i 2 5 hi6 (by decide) rfl rfl dX4_join_127 ?_
                      refine x_iconst B (pc := 128) 3 dX4_join_128 (by decide) ?_
                      refine x_icmp_ne B (pc := 129) 176 dX4_join_129 (by decide) (fun h129 => ?_) (fun h129 => ?_)
                      · skip
                        refine x_iinc B (pc := 176) 0 (nI (i + 1)) [(2, .int (nI (i + 1))), (1, .int n1), (0, .ref (am 0))] dX4_join_176 rfl (nI_1 i) (by decide) rfl ?_
                        refine x_goto B (pc := 179) 67 dX4_join_179 (by decide) ?_
                        refine x_lv B [0, 1, 2] [(2, .int (nI (i + 1))), (1, .int n1), (0, .ref (am 0))] rfl ?_
                        have eS : aBring S1 i = aBr1 S1 i := aBr_no h129
                        have ea : aAnew (aBring S1 i) i = 0 := by rw [← aBr_anew]; exact h110
                        have eqq : jnQ S1 i q1 = q1 := by unfold jnQ; rw [if_neg (by rw [ea]; decide)]
                        refine ih (i + 1) _ _ _ (jnQ S1 i q1) _ (by omega) (by omega) (by rw [eqq]; exact hg) (by omega) ?_
                        rw [← eS]
                        exact hsuc _ (by rw [ea, Int32.add_zero])
                      · skip
                        refine x_aload_n B (pc := 132) 2 dX4_join_132 rfl rfl ?_
                        refine x_get B (pc := 133) xcl_M 0 0 8 rfl rfl (by decide) tm638 rfl rfl dX4_join_133 ?_
                        refine x_iload_n B (pc := 136) 0 dX4_join_136 rfl rfl ?_
                        refine x_aload_n B (pc := 137) 2 dX4_join_137 rfl rfl ?_
                        refine x_get B (pc := 138) xcl_M 0 0 7 rfl rfl (by decide) tm637 rfl rfl dX4_join_138 ?_
                        refine x_iload_n B (pc := 141) 0 dX4_join_141 rfl rfl ?_
                        refine x_ialdN B (pc := 142) i 2 3 hi6 (by decide) rfl rfl dX4_join_142 ?_
                        refine x_if_ne B (pc := 143) 155 dX4_join_143 (by decide) (fun h143 => ?_) (fun h143 => ?_)
                        · skip
                          refine x_aload_n B (pc := 155) 2 dX4_join_155 rfl rfl ?_
                          refine x_get B (pc := 156) xcl_M 0 0 8 rfl rfl (by decide) tm638 rfl rfl dX4_join_156 ?_
                          refine x_iload_n B (pc := 159) 0 dX4_join_159 rfl rfl ?_
                          refine x_ialdN B (pc := 160) i 2 4 hi6 (by decide) rfl rfl dX4_join_160 ?_
                          refine x_iastN B (pc := 161) i 2 4 [moW am N tf tt1 bf bt 1 op tr tn 0, mlW D am (jnL L 4), mdW D am (xup (aBr1 S1 i) 8 i ((aBr1 S1 i) 8 i)), rtW D am tg1] hi6 (by decide) rfl rfl md_set8 rfl dX4_join_161 ?_
                          refine x_aload_n B (pc := 162) 2 dX4_join_162 rfl rfl ?_
                          refine x_get B (pc := 163) xcl_M 0 0 7 rfl rfl (by decide) tm637 rfl rfl dX4_join_163 ?_
                          refine x_iload_n B (pc := 166) 0 dX4_join_166 rfl rfl ?_
                          refine x_iconst B (pc := 167) 1 dX4_join_167 (by decide) ?_
                          refine x_iastN B (pc := 168) i 2 3 [moW am N tf tt1 bf bt 1 op tr tn 0, mlW D am (jnL L 4), mdW D am (xup (xup (aBr1 S1 i) 8 i ((aBr1 S1 i) 8 i)) 7 i 1), rtW D am tg1] hi6 (by decide) rfl rfl md_set7 rfl dX4_join_168 ?_
                          refine x_aload_n B (pc := 169) 2 dX4_join_169 rfl rfl ?_
                          refine x_get B (pc := 170) xcl_M 0 0 9 rfl rfl (by decide) tm639 rfl rfl dX4_join_170 ?_
                          refine x_iload_n B (pc := 173) 0 dX4_join_173 rfl rfl ?_
                          refine x_iconst B (pc := 174) 4 dX4_join_174 (by decide) ?_
                          refine x_iastN B (pc := 175) i 2 5 [moW am N tf tt1 bf bt 1 op tr tn 0, mlW D am (jnL L 4), mdW D am (xup (xup (xup (aBr1 S1 i) 8 i ((aBr1 S1 i) 8 i)) 7 i 1) 9 i 4), rtW D am tg1] hi6 (by decide) rfl rfl md_set9 rfl dX4_join_175 ?_
                          refine x_iinc B (pc := 176) 0 (nI (i + 1)) [(2, .int (nI (i + 1))), (1, .int n1), (0, .ref (am 0))] dX4_join_176 rfl (nI_1 i) (by decide) rfl ?_
                          refine x_goto B (pc := 179) 67 dX4_join_179 (by decide) ?_
                          refine x_lv B [0, 1, 2] [(2, .int (nI (i + 1))), (1, .int n1), (0, .ref (am 0))] rfl ?_
                          have eS : aBring S1 i = xup (xup (xup (aBr1 S1 i) 8 i ((aBr1 S1 i) 8 i)) 7 i 1) 9 i 4 := aBr_dec h129 h7i (Or.inr ⟨h143, rfl⟩)
                          have ea : aAnew (aBring S1 i) i = 0 := by rw [← aBr_anew]; exact h110
                          have eqq : jnQ S1 i q1 = q1 := by unfold jnQ; rw [if_neg (by rw [ea]; decide)]
                          refine ih (i + 1) _ _ _ (jnQ S1 i q1) _ (by omega) (by omega) (by rw [eqq]; exact hg) (by omega) ?_
                          rw [← eS]
                          exact hsuc _ (by rw [ea, Int32.add_zero])
                        · skip
                          refine x_aload_n B (pc := 146) 2 dX4_join_146 rfl rfl ?_
                          refine x_get B (pc := 147) xcl_M 0 0 12 rfl rfl (by decide) tm642 rfl rfl dX4_join_147 ?_
                          refine x_iload_n B (pc := 150) 0 dX4_join_150 rfl rfl ?_
                          refine x_ialdN B (pc := 151) i 2 8 hi6 (by decide) rfl rfl dX4_join_151 ?_
                          refine x_goto B (pc := 152) 161 dX4_join_152 (by decide) ?_
                          refine x_iastN B (pc := 161) i 2 4 [moW am N tf tt1 bf bt 1 op tr tn 0, mlW D am (jnL L 4), mdW D am (xup (aBr1 S1 i) 8 i ((aBr1 S1 i) 12 i)), rtW D am tg1] hi6 (by decide) rfl rfl md_set8 rfl dX4_join_161 ?_
                          refine x_aload_n B (pc := 162) 2 dX4_join_162 rfl rfl ?_
                          refine x_get B (pc := 163) xcl_M 0 0 7 rfl rfl (by decide) tm637 rfl rfl dX4_join_163 ?_
                          refine x_iload_n B (pc := 166) 0 dX4_join_166 rfl rfl ?_
                          refine x_iconst B (pc := 167) 1 dX4_join_167 (by decide) ?_
                          refine x_iastN B (pc := 168) i 2 3 [moW am N tf tt1 bf bt 1 op tr tn 0, mlW D am (jnL L 4), mdW D am (xup (xup (aBr1 S1 i) 8 i ((aBr1 S1 i) 12 i)) 7 i 1), rtW D am tg1] hi6 (by decide) rfl rfl md_set7 rfl dX4_join_168 ?_
                          refine x_aload_n B (pc := 169) 2 dX4_join_169 rfl rfl ?_
                          refine x_get B (pc := 170) xcl_M 0 0 9 rfl rfl (by decide) tm639 rfl rfl dX4_join_170 ?_
                          refine x_iload_n B (pc := 173) 0 dX4_join_173 rfl rfl ?_
                          refine x_iconst B (pc := 174) 4 dX4_join_174 (by decide) ?_
                          refine x_iastN B (pc := 175) i 2 5 [moW am N tf tt1 bf bt 1 op tr tn 0, mlW D am (jnL L 4), mdW D am (xup (xup (xup (aBr1 S1 i) 8 i ((aBr1 S1 i) 12 i)) 7 i 1) 9 i 4), rtW D am tg1] hi6 (by decide) rfl rfl md_set9 rfl dX4_join_175 ?_
                          refine x_iinc B (pc := 176) 0 (nI (i + 1)) [(2, .int (nI (i + 1))), (1, .int n1), (0, .ref (am 0))] dX4_join_176 rfl (nI_1 i) (by decide) rfl ?_
                          refine x_goto B (pc := 179) 67 dX4_join_179 (by decide) ?_
                          refine x_lv B [0, 1, 2] [(2, .int (nI (i + 1))), (1, .int n1), (0, .ref (am 0))] rfl ?_
                          have eS : aBring S1 i = xup (xup (xup (aBr1 S1 i) 8 i ((aBr1 S1 i) 12 i)) 7 i 1) 9 i 4 := aBr_dec h129 h7i (Or.inl ⟨h143, rfl⟩)
                          have ea : aAnew (aBring S1 i) i = 0 := by rw [← aBr_anew]; exact h110
                          have eqq : jnQ S1 i q1 = q1 := by unfold jnQ; rw [if_neg (by rw [ea]; decide)]
                          refine ih (i + 1) _ _ _ (jnQ S1 i q1) _ (by omega) (by omega) (by rw [eqq]; exact hg) (by omega) ?_
                          rw [← eS]
                          exact hsuc _ (by rw [ea, Int32.add_zero])
                    · skip
                      refine x_aload_n B (pc := 113) 2 dX4_join_113 rfl rfl ?_
                      refine x_iload_n B (pc := 114) 0 dX4_join_114 rfl rfl ?_
                      refine x_iconst B (pc := 115) 1 dX4_join_115 (by decide) ?_
                      refine x_val B (y := nI 1) rfl ?_
                      refine x_callV B (pc := 116) (As := [.int (nI i), .int (nI 1)]) (c_X4_sends hl D e0 (kd := 1) (d := i) (m := m) hi6 (by decide) eb6 hm4 hg (by omega) (by omega)) xcl_M rfl 0 0 rfl rfl tm762 tm764 ts18 tm7 tm765 md_X4_sends ⟨Nat.le_of_ble_eq_true rfl, Nat.le_of_ble_eq_true rfl⟩ [0, 2, 3] rfl rfl rfl (Nat.le_of_ble_eq_true rfl) (Nat.le_of_ble_eq_true rfl) (Nat.le_of_ble_eq_true rfl) dX4_join_116 (fun E hE => False.elim hE) (fun v cs1 hp => ?_)
                      obtain ⟨rfl, tg2, hg2, rfl⟩ := hp
                      show G 119 [(2, .int (nI i)), (1, .int n1), (0, .ref (am 0))] [] [moW am N tf (tt1 + m) bf bt 1 op tr tn 0, mlW D am (jnL L 4), mdW D am (aBr1 S1 i), rtW D am tg2] 0 0
                      refine x_iinc B (pc := 119) 1 (n1 + 1) [(1, .int (n1 + 1)), (2, .int (nI i)), (0, .ref (am 0))] dX4_join_119 rfl rfl (by decide) rfl ?_
                      refine x_aload_n B (pc := 122) 2 dX4_join_122 rfl rfl ?_
                      refine x_get B (pc := 123) xcl_M 0 0 9 rfl rfl (by decide) tm639 rfl rfl dX4_join_123 ?_
                      refine x_iload_n B (pc := 126) 1 dX4_join_126 rfl rfl ?_
                      refine x_ialdN B (pc := 127) i 2 5 hi6 (by decide) rfl rfl dX4_join_127 ?_
                      refine x_iconst B (pc := 128) 3 dX4_join_128 (by decide) ?_
                      refine x_icmp_ne B (pc := 129) 176 dX4_join_129 (by decide) (fun h129 => ?_) (fun h129 => ?_)
                      · skip
                        refine x_iinc B (pc := 176) 1 (nI (i + 1)) [(2, .int (nI (i + 1))), (1, .int (n1 + 1)), (0, .ref (am 0))] dX4_join_176 rfl (nI_1 i) (by decide) rfl ?_
                        refine x_goto B (pc := 179) 67 dX4_join_179 (by decide) ?_
                        refine x_lv B [0, 1, 2] [(2, .int (nI (i + 1))), (1, .int (n1 + 1)), (0, .ref (am 0))] rfl ?_
                        have eS : aBring S1 i = aBr1 S1 i := aBr_no h129
                        have ea : aAnew (aBring S1 i) i = 1 := by rw [← aBr_anew]; exact (aAnew_01 _ _).resolve_left h110
                        have eqq : jnQ S1 i q1 = q1 ++ pts 1 i m := by unfold jnQ; rw [if_pos ea, e61, em]
                        refine ih (i + 1) _ _ _ (jnQ S1 i q1) _ (by omega) (by omega) (by rw [eqq]; exact hg2) (by omega) ?_
                        rw [← eS]
                        exact hsuc _ (by rw [ea])
                      · skip
                        refine x_aload_n B (pc := 132) 2 dX4_join_132 rfl rfl ?_
                        refine x_get B (pc := 133) xcl_M 0 0 8 rfl rfl (by decide) tm638 rfl rfl dX4_join_133 ?_
                        refine x_iload_n B (pc := 136) 1 dX4_join_136 rfl rfl ?_
                        refine x_aload_n B (pc := 137) 2 dX4_join_137 rfl rfl ?_
                        refine x_get B (pc := 138) xcl_M 0 0 7 rfl rfl (by decide) tm637 rfl rfl dX4_join_138 ?_
                        refine x_iload_n B (pc := 141) 1 dX4_join_141 rfl rfl ?_
                        refine x_ialdN B (pc := 142) i 2 3 hi6 (by decide) rfl rfl dX4_join_142 ?_
                        refine x_if_ne B (pc := 143) 155 dX4_join_143 (by decide) (fun h143 => ?_) (fun h143 => ?_)
                        · skip
                          refine x_aload_n B (pc := 155) 2 dX4_join_155 rfl rfl ?_
                          refine x_get B (pc := 156) xcl_M 0 0 8 rfl rfl (by decide) tm638 rfl rfl dX4_join_156 ?_
                          refine x_iload_n B (pc := 159) 1 dX4_join_159 rfl rfl ?_
                          refine x_ialdN B (pc := 160) i 2 4 hi6 (by decide) rfl rfl dX4_join_160 ?_
                          refine x_iastN B (pc := 161) i 2 4 [moW am N tf (tt1 + m) bf bt 1 op tr tn 0, mlW D am (jnL L 4), mdW D am (xup (aBr1 S1 i) 8 i ((aBr1 S1 i) 8 i)), rtW D am tg2] hi6 (by decide) rfl rfl md_set8 rfl dX4_join_161 ?_
                          refine x_aload_n B (pc := 162) 2 dX4_join_162 rfl rfl ?_
                          refine x_get B (pc := 163) xcl_M 0 0 7 rfl rfl (by decide) tm637 rfl rfl dX4_join_163 ?_
                          refine x_iload_n B (pc := 166) 1 dX4_join_166 rfl rfl ?_
                          refine x_iconst B (pc := 167) 1 dX4_join_167 (by decide) ?_
                          refine x_iastN B (pc := 168) i 2 3 [moW am N tf (tt1 + m) bf bt 1 op tr tn 0, mlW D am (jnL L 4), mdW D am (xup (xup (aBr1 S1 i) 8 i ((aBr1 S1 i) 8 i)) 7 i 1), rtW D am tg2] hi6 (by decide) rfl rfl md_set7 rfl dX4_join_168 ?_
                          refine x_aload_n B (pc := 169) 2 dX4_join_169 rfl rfl ?_
                          refine x_get B (pc := 170) xcl_M 0 0 9 rfl rfl (by decide) tm639 rfl rfl dX4_join_170 ?_
                          refine x_iload_n B (pc := 173) 1 dX4_join_173 rfl rfl ?_
                          refine x_iconst B (pc := 174) 4 dX4_join_174 (by decide) ?_
                          refine x_iastN B (pc := 175) i 2 5 [moW am N tf (tt1 + m) bf bt 1 op tr tn 0, mlW D am (jnL L 4), mdW D am (xup (xup (xup (aBr1 S1 i) 8 i ((aBr1 S1 i) 8 i)) 7 i 1) 9 i 4), rtW D am tg2] hi6 (by decide) rfl rfl md_set9 rfl dX4_join_175 ?_
                          refine x_iinc B (pc := 176) 1 (nI (i + 1)) [(2, .int (nI (i + 1))), (1, .int (n1 + 1)), (0, .ref (am 0))] dX4_join_176 rfl (nI_1 i) (by decide) rfl ?_
                          refine x_goto B (pc := 179) 67 dX4_join_179 (by decide) ?_
                          refine x_lv B [0, 1, 2] [(2, .int (nI (i + 1))), (1, .int (n1 + 1)), (0, .ref (am 0))] rfl ?_
                          have eS : aBring S1 i = xup (xup (xup (aBr1 S1 i) 8 i ((aBr1 S1 i) 8 i)) 7 i 1) 9 i 4 := aBr_dec h129 h7i (Or.inr ⟨h143, rfl⟩)
                          have ea : aAnew (aBring S1 i) i = 1 := by rw [← aBr_anew]; exact (aAnew_01 _ _).resolve_left h110
                          have eqq : jnQ S1 i q1 = q1 ++ pts 1 i m := by unfold jnQ; rw [if_pos ea, e61, em]
                          refine ih (i + 1) _ _ _ (jnQ S1 i q1) _ (by omega) (by omega) (by rw [eqq]; exact hg2) (by omega) ?_
                          rw [← eS]
                          exact hsuc _ (by rw [ea])
                        · skip
                          refine x_aload_n B (pc := 146) 2 dX4_join_146 rfl rfl ?_
                          refine x_get B (pc := 147) xcl_M 0 0 12 rfl rfl (by decide) tm642 rfl rfl dX4_join_147 ?_
                          refine x_iload_n B (pc := 150) 1 dX4_join_150 rfl rfl ?_
                          refine x_ialdN B (pc := 151) i 2 8 hi6 (by decide) rfl rfl dX4_join_151 ?_
                          refine x_goto B (pc := 152) 161 dX4_join_152 (by decide) ?_
                          refine x_iastN B (pc := 161) i 2 4 [moW am N tf (tt1 + m) bf bt 1 op tr tn 0, mlW D am (jnL L 4), mdW D am (xup (aBr1 S1 i) 8 i ((aBr1 S1 i) 12 i)), rtW D am tg2] hi6 (by decide) rfl rfl md_set8 rfl dX4_join_161 ?_
                          refine x_aload_n B (pc := 162) 2 dX4_join_162 rfl rfl ?_
                          refine x_get B (pc := 163) xcl_M 0 0 7 rfl rfl (by decide) tm637 rfl rfl dX4_join_163 ?_
                          refine x_iload_n B (pc := 166) 1 dX4_join_166 rfl rfl ?_
                          refine x_iconst B (pc := 167) 1 dX4_join_167 (by decide) ?_
                          refine x_iastN B (pc := 168) i 2 3 [moW am N tf (tt1 + m) bf bt 1 op tr tn 0, mlW D am (jnL L 4), mdW D am (xup (xup (aBr1 S1 i) 8 i ((aBr1 S1 i) 12 i)) 7 i 1), rtW D am tg2] hi6 (by decide) rfl rfl md_set7 rfl dX4_join_168 ?_
                          refine x_aload_n B (pc := 169) 2 dX4_join_169 rfl rfl ?_
                          refine x_get B (pc := 170) xcl_M 0 0 9 rfl rfl (by decide) tm639 rfl rfl dX4_join_170 ?_
                          refine x_iload_n B (pc := 173) 1 dX4_join_173 rfl rfl ?_
                          refine x_iconst B (pc := 174) 4 dX4_join_174 (by decide) ?_
                          refine x_iastN B (pc := 175) i 2 5 [moW am N tf (tt1 + m) bf bt 1 op tr tn 0, mlW D am (jnL L 4), mdW D am (xup (xup (xup (aBr1 S1 i) 8 i ((aBr1 S1 i) 12 i)) 7 i 1) 9 i 4), rtW D am tg2] hi6 (by decide) rfl rfl md_set9 rfl dX4_join_175 ?_
                          refine x_iinc B (pc := 176) 1 (nI (i + 1)) [(2, .int (nI (i + 1))), (1, .int (n1 + 1)), (0, .ref (am 0))] dX4_join_176 rfl (nI_1 i) (by decide) rfl ?_
                          refine x_goto B (pc := 179) 67 dX4_join_179 (by decide) ?_
                          refine x_lv B [0, 1, 2] [(2, .int (nI (i + 1))), (1, .int (n1 + 1)), (0, .ref (am 0))] rfl ?_
                          have eS : aBring S1 i = xup (xup (xup (aBr1 S1 i) 8 i ((aBr1 S1 i) 12 i)) 7 i 1) 9 i 4 := aBr_dec h129 h7i (Or.inl ⟨h143, rfl⟩)
                          have ea : aAnew (aBring S1 i) i = 1 := by rw [← aBr_anew]; exact (aAnew_01 _ _).resolve_left h110
                          have eqq : jnQ S1 i q1 = q1 ++ pts 1 i m := by unfold jnQ; rw [if_pos ea, e61, em]
                          refine ih (i + 1) _ _ _ (jnQ S1 i q1) _ (by omega) (by omega) (by rw [eqq]; exact hg2) (by omega) ?_
                          rw [← eS]
                          exact hsuc _ (by rw [ea])
                  · skip
                    refine x_iconst B (pc := 99) 4 dX4_join_99 (by decide) ?_
                    refine x_goto B (pc := 100) 104 dX4_join_100 (by decide) ?_
                    refine x_iastN B (pc := 104) i 2 5 [moW am N tf tt1 bf bt 1 op tr tn 0, mlW D am (jnL L 4), mdW D am (xup S1 9 i 4), rtW D am tg1] hi6 (by decide) rfl rfl md_set9 rfl dX4_join_104 ?_
                    have eb1 : xup S1 9 i 4 = aBr1 S1 i := (by unfold aBr1 xbf; rw [if_pos h82]; first | rw [if_pos h96] | rw [if_neg h96])
                    rw [eb1]
                    refine x_aload_n B (pc := 105) 2 dX4_join_105 rfl rfl ?_
                    refine x_iload_n B (pc := 106) 0 dX4_join_106 rfl rfl ?_
                    refine x_callV B (pc := 107) (As := [.int (nI i)]) (c_X4_isSentAnew hl D e0 hi6 (aBr1_9 h91)) xcl_M rfl 0 0 rfl rfl tm838 tm840 ts25 tm7 tm841 md_X4_isSentAnew ⟨Nat.le_of_ble_eq_true rfl, Nat.le_of_ble_eq_true rfl⟩ [0, 2] rfl rfl rfl (Nat.le_of_ble_eq_true rfl) (Nat.le_of_ble_eq_true rfl) (Nat.le_of_ble_eq_true rfl) dX4_join_107 (fun E hE => False.elim hE) (fun v cs1 hp => ?_)
                    obtain ⟨rfl, rfl⟩ := hp
                    show G 110 [(2, .int (nI i)), (1, .int n1), (0, .ref (am 0))] [.int (aAnew (aBr1 S1 i) i)] [moW am N tf tt1 bf bt 1 op tr tn 0, mlW D am (jnL L 4), mdW D am (aBr1 S1 i), rtW D am tg1] 0 0
                    refine x_if_eq B (pc := 110) 122 dX4_join_110 (by decide) (fun h110 => ?_) (fun h110 => ?_)
                    · skip
                      refine x_aload_n B (pc := 122) 2 dX4_join_122 rfl rfl ?_
                      refine x_get B (pc := 123) xcl_M 0 0 9 rfl rfl (by decide) tm639 rfl rfl dX4_join_123 ?_
                      refine x_iload_n B (pc := 126) 0 dX4_join_126 rfl rfl ?_
                      refine x_ialdN B (pc := 127) i 2 5 hi6 (by decide) rfl rfl dX4_join_127 ?_
                      refine x_iconst B (pc := 128) 3 dX4_join_128 (by decide) ?_
                      refine x_icmp_ne B (pc := 129) 176 dX4_join_129 (by decide) (fun h129 => ?_) (fun h129 => ?_)
                      · skip
                        refine x_iinc B (pc := 176) 0 (nI (i + 1)) [(2, .int (nI (i + 1))), (1, .int n1), (0, .ref (am 0))] dX4_join_176 rfl (nI_1 i) (by decide) rfl ?_
                        refine x_goto B (pc := 179) 67 dX4_join_179 (by decide) ?_
                        refine x_lv B [0, 1, 2] [(2, .int (nI (i + 1))), (1, .int n1), (0, .ref (am 0))] rfl ?_
                        have eS : aBring S1 i = aBr1 S1 i := aBr_no h129
                        have ea : aAnew (aBring S1 i) i = 0 := by rw [← aBr_anew]; exact h110
                        have eqq : jnQ S1 i q1 = q1 := by unfold jnQ; rw [if_neg (by rw [ea]; decide)]
                        refine ih (i + 1) _ _ _ (jnQ S1 i q1) _ (by omega) (by omega) (by rw [eqq]; exact hg) (by omega) ?_
                        rw [← eS]
                        exact hsuc _ (by rw [ea, Int32.add_zero])
                      · skip
                        refine x_aload_n B (pc := 132) 2 dX4_join_132 rfl rfl ?_
                        refine x_get B (pc := 133) xcl_M 0 0 8 rfl rfl (by decide) tm638 rfl rfl dX4_join_133 ?_
                        refine x_iload_n B (pc := 136) 0 dX4_join_136 rfl rfl ?_
                        refine x_aload_n B (pc := 137) 2 dX4_join_137 rfl rfl ?_
                        refine x_get B (pc := 138) xcl_M 0 0 7 rfl rfl (by decide) tm637 rfl rfl dX4_join_138 ?_
                        refine x_iload_n B (pc := 141) 0 dX4_join_141 rfl rfl ?_
                        refine x_ialdN B (pc := 142) i 2 3 hi6 (by decide) rfl rfl dX4_join_142 ?_
                        refine x_if_ne B (pc := 143) 155 dX4_join_143 (by decide) (fun h143 => ?_) (fun h143 => ?_)
                        · skip
                          refine x_aload_n B (pc := 155) 2 dX4_join_155 rfl rfl ?_
                          refine x_get B (pc := 156) xcl_M 0 0 8 rfl rfl (by decide) tm638 rfl rfl dX4_join_156 ?_
                          refine x_iload_n B (pc := 159) 0 dX4_join_159 rfl rfl ?_
                          refine x_ialdN B (pc := 160) i 2 4 hi6 (by decide) rfl rfl dX4_join_160 ?_
                          refine x_iastN B (pc := 161) i 2 4 [moW am N tf tt1 bf bt 1 op tr tn 0, mlW D am (jnL L 4), mdW D am (xup (aBr1 S1 i) 8 i ((aBr1 S1 i) 8 i)), rtW D am tg1] hi6 (by decide) rfl rfl md_set8 rfl dX4_join_161 ?_
                          refine x_aload_n B (pc := 162) 2 dX4_join_162 rfl rfl ?_
                          refine x_get B (pc := 163) xcl_M 0 0 7 rfl rfl (by decide) tm637 rfl rfl dX4_join_163 ?_
                          refine x_iload_n B (pc := 166) 0 dX4_join_166 rfl rfl ?_
                          refine x_iconst B (pc := 167) 1 dX4_join_167 (by decide) ?_
                          refine x_iastN B (pc := 168) i 2 3 [moW am N tf tt1 bf bt 1 op tr tn 0, mlW D am (jnL L 4), mdW D am (xup (xup (aBr1 S1 i) 8 i ((aBr1 S1 i) 8 i)) 7 i 1), rtW D am tg1] hi6 (by decide) rfl rfl md_set7 rfl dX4_join_168 ?_
                          refine x_aload_n B (pc := 169) 2 dX4_join_169 rfl rfl ?_
                          refine x_get B (pc := 170) xcl_M 0 0 9 rfl rfl (by decide) tm639 rfl rfl dX4_join_170 ?_
                          refine x_iload_n B (pc := 173) 0 dX4_join_173 rfl rfl ?_
                          refine x_iconst B (pc := 174) 4 dX4_join_174 (by decide) ?_
                          refine x_iastN B (pc := 175) i 2 5 [moW am N tf tt1 bf bt 1 op tr tn 0, mlW D am (jnL L 4), mdW D am (xup (xup (xup (aBr1 S1 i) 8 i ((aBr1 S1 i) 8 i)) 7 i 1) 9 i 4), rtW D am tg1] hi6 (by decide) rfl rfl md_set9 rfl dX4_join_175 ?_
                          refine x_iinc B (pc := 176) 0 (nI (i + 1)) [(2, .int (nI (i + 1))), (1, .int n1), (0, .ref (am 0))] dX4_join_176 rfl (nI_1 i) (by decide) rfl ?_
                          refine x_goto B (pc := 179) 67 dX4_join_179 (by decide) ?_
                          refine x_lv B [0, 1, 2] [(2, .int (nI (i + 1))), (1, .int n1), (0, .ref (am 0))] rfl ?_
                          have eS : aBring S1 i = xup (xup (xup (aBr1 S1 i) 8 i ((aBr1 S1 i) 8 i)) 7 i 1) 9 i 4 := aBr_dec h129 h7i (Or.inr ⟨h143, rfl⟩)
                          have ea : aAnew (aBring S1 i) i = 0 := by rw [← aBr_anew]; exact h110
                          have eqq : jnQ S1 i q1 = q1 := by unfold jnQ; rw [if_neg (by rw [ea]; decide)]
                          refine ih (i + 1) _ _ _ (jnQ S1 i q1) _ (by omega) (by omega) (by rw [eqq]; exact hg) (by omega) ?_
                          rw [← eS]
                          exact hsuc _ (by rw [ea, Int32.add_zero])
                        · skip
                          refine x_aload_n B (pc := 146) 2 dX4_join_146 rfl rfl ?_
                          refine x_get B (pc := 147) xcl_M 0 0 12 rfl rfl (by decide) tm642 rfl rfl dX4_join_147 ?_
                          refine x_iload_n B (pc := 150) 0 dX4_join_150 rfl rfl ?_
                          refine x_ialdN B (pc := 151) i 2 8 hi6 (by decide) rfl rfl dX4_join_151 ?_
                          refine x_goto B (pc := 152) 161 dX4_join_152 (by decide) ?_
                          refine x_iastN B (pc := 161) i 2 4 [moW am N tf tt1 bf bt 1 op tr tn 0, mlW D am (jnL L 4), mdW D am (xup (aBr1 S1 i) 8 i ((aBr1 S1 i) 12 i)), rtW D am tg1] hi6 (by decide) rfl rfl md_set8 rfl dX4_join_161 ?_
                          refine x_aload_n B (pc := 162) 2 dX4_join_162 rfl rfl ?_
                          refine x_get B (pc := 163) xcl_M 0 0 7 rfl rfl (by decide) tm637 rfl rfl dX4_join_163 ?_
                          refine x_iload_n B (pc := 166) 0 dX4_join_166 rfl rfl ?_
                          refine x_iconst B (pc := 167) 1 dX4_join_167 (by decide) ?_
                          refine x_iastN B (pc := 168) i 2 3 [moW am N tf tt1 bf bt 1 op tr tn 0, mlW D am (jnL L 4), mdW D am (xup (xup (aBr1 S1 i) 8 i ((aBr1 S1 i) 12 i)) 7 i 1), rtW D am tg1] hi6 (by decide) rfl rfl md_set7 rfl dX4_join_168 ?_
                          refine x_aload_n B (pc := 169) 2 dX4_join_169 rfl rfl ?_
                          refine x_get B (pc := 170) xcl_M 0 0 9 rfl rfl (by decide) tm639 rfl rfl dX4_join_170 ?_
                          refine x_iload_n B (pc := 173) 0 dX4_join_173 rfl rfl ?_
                          refine x_iconst B (pc := 174) 4 dX4_join_174 (by decide) ?_
                          refine x_iastN B (pc := 175) i 2 5 [moW am N tf tt1 bf bt 1 op tr tn 0, mlW D am (jnL L 4), mdW D am (xup (xup (xup (aBr1 S1 i) 8 i ((aBr1 S1 i) 12 i)) 7 i 1) 9 i 4), rtW D am tg1] hi6 (by decide) rfl rfl md_set9 rfl dX4_join_175 ?_
                          refine x_iinc B (pc := 176) 0 (nI (i + 1)) [(2, .int (nI (i + 1))), (1, .int n1), (0, .ref (am 0))] dX4_join_176 rfl (nI_1 i) (by decide) rfl ?_
                          refine x_goto B (pc := 179) 67 dX4_join_179 (by decide) ?_
                          refine x_lv B [0, 1, 2] [(2, .int (nI (i + 1))), (1, .int n1), (0, .ref (am 0))] rfl ?_
                          have eS : aBring S1 i = xup (xup (xup (aBr1 S1 i) 8 i ((aBr1 S1 i) 12 i)) 7 i 1) 9 i 4 := aBr_dec h129 h7i (Or.inl ⟨h143, rfl⟩)
                          have ea : aAnew (aBring S1 i) i = 0 := by rw [← aBr_anew]; exact h110
                          have eqq : jnQ S1 i q1 = q1 := by unfold jnQ; rw [if_neg (by rw [ea]; decide)]
                          refine ih (i + 1) _ _ _ (jnQ S1 i q1) _ (by omega) (by omega) (by rw [eqq]; exact hg) (by omega) ?_
                          rw [← eS]
                          exact hsuc _ (by rw [ea, Int32.add_zero])
                    · skip
                      refine x_aload_n B (pc := 113) 2 dX4_join_113 rfl rfl ?_
                      refine x_iload_n B (pc := 114) 0 dX4_join_114 rfl rfl ?_
                      refine x_iconst B (pc := 115) 1 dX4_join_115 (by decide) ?_
                      refine x_val B (y := nI 1) rfl ?_
                      refine x_callV B (pc := 116) (As := [.int (nI i), .int (nI 1)]) (c_X4_sends hl D e0 (kd := 1) (d := i) (m := m) hi6 (by decide) eb6 hm4 hg (by omega) (by omega)) xcl_M rfl 0 0 rfl rfl tm762 tm764 ts18 tm7 tm765 md_X4_sends ⟨Nat.le_of_ble_eq_true rfl, Nat.le_of_ble_eq_true rfl⟩ [0, 2, 3] rfl rfl rfl (Nat.le_of_ble_eq_true rfl) (Nat.le_of_ble_eq_true rfl) (Nat.le_of_ble_eq_true rfl) dX4_join_116 (fun E hE => False.elim hE) (fun v cs1 hp => ?_)
                      obtain ⟨rfl, tg2, hg2, rfl⟩ := hp
                      show G 119 [(2, .int (nI i)), (1, .int n1), (0, .ref (am 0))] [] [moW am N tf (tt1 + m) bf bt 1 op tr tn 0, mlW D am (jnL L 4), mdW D am (aBr1 S1 i), rtW D am tg2] 0 0
                      refine x_iinc B (pc := 119) 1 (n1 + 1) [(1, .int (n1 + 1)), (2, .int (nI i)), (0, .ref (am 0))] dX4_join_119 rfl rfl (by decide) rfl ?_
                      refine x_aload_n B (pc := 122) 2 dX4_join_122 rfl rfl ?_
                      refine x_get B (pc := 123) xcl_M 0 0 9 rfl rfl (by decide) tm639 rfl rfl dX4_join_123 ?_
                      refine x_iload_n B (pc := 126) 1 dX4_join_126 rfl rfl ?_
                      refine x_ialdN B (pc := 127) i 2 5 hi6 (by decide) rfl rfl dX4_join_127 ?_
                      refine x_iconst B (pc := 128) 3 dX4_join_128 (by decide) ?_
                      refine x_icmp_ne B (pc := 129) 176 dX4_join_129 (by decide) (fun h129 => ?_) (fun h129 => ?_)
                      · skip
                        refine x_iinc B (pc := 176) 1 (nI (i + 1)) [(2, .int (nI (i + 1))), (1, .int (n1 + 1)), (0, .ref (am 0))] dX4_join_176 rfl (nI_1 i) (by decide) rfl ?_
                        refine x_goto B (pc := 179) 67 dX4_join_179 (by decide) ?_
                        refine x_lv B [0, 1, 2] [(2, .int (nI (i + 1))), (1, .int (n1 + 1)), (0, .ref (am 0))] rfl ?_
                        have eS : aBring S1 i = aBr1 S1 i := aBr_no h129
                        have ea : aAnew (aBring S1 i) i = 1 := by rw [← aBr_anew]; exact (aAnew_01 _ _).resolve_left h110
                        have eqq : jnQ S1 i q1 = q1 ++ pts 1 i m := by unfold jnQ; rw [if_pos ea, e61, em]
                        refine ih (i + 1) _ _ _ (jnQ S1 i q1) _ (by omega) (by omega) (by rw [eqq]; exact hg2) (by omega) ?_
                        rw [← eS]
                        exact hsuc _ (by rw [ea])
                      · skip
                        refine x_aload_n B (pc := 132) 2 dX4_join_132 rfl rfl ?_
                        refine x_get B (pc := 133) xcl_M 0 0 8 rfl rfl (by decide) tm638 rfl rfl dX4_join_133 ?_
                        refine x_iload_n B (pc := 136) 1 dX4_join_136 rfl rfl ?_
                        refine x_aload_n B (pc := 137) 2 dX4_join_137 rfl rfl ?_
                        refine x_get B (pc := 138) xcl_M 0 0 7 rfl rfl (by decide) tm637 rfl rfl dX4_join_138 ?_
                        refine x_iload_n B (pc := 141) 1 dX4_join_141 rfl rfl ?_
                        refine x_ialdN B (pc := 142) i 2 3 hi6 (by decide) rfl rfl dX4_join_142 ?_
                        refine x_if_ne B (pc := 143) 155 dX4_join_143 (by decide) (fun h143 => ?_) (fun h143 => ?_)
                        · skip
                          refine x_aload_n B (pc := 155) 2 dX4_join_155 rfl rfl ?_
                          refine x_get B (pc := 156) xcl_M 0 0 8 rfl rfl (by decide) tm638 rfl rfl dX4_join_156 ?_
                          refine x_iload_n B (pc := 159) 1 dX4_join_159 rfl rfl ?_
                          refine x_ialdN B (pc := 160) i 2 4 hi6 (by decide) rfl rfl dX4_join_160 ?_
                          refine x_iastN B (pc := 161) i 2 4 [moW am N tf (tt1 + m) bf bt 1 op tr tn 0, mlW D am (jnL L 4), mdW D am (xup (aBr1 S1 i) 8 i ((aBr1 S1 i) 8 i)), rtW D am tg2] hi6 (by decide) rfl rfl md_set8 rfl dX4_join_161 ?_
                          refine x_aload_n B (pc := 162) 2 dX4_join_162 rfl rfl ?_
                          refine x_get B (pc := 163) xcl_M 0 0 7 rfl rfl (by decide) tm637 rfl rfl dX4_join_163 ?_
                          refine x_iload_n B (pc := 166) 1 dX4_join_166 rfl rfl ?_
                          refine x_iconst B (pc := 167) 1 dX4_join_167 (by decide) ?_
                          refine x_iastN B (pc := 168) i 2 3 [moW am N tf (tt1 + m) bf bt 1 op tr tn 0, mlW D am (jnL L 4), mdW D am (xup (xup (aBr1 S1 i) 8 i ((aBr1 S1 i) 8 i)) 7 i 1), rtW D am tg2] hi6 (by decide) rfl rfl md_set7 rfl dX4_join_168 ?_
                          refine x_aload_n B (pc := 169) 2 dX4_join_169 rfl rfl ?_
                          refine x_get B (pc := 170) xcl_M 0 0 9 rfl rfl (by decide) tm639 rfl rfl dX4_join_170 ?_
                          refine x_iload_n B (pc := 173) 1 dX4_join_173 rfl rfl ?_
                          refine x_iconst B (pc := 174) 4 dX4_join_174 (by decide) ?_
                          refine x_iastN B (pc := 175) i 2 5 [moW am N tf (tt1 + m) bf bt 1 op tr tn 0, mlW D am (jnL L 4), mdW D am (xup (xup (xup (aBr1 S1 i) 8 i ((aBr1 S1 i) 8 i)) 7 i 1) 9 i 4), rtW D am tg2] hi6 (by decide) rfl rfl md_set9 rfl dX4_join_175 ?_
                          refine x_iinc B (pc := 176) 1 (nI (i + 1)) [(2, .int (nI (i + 1))), (1, .int (n1 + 1)), (0, .ref (am 0))] dX4_join_176 rfl (nI_1 i) (by decide) rfl ?_
                          refine x_goto B (pc := 179) 67 dX4_join_179 (by decide) ?_
                          refine x_lv B [0, 1, 2] [(2, .int (nI (i + 1))), (1, .int (n1 + 1)), (0, .ref (am 0))] rfl ?_
                          have eS : aBring S1 i = xup (xup (xup (aBr1 S1 i) 8 i ((aBr1 S1 i) 8 i)) 7 i 1) 9 i 4 := aBr_dec h129 h7i (Or.inr ⟨h143, rfl⟩)
                          have ea : aAnew (aBring S1 i) i = 1 := by rw [← aBr_anew]; exact (aAnew_01 _ _).resolve_left h110
                          have eqq : jnQ S1 i q1 = q1 ++ pts 1 i m := by unfold jnQ; rw [if_pos ea, e61, em]
                          refine ih (i + 1) _ _ _ (jnQ S1 i q1) _ (by omega) (by omega) (by rw [eqq]; exact hg2) (by omega) ?_
                          rw [← eS]
                          exact hsuc _ (by rw [ea])
                        · skip
                          refine x_aload_n B (pc := 146) 2 dX4_join_146 rfl rfl ?_
                          refine x_get B (pc := 147) xcl_M 0 0 12 rfl rfl (by decide) tm642 rfl rfl dX4_join_147 ?_
                          refine x_iload_n B (pc := 150) 1 dX4_join_150 rfl rfl ?_
                          refine x_ialdN B (pc := 151) i 2 8 hi6 (by decide) rfl rfl dX4_join_151 ?_
                          refine x_goto B (pc := 152) 161 dX4_join_152 (by decide) ?_
                          refine x_iastN B (pc := 161) i 2 4 [moW am N tf (tt1 + m) bf bt 1 op tr tn 0, mlW D am (jnL L 4), mdW D am (xup (aBr1 S1 i) 8 i ((aBr1 S1 i) 12 i)), rtW D am tg2] hi6 (by decide) rfl rfl md_set8 rfl dX4_join_161 ?_
                          refine x_aload_n B (pc := 162) 2 dX4_join_162 rfl rfl ?_
                          refine x_get B (pc := 163) xcl_M 0 0 7 rfl rfl (by decide) tm637 rfl rfl dX4_join_163 ?_
                          refine x_iload_n B (pc := 166) 1 dX4_join_166 rfl rfl ?_
                          refine x_iconst B (pc := 167) 1 dX4_join_167 (by decide) ?_
                          refine x_iastN B (pc := 168) i 2 3 [moW am N tf (tt1 + m) bf bt 1 op tr tn 0, mlW D am (jnL L 4), mdW D am (xup (xup (aBr1 S1 i) 8 i ((aBr1 S1 i) 12 i)) 7 i 1), rtW D am tg2] hi6 (by decide) rfl rfl md_set7 rfl dX4_join_168 ?_
                          refine x_aload_n B (pc := 169) 2 dX4_join_169 rfl rfl ?_
                          refine x_get B (pc := 170) xcl_M 0 0 9 rfl rfl (by decide) tm639 rfl rfl dX4_join_170 ?_
                          refine x_iload_n B (pc := 173) 1 dX4_join_173 rfl rfl ?_
                          refine x_iconst B (pc := 174) 4 dX4_join_174 (by decide) ?_
                          refine x_iastN B (pc := 175) i 2 5 [moW am N tf (tt1 + m) bf bt 1 op tr tn 0, mlW D am (jnL L 4), mdW D am (xup (xup (xup (aBr1 S1 i) 8 i ((aBr1 S1 i) 12 i)) 7 i 1) 9 i 4), rtW D am tg2] hi6 (by decide) rfl rfl md_set9 rfl dX4_join_175 ?_
                          refine x_iinc B (pc := 176) 1 (nI (i + 1)) [(2, .int (nI (i + 1))), (1, .int (n1 + 1)), (0, .ref (am 0))] dX4_join_176 rfl (nI_1 i) (by decide) rfl ?_
                          refine x_goto B (pc := 179) 67 dX4_join_179 (by decide) ?_
                          refine x_lv B [0, 1, 2] [(2, .int (nI (i + 1))), (1, .int (n1 + 1)), (0, .ref (am 0))] rfl ?_
                          have eS : aBring S1 i = xup (xup (xup (aBr1 S1 i) 8 i ((aBr1 S1 i) 12 i)) 7 i 1) 9 i 4 := aBr_dec h129 h7i (Or.inl ⟨h143, rfl⟩)
                          have ea : aAnew (aBring S1 i) i = 1 := by rw [← aBr_anew]; exact (aAnew_01 _ _).resolve_left h110
                          have eqq : jnQ S1 i q1 = q1 ++ pts 1 i m := by unfold jnQ; rw [if_pos ea, e61, em]
                          refine ih (i + 1) _ _ _ (jnQ S1 i q1) _ (by omega) (by omega) (by rw [eqq]; exact hg2) (by omega) ?_
                          rw [← eS]
                          exact hsuc _ (by rw [ea])
          refine x_lv B [0, 1, 2] [(2, .int (nI 0)), (1, .int 0), (0, .ref (am 0))] rfl ?_
          exact hloop67 (N + 1) 0 tt tg S qf 0 (Nat.zero_le _) (by omega) hq (Nat.le_refl _) rfl
        · skip
          have hj : j < 4 := Nat.lt_of_not_le (fun e => h30 (nI_le (a := 4) e (by omega)))
          refine x_aload_n B (pc := 33) 1 dX4_join_33 rfl rfl ?_
          refine x_get B (pc := 34) xcl_M 0 0 3 rfl rfl (by decide) tm633 rfl rfl dX4_join_34 ?_
          refine x_iload_n B (pc := 37) 0 dX4_join_37 rfl rfl ?_
          refine x_aload_n B (pc := 38) 1 dX4_join_38 rfl rfl ?_
          refine x_get B (pc := 39) xcl_M 0 0 1 rfl rfl (by decide) tm631 rfl rfl dX4_join_39 ?_
          refine x_iload_n B (pc := 42) 0 dX4_join_42 rfl rfl ?_
          refine x_ialdN B (pc := 43) j 1 1 hj (by decide) rfl rfl dX4_join_43 ?_
          refine x_iastN B (pc := 44) j 1 3 [moW am N tf tt bf bt 1 op tr tn 0, mlW D am (xup (jnL L j) 3 j ((jnL L j) 1 j)), mdW D am S, rtW D am tg] hj (by decide) rfl rfl ml_set3 rfl dX4_join_44 ?_
          refine x_aload_n B (pc := 45) 1 dX4_join_45 rfl rfl ?_
          refine x_get B (pc := 46) xcl_M 0 0 2 rfl rfl (by decide) tm632 rfl rfl dX4_join_46 ?_
          refine x_iload_n B (pc := 49) 0 dX4_join_49 rfl rfl ?_
          refine x_aload_n B (pc := 50) 1 dX4_join_50 rfl rfl ?_
          refine x_get B (pc := 51) xcl_M 0 0 1 rfl rfl (by decide) tm631 rfl rfl dX4_join_51 ?_
          refine x_iload_n B (pc := 54) 0 dX4_join_54 rfl rfl ?_
          refine x_ialdN B (pc := 55) j 1 1 hj (by decide) rfl rfl dX4_join_55 ?_
          refine x_val B (y := (jnL L j) 1 j) rfl ?_
          refine x_iastN B (pc := 56) j 1 2 [moW am N tf tt bf bt 1 op tr tn 0, mlW D am (xup (xup (jnL L j) 3 j ((jnL L j) 1 j)) 2 j ((jnL L j) 1 j)), mdW D am S, rtW D am tg] hj (by decide) rfl rfl ml_set2 rfl dX4_join_56 ?_
          refine x_iinc B (pc := 57) 0 (nI (j + 1)) [(1, .int (nI (j + 1))), (0, .ref (am 0))] dX4_join_57 rfl (nI_1 j) (by decide) rfl ?_
          refine x_goto B (pc := 60) 28 dX4_join_60 (by decide) ?_
          refine x_lv B [0, 1] [(1, .int (nI (j + 1))), (0, .ref (am 0))] rfl ?_
          exact ih (j + 1) (by omega) (by omega)
    refine x_lv B [0, 1] [(1, .int (nI 0)), (0, .ref (am 0))] rfl ?_
    exact hloop28 5 0 (by omega) (by omega)
  · skip
    refine x_aload_n B (pc := 0) 0 dX4_join_0 rfl rfl ?_
    refine x_aload_n B (pc := 1) 0 dX4_join_1 rfl rfl ?_
    refine x_get B (pc := 2) (v := .int 1) xcl_M 0 0 22 rfl rfl (by decide) tm652 rfl rfl dX4_join_2 ?_
    refine x_if_ne B (pc := 5) 12 dX4_join_5 (by decide) (fun h5 => ?_) (fun h5 => absurd h5 (by decide))
    refine x_iconst B (pc := 12) 0 dX4_join_12 (by decide) ?_
    refine x_callV B (pc := 13) (As := [.int 0]) (c_X4_asked hl D e0 (p := false)) xcl_M rfl 0 0 rfl rfl tm750 tm752 ts16 tm7 tm753 md_X4_asked ⟨Nat.le_of_ble_eq_true rfl, Nat.le_of_ble_eq_true rfl⟩ [0] rfl rfl rfl (Nat.le_of_ble_eq_true rfl) (Nat.le_of_ble_eq_true rfl) (Nat.le_of_ble_eq_true rfl) dX4_join_13 (fun E hE => False.elim hE) (fun v cs1 hp => ?_)
    obtain ⟨rfl, rfl⟩ := hp
    show G 16 [(0, .ref (am 0))] [.int 0] [moW am N tf tt bf bt 1 op tr tn (nI 1), mlW D am L, mdW D am S, rtW D am tg] 0 0
    refine x_if_ne B (pc := 16) 21 dX4_join_16 (by decide) (fun h16 => absurd (by decide) h16) (fun h16 => ?_)
    refine x_iconst B (pc := 19) 0 dX4_join_19 (by decide) ?_
    have hc : cod (decide ((1 : Int32) = 0)) true true = 1 := by first | rfl
    exact x_iret F (pc := 20) rfl dX4_join_20 (Or.inr ⟨by rw [hc]; decide, ⟨_, rfl⟩, by rw [hc]⟩) (Nat.le_of_ble_eq_true rfl) (Nat.le_of_ble_eq_true rfl)

set_option maxRecDepth 100000 in
set_option maxHeartbeats 4000000 in
theorem c_X4_end {l : Launch} (hl : l.stackTraces = false) (D : va_G) (e0 : Nat) {am : Nat → Nat} {N tf tt bf bt : Nat} {up op tr : Int32} {tn : Nat} {th : Int32} {tq : List Nat} {S : xS} {bg : Nat → Int32} {td : Nat → Int32} {qb : List xFr} {b : Int32} (hop : op = 0 ∨ op = 1) (hT : tq.length ≤ 60) (hin : ∀ i, i < tq.length → tq.getD i 0 < 60) (htd : ∀ i, i < tq.length → td i = nI (tq.getD i 0)) (hb9 : mgOk encB qb bf bt bg) (hlb : qb.length + tq.length < 2048) (htt : bt + tq.length < 2 ^ 30) (hw : ∀ i, i < tq.length → ∃ o, o ≤ 2 ∧ S 14 (tq.getD i 0) = nI o) : xC l yX4_end (.code yX4_end cX4_end 4 (some .int)) ({ frames := 2, cells := 0, slots := 0, locals := 43 } : Room) D e0 [.ref (am 0), .int b] [moW am N tf tt bf bt up op tr tq.length th, mdW D am S, rbW D am bg, tdW D am td] (fun w cs => (cod (decide (op = 1)) true true = 0 ∧ w = some (.int (eR tq b)) ∧ ∃ bt1 bg1, bt1 ≤ bt + tq.length ∧ mgOk encB (eQ S qb tq b) bf bt1 bg1 ∧ cs = [moW am N tf tt bf bt1 up 0 tr 0 0, mdW D am (eS S tq b), rbW D am bg1, tdW D am td]) ∨ (cod (decide (op = 1)) true true ≠ 0 ∧ (∃ z, w = some (.int z)) ∧ cs = [moW am N tf tt bf bt up op tr tq.length (nI (cod (decide (op = 1)) true true)), mdW D am S, rbW D am bg, tdW D am td])) (fun _ => False) := by
  refine xC_of hl (by decide +kernel) (Nat.le_of_ble_eq_true rfl) (fun G X F => ?_)
  have B : xB l D e0 "CreditLinksModel" cX4_end 4 (some .int) [] _ G X := F.base
  show G 0 [(0, .ref (am 0)), (1, .int b)] [] [moW am N tf tt bf bt up op tr tq.length th, mdW D am S, rbW D am bg, tdW D am td] 0 0
  rcases hop with rfl | rfl
  · skip
    refine x_aload_n B (pc := 0) 0 dX4_end_0 rfl rfl ?_
    refine x_aload_n B (pc := 1) 0 dX4_end_1 rfl rfl ?_
    refine x_get B (pc := 2) (v := .int 0) xcl_M 0 0 23 rfl rfl (by decide) tm653 rfl rfl dX4_end_2 ?_
    refine x_callV B (pc := 5) (As := [.int 0]) (c_X4_asked hl D e0 (p := false)) xcl_M rfl 0 0 rfl rfl tm750 tm752 ts16 tm7 tm753 md_X4_asked ⟨Nat.le_of_ble_eq_true rfl, Nat.le_of_ble_eq_true rfl⟩ [0] rfl rfl rfl (Nat.le_of_ble_eq_true rfl) (Nat.le_of_ble_eq_true rfl) (Nat.le_of_ble_eq_true rfl) dX4_end_5 (fun E hE => False.elim hE) (fun v cs1 hp => ?_)
    obtain ⟨rfl, rfl⟩ := hp
    show G 8 [(0, .ref (am 0)), (1, .int b)] [.int 0] [moW am N tf tt bf bt up 0 tr tq.length (nI 1), mdW D am S, rbW D am bg, tdW D am td] 0 0
    refine x_if_ne B (pc := 8) 13 dX4_end_8 (by decide) (fun h8 => absurd (by decide) h8) (fun h8 => ?_)
    refine x_iconst B (pc := 11) 0 dX4_end_11 (by decide) ?_
    have hc : cod (decide ((0 : Int32) = 1)) true true = 1 := by first | rfl
    exact x_iret F (pc := 12) rfl dX4_end_12 (Or.inr ⟨by rw [hc]; decide, ⟨_, rfl⟩, by rw [hc]⟩) (Nat.le_of_ble_eq_true rfl) (Nat.le_of_ble_eq_true rfl)
  · skip
    refine x_aload_n B (pc := 0) 0 dX4_end_0 rfl rfl ?_
    refine x_aload_n B (pc := 1) 0 dX4_end_1 rfl rfl ?_
    refine x_get B (pc := 2) (v := .int 1) xcl_M 0 0 23 rfl rfl (by decide) tm653 rfl rfl dX4_end_2 ?_
    refine x_callV B (pc := 5) (As := [.int 1]) (c_X4_asked hl D e0 (p := true)) xcl_M rfl 0 0 rfl rfl tm750 tm752 ts16 tm7 tm753 md_X4_asked ⟨Nat.le_of_ble_eq_true rfl, Nat.le_of_ble_eq_true rfl⟩ [0] rfl rfl rfl (Nat.le_of_ble_eq_true rfl) (Nat.le_of_ble_eq_true rfl) (Nat.le_of_ble_eq_true rfl) dX4_end_5 (fun E hE => False.elim hE) (fun v cs1 hp => ?_)
    obtain ⟨rfl, rfl⟩ := hp
    show G 8 [(0, .ref (am 0)), (1, .int b)] [.int 1] [moW am N tf tt bf bt up 1 tr tq.length 0, mdW D am S, rbW D am bg, tdW D am td] 0 0
    refine x_if_ne B (pc := 8) 13 dX4_end_8 (by decide) (fun h8 => ?_) (fun h8 => absurd h8 (by decide))
    refine x_iload_n B (pc := 13) 1 dX4_end_13 rfl rfl ?_
    refine x_if_eq B (pc := 14) 24 dX4_end_14 (by decide) (fun h14 => ?_) (fun h14 => ?_)
    · skip
      refine x_iconst B (pc := 24) 0 dX4_end_24 (by decide) ?_
      refine x_val B (y := nI 0) rfl ?_
      refine x_istore_n B (pc := 25) [(2, .int (nI 0)), (0, .ref (am 0)), (1, .int b)] dX4_end_25 rfl (by decide) rfl ?_
      refine x_iconst B (pc := 26) 0 dX4_end_26 (by decide) ?_
      refine x_val B (y := nI 0) rfl ?_
      refine x_istore_n B (pc := 27) [(3, .int (nI 0)), (2, .int (nI 0)), (0, .ref (am 0)), (1, .int b)] dX4_end_27 rfl (by decide) rfl ?_
      refine x_iload_n B (pc := 28) 0 dX4_end_28 rfl rfl ?_
      refine x_iload_n B (pc := 29) 1 dX4_end_29 rfl rfl ?_
      refine x_icmp_ge B (pc := 30) 60 dX4_end_30 (by decide) (fun h30 => ?_) (fun h30 => absurd (by decide) h30)
      refine x_aload_n B (pc := 60) 2 dX4_end_60 rfl rfl ?_
      refine x_callV B (pc := 61) (As := []) (c_X4_drops hl D e0 (tn := 0) hT hin htd) xcl_M rfl 0 0 rfl rfl tm830 tm832 ts24 tm7 tm833 md_X4_drops ⟨Nat.le_of_ble_eq_true rfl, Nat.le_of_ble_eq_true rfl⟩ [0, 1, 3] rfl rfl rfl (Nat.le_of_ble_eq_true rfl) (Nat.le_of_ble_eq_true rfl) (Nat.le_of_ble_eq_true rfl) dX4_end_61 (fun E hE => False.elim hE) (fun v cs1 hp => ?_)
      obtain ⟨rfl, rfl⟩ := hp
      show G 64 [(3, .int (nI 0)), (2, .int (nI 0)), (0, .ref (am 0)), (1, .int b)] [] [moW am N tf tt bf bt up 0 tr 0 0, mdW D am (clrS S tq), rbW D am bg, tdW D am td] 0 0
      refine x_iload_n B (pc := 64) 1 dX4_end_64 rfl rfl ?_
      exact x_iret F (pc := 65) rfl dX4_end_65 (Or.inl ⟨rfl, by unfold eR; rw [if_pos h14], bt, bg, Nat.le_add_right _ _, by unfold eQ; rw [if_pos h14]; exact hb9, by unfold eS; rw [if_pos h14]⟩) (Nat.le_of_ble_eq_true rfl) (Nat.le_of_ble_eq_true rfl)
    · skip
      refine x_aload_n B (pc := 17) 0 dX4_end_17 rfl rfl ?_
      refine x_get B (pc := 18) (v := .int (nI tq.length)) xcl_M 0 0 26 rfl rfl (by decide) tm656 rfl rfl dX4_end_18 ?_
      refine x_goto B (pc := 21) 25 dX4_end_21 (by decide) ?_
      refine x_istore_n B (pc := 25) [(2, .int (nI tq.length)), (0, .ref (am 0)), (1, .int b)] dX4_end_25 rfl (by decide) rfl ?_
      refine x_iconst B (pc := 26) 0 dX4_end_26 (by decide) ?_
      refine x_val B (y := nI 0) rfl ?_
      refine x_istore_n B (pc := 27) [(3, .int (nI 0)), (2, .int (nI tq.length)), (0, .ref (am 0)), (1, .int b)] dX4_end_27 rfl (by decide) rfl ?_
      have hloop28 : ∀ (fu : Nat) (i bt1 : Nat) (bg1 : Nat → Int32), i ≤ tq.length → tq.length + 1 ≤ i + fu → mgOk encB (coQ S qb (tq.take i)) bf bt1 bg1 → bt1 ≤ bt + i → G 28 [(3, .int (nI i)), (2, .int (nI tq.length)), (1, .int b), (0, .ref (am 0))] [] [moW am N tf tt bf bt1 up 1 tr tq.length 0, mdW D am (coS S (tq.take i)), rbW D am bg1, tdW D am td] 0 0 := by
        intro fu
        induction fu with
        | zero =>
          intro i bt1 bg1 hi hfu hg ht1
          omega
        | succ fu ih =>
          intro i bt1 bg1 hi hfu hg ht1
          refine x_iload_n B (pc := 28) 0 dX4_end_28 rfl rfl ?_
          refine x_iload_n B (pc := 29) 1 dX4_end_29 rfl rfl ?_
          refine x_icmp_ge B (pc := 30) 60 dX4_end_30 (by decide) (fun h30 => ?_) (fun h30 => ?_)
          · skip
            have hge : i = tq.length := by
              have := (nI_leI (by omega) (by omega)).mp h30
              omega
            subst hge
            rw [List.take_length] at hg ⊢
            refine x_aload_n B (pc := 60) 3 dX4_end_60 rfl rfl ?_
            refine x_callV B (pc := 61) (As := []) (c_X4_drops hl D e0 (tn := 0) hT hin htd) xcl_M rfl 0 0 rfl rfl tm830 tm832 ts24 tm7 tm833 md_X4_drops ⟨Nat.le_of_ble_eq_true rfl, Nat.le_of_ble_eq_true rfl⟩ [0, 1, 3] rfl rfl rfl (Nat.le_of_ble_eq_true rfl) (Nat.le_of_ble_eq_true rfl) (Nat.le_of_ble_eq_true rfl) dX4_end_61 (fun E hE => False.elim hE) (fun v cs1 hp => ?_)
            obtain ⟨rfl, rfl⟩ := hp
            show G 64 [(3, .int (nI tq.length)), (2, .int (nI tq.length)), (1, .int b), (0, .ref (am 0))] [] [moW am N tf tt bf bt1 up 0 tr 0 0, mdW D am (clrS (coS S tq) tq), rbW D am bg1, tdW D am td] 0 0
            refine x_iload_n B (pc := 64) 1 dX4_end_64 rfl rfl ?_
            exact x_iret F (pc := 65) rfl dX4_end_65 (Or.inl ⟨rfl, by unfold eR; rw [if_neg h14], bt1, bg1, ht1, by unfold eQ; rw [if_neg h14]; exact hg, by unfold eS; rw [if_neg h14]⟩) (Nat.le_of_ble_eq_true rfl) (Nat.le_of_ble_eq_true rfl)
          · skip
            have hlt : i < tq.length := Nat.lt_of_not_le (fun e => h30 (nI_le e (by omega)))
            obtain ⟨oo, ho2, eo⟩ := hw i hlt
            have e14 : coS S (tq.take i) 14 (tq.getD i 0) = nI oo := by rw [coS_k S _ (by decide)]; exact eo
            have hl1 : (coQ S qb (tq.take i)).length < 2048 := by
              have := coQ_len S qb (tq.take i)
              have h2 : (tq.take i).length ≤ i := by rw [List.length_take]; omega
              omega
            have eS1 : aDec (coS S (tq.take i)) (tq.getD i 0) (nI oo) = coS S (tq.take (i + 1)) := by rw [take_snoc hlt, coS_snoc, eo]
            have eQ1 : aOut (coS S (tq.take i)) (tq.getD i 0) oo (coQ S qb (tq.take i)) = coQ S qb (tq.take (i + 1)) := by rw [take_snoc hlt, coQ_snoc, eo, ix_nI (by omega)]; unfold aOut; rw [coS_k S _ (by decide)]
            refine x_aload_n B (pc := 33) 3 dX4_end_33 rfl rfl ?_
            refine x_aload_n B (pc := 34) 3 dX4_end_34 rfl rfl ?_
            refine x_get B (pc := 35) xcl_M 0 0 25 rfl rfl (by decide) tm655 rfl rfl dX4_end_35 ?_
            refine x_iload_n B (pc := 38) 0 dX4_end_38 rfl rfl ?_
            refine x_ialdN B (pc := 39) i 3 0 (by omega) (by decide) rfl rfl dX4_end_39 ?_
            refine x_val B (y := nI (tq.getD i 0)) (htd i hlt) ?_
            refine x_aload_n B (pc := 40) 3 dX4_end_40 rfl rfl ?_
            refine x_get B (pc := 41) xcl_M 0 0 14 rfl rfl (by decide) tm644 rfl rfl dX4_end_41 ?_
            refine x_aload_n B (pc := 44) 3 dX4_end_44 rfl rfl ?_
            refine x_get B (pc := 45) xcl_M 0 0 25 rfl rfl (by decide) tm655 rfl rfl dX4_end_45 ?_
            refine x_iload_n B (pc := 48) 0 dX4_end_48 rfl rfl ?_
            refine x_ialdN B (pc := 49) i 3 0 (by omega) (by decide) rfl rfl dX4_end_49 ?_
            refine x_val B (y := nI (tq.getD i 0)) (htd i hlt) ?_
            refine x_ialdN B (pc := 50) (tq.getD i 0) 1 10 (hin i hlt) (by decide) rfl rfl dX4_end_50 ?_
            refine x_val B (y := nI oo) e14 ?_
            refine x_callV B (pc := 51) (As := [.int (nI (tq.getD i 0)), .int (nI oo)]) (c_X4_decides hl D e0 (hin i hlt) (by omega) hg hl1 (by omega)) xcl_M rfl 0 0 rfl rfl tm790 tm792 ts22 tm7 tm793 md_X4_decides ⟨Nat.le_of_ble_eq_true rfl, Nat.le_of_ble_eq_true rfl⟩ [0, 1, 2] rfl rfl rfl (Nat.le_of_ble_eq_true rfl) (Nat.le_of_ble_eq_true rfl) (Nat.le_of_ble_eq_true rfl) dX4_end_51 (fun E hE => False.elim hE) (fun v cs1 hp => ?_)
            obtain ⟨rfl, bt2, bg2, hb2, hg2, rfl⟩ := hp
            rw [eQ1] at hg2
            rw [eS1]
            show G 54 [(3, .int (nI i)), (2, .int (nI tq.length)), (1, .int b), (0, .ref (am 0))] [] [moW am N tf tt bf bt2 up 1 tr tq.length 0, mdW D am (coS S (tq.take (i + 1))), rbW D am bg2, tdW D am td] 0 0
            refine x_iinc B (pc := 54) 0 (nI (i + 1)) [(3, .int (nI (i + 1))), (2, .int (nI tq.length)), (1, .int b), (0, .ref (am 0))] dX4_end_54 rfl (nI_1 i) (by decide) rfl ?_
            refine x_goto B (pc := 57) 28 dX4_end_57 (by decide) ?_
            refine x_lv B [0, 1, 2, 3] [(3, .int (nI (i + 1))), (2, .int (nI tq.length)), (1, .int b), (0, .ref (am 0))] rfl ?_
            exact ih (i + 1) bt2 bg2 (by omega) (by omega) hg2 (by omega)
      refine x_lv B [0, 1, 3, 2] [(3, .int (nI 0)), (2, .int (nI tq.length)), (1, .int b), (0, .ref (am 0))] rfl ?_
      exact hloop28 (tq.length + 1) 0 bt bg (Nat.zero_le _) (by omega) hb9 (Nat.le_refl _)

set_option maxRecDepth 100000 in
set_option maxHeartbeats 4000000 in
theorem c_X4_init {l : Launch} (hl : l.stackTraces = false) (D : va_G) (e0 : Nat) {x : Nat}  : xC l yX4_init (.code yX4_init cX4_init 1 none) ({ frames := 1, cells := 18, slots := 4832, locals := 12 } : Room) D e0 [.ref x] [[(x, .inr (5, [.null, .null, .null, .null, .null, .null, .null, .null, .null, .null, .null, .null, .null, .null, .null, .int 0, .null, .int 0, .int 0, .null, .int 0, .int 0, .int 0, .int 0, .int 0, .null, .int 0, .int 0]))]] (fun v cs => v = none ∧ ∃ am : Nat → Nat, am 0 = x ∧ cs = [moW am 0 0 0 0 0 1 0 0 0 0, mlW D am (fun _ _ => 0), mdW D am (fun _ _ => 0), rtW D am (fun _ => 0), rbW D am (fun _ => 0), tdW D am (fun _ => 0)]) (fun _ => False) := by
  refine xC_of hl (by decide +kernel) (Nat.le_of_ble_eq_true rfl) (fun G X F => ?_)
  have B : xB l D e0 "CreditLinksModel" cX4_init 1 none [] _ G X := F.base
  show G 0 [(0, .ref x)] [] [[(x, .inr (5, [.null, .null, .null, .null, .null, .null, .null, .null, .null, .null, .null, .null, .null, .null, .null, .int 0, .null, .int 0, .int 0, .null, .int 0, .int 0, .int 0, .int 0, .int 0, .null, .int 0, .int 0]))]] 0 0
  refine x_aload_n B (pc := 0) 0 dX4_init_0 rfl rfl ?_
  refine x_objInit B (pc := 1) tm629 tm27 tm28 (Nat.le_of_ble_eq_true rfl) (Nat.le_of_ble_eq_true rfl) dX4_init_1 ?_
  refine x_aload_n B (pc := 4) 0 dX4_init_4 rfl rfl ?_
  refine x_iconst B (pc := 5) 4 dX4_init_5 (by decide) ?_
  refine x_val B (y := nI 4) rfl ?_
  refine x_newI B (pc := 6) 4 tm79 (by decide) (by decide) (by decide) (Nat.le_of_ble_eq_true rfl) (Nat.le_of_ble_eq_true rfl) dX4_init_6 (fun a1 => ?_)
  show G 8 [(0, .ref x)] [.ref a1, .ref x] [[(x, .inr (5, [.null, .null, .null, .null, .null, .null, .null, .null, .null, .null, .null, .null, .null, .null, .null, .int 0, .null, .int 0, .int 0, .null, .int 0, .int 0, .int 0, .int 0, .int 0, .null, .int 0, .int 0]))], [(a1, .inl (D.1 10, 4, .inl (fun _ => 0)))]] 1 4
  refine x_putF F (pc := 8) xcl_M 0 0 0 [[(x, .inr (5, [.ref a1, .null, .null, .null, .null, .null, .null, .null, .null, .null, .null, .null, .null, .null, .null, .int 0, .null, .int 0, .int 0, .null, .int 0, .int 0, .int 0, .int 0, .int 0, .null, .int 0, .int 0]))], [(a1, .inl (D.1 10, 4, .inl (fun _ => 0)))]] rfl rfl (by decide) tm630 rfl rfl rfl rfl rfl rfl rfl (Nat.le_of_ble_eq_true rfl) rfl rfl dX4_init_8 ?_
  refine x_aload_n B (pc := 11) 0 dX4_init_11 rfl rfl ?_
  refine x_iconst B (pc := 12) 4 dX4_init_12 (by decide) ?_
  refine x_val B (y := nI 4) rfl ?_
  refine x_newI B (pc := 13) 4 tm79 (by decide) (by decide) (by decide) (Nat.le_of_ble_eq_true rfl) (Nat.le_of_ble_eq_true rfl) dX4_init_13 (fun a2 => ?_)
  show G 15 [(0, .ref x)] [.ref a2, .ref x] [[(x, .inr (5, [.ref a1, .null, .null, .null, .null, .null, .null, .null, .null, .null, .null, .null, .null, .null, .null, .int 0, .null, .int 0, .int 0, .null, .int 0, .int 0, .int 0, .int 0, .int 0, .null, .int 0, .int 0]))], [(a1, .inl (D.1 10, 4, .inl (fun _ => 0)))], [(a2, .inl (D.1 10, 4, .inl (fun _ => 0)))]] 2 8
  refine x_putF F (pc := 15) xcl_M 0 0 1 [[(x, .inr (5, [.ref a1, .ref a2, .null, .null, .null, .null, .null, .null, .null, .null, .null, .null, .null, .null, .null, .int 0, .null, .int 0, .int 0, .null, .int 0, .int 0, .int 0, .int 0, .int 0, .null, .int 0, .int 0]))], [(a1, .inl (D.1 10, 4, .inl (fun _ => 0)))], [(a2, .inl (D.1 10, 4, .inl (fun _ => 0)))]] rfl rfl (by decide) tm631 rfl rfl rfl rfl rfl rfl rfl (Nat.le_of_ble_eq_true rfl) rfl rfl dX4_init_15 ?_
  refine x_aload_n B (pc := 18) 0 dX4_init_18 rfl rfl ?_
  refine x_iconst B (pc := 19) 4 dX4_init_19 (by decide) ?_
  refine x_val B (y := nI 4) rfl ?_
  refine x_newI B (pc := 20) 4 tm79 (by decide) (by decide) (by decide) (Nat.le_of_ble_eq_true rfl) (Nat.le_of_ble_eq_true rfl) dX4_init_20 (fun a3 => ?_)
  show G 22 [(0, .ref x)] [.ref a3, .ref x] [[(x, .inr (5, [.ref a1, .ref a2, .null, .null, .null, .null, .null, .null, .null, .null, .null, .null, .null, .null, .null, .int 0, .null, .int 0, .int 0, .null, .int 0, .int 0, .int 0, .int 0, .int 0, .null, .int 0, .int 0]))], [(a1, .inl (D.1 10, 4, .inl (fun _ => 0)))], [(a2, .inl (D.1 10, 4, .inl (fun _ => 0)))], [(a3, .inl (D.1 10, 4, .inl (fun _ => 0)))]] 3 12
  refine x_putF F (pc := 22) xcl_M 0 0 2 [[(x, .inr (5, [.ref a1, .ref a2, .ref a3, .null, .null, .null, .null, .null, .null, .null, .null, .null, .null, .null, .null, .int 0, .null, .int 0, .int 0, .null, .int 0, .int 0, .int 0, .int 0, .int 0, .null, .int 0, .int 0]))], [(a1, .inl (D.1 10, 4, .inl (fun _ => 0)))], [(a2, .inl (D.1 10, 4, .inl (fun _ => 0)))], [(a3, .inl (D.1 10, 4, .inl (fun _ => 0)))]] rfl rfl (by decide) tm632 rfl rfl rfl rfl rfl rfl rfl (Nat.le_of_ble_eq_true rfl) rfl rfl dX4_init_22 ?_
  refine x_aload_n B (pc := 25) 0 dX4_init_25 rfl rfl ?_
  refine x_iconst B (pc := 26) 4 dX4_init_26 (by decide) ?_
  refine x_val B (y := nI 4) rfl ?_
  refine x_newI B (pc := 27) 4 tm79 (by decide) (by decide) (by decide) (Nat.le_of_ble_eq_true rfl) (Nat.le_of_ble_eq_true rfl) dX4_init_27 (fun a4 => ?_)
  show G 29 [(0, .ref x)] [.ref a4, .ref x] [[(x, .inr (5, [.ref a1, .ref a2, .ref a3, .null, .null, .null, .null, .null, .null, .null, .null, .null, .null, .null, .null, .int 0, .null, .int 0, .int 0, .null, .int 0, .int 0, .int 0, .int 0, .int 0, .null, .int 0, .int 0]))], [(a1, .inl (D.1 10, 4, .inl (fun _ => 0)))], [(a2, .inl (D.1 10, 4, .inl (fun _ => 0)))], [(a3, .inl (D.1 10, 4, .inl (fun _ => 0)))], [(a4, .inl (D.1 10, 4, .inl (fun _ => 0)))]] 4 16
  refine x_putF F (pc := 29) xcl_M 0 0 3 [[(x, .inr (5, [.ref a1, .ref a2, .ref a3, .ref a4, .null, .null, .null, .null, .null, .null, .null, .null, .null, .null, .null, .int 0, .null, .int 0, .int 0, .null, .int 0, .int 0, .int 0, .int 0, .int 0, .null, .int 0, .int 0]))], [(a1, .inl (D.1 10, 4, .inl (fun _ => 0)))], [(a2, .inl (D.1 10, 4, .inl (fun _ => 0)))], [(a3, .inl (D.1 10, 4, .inl (fun _ => 0)))], [(a4, .inl (D.1 10, 4, .inl (fun _ => 0)))]] rfl rfl (by decide) tm633 rfl rfl rfl rfl rfl rfl rfl (Nat.le_of_ble_eq_true rfl) rfl rfl dX4_init_29 ?_
  refine x_aload_n B (pc := 32) 0 dX4_init_32 rfl rfl ?_
  refine x_bipush B (pc := 33) 60 dX4_init_33 (by decide) ?_
  refine x_val B (y := nI 60) rfl ?_
  refine x_newI B (pc := 35) 60 tm79 (by decide) (by decide) (by decide) (Nat.le_of_ble_eq_true rfl) (Nat.le_of_ble_eq_true rfl) dX4_init_35 (fun a5 => ?_)
  show G 37 [(0, .ref x)] [.ref a5, .ref x] [[(x, .inr (5, [.ref a1, .ref a2, .ref a3, .ref a4, .null, .null, .null, .null, .null, .null, .null, .null, .null, .null, .null, .int 0, .null, .int 0, .int 0, .null, .int 0, .int 0, .int 0, .int 0, .int 0, .null, .int 0, .int 0]))], [(a1, .inl (D.1 10, 4, .inl (fun _ => 0)))], [(a2, .inl (D.1 10, 4, .inl (fun _ => 0)))], [(a3, .inl (D.1 10, 4, .inl (fun _ => 0)))], [(a4, .inl (D.1 10, 4, .inl (fun _ => 0)))], [(a5, .inl (D.1 10, 60, .inl (fun _ => 0)))]] 5 76
  refine x_putF F (pc := 37) xcl_M 0 0 4 [[(x, .inr (5, [.ref a1, .ref a2, .ref a3, .ref a4, .ref a5, .null, .null, .null, .null, .null, .null, .null, .null, .null, .null, .int 0, .null, .int 0, .int 0, .null, .int 0, .int 0, .int 0, .int 0, .int 0, .null, .int 0, .int 0]))], [(a1, .inl (D.1 10, 4, .inl (fun _ => 0)))], [(a2, .inl (D.1 10, 4, .inl (fun _ => 0)))], [(a3, .inl (D.1 10, 4, .inl (fun _ => 0)))], [(a4, .inl (D.1 10, 4, .inl (fun _ => 0)))], [(a5, .inl (D.1 10, 60, .inl (fun _ => 0)))]] rfl rfl (by decide) tm634 rfl rfl rfl rfl rfl rfl rfl (Nat.le_of_ble_eq_true rfl) rfl rfl dX4_init_37 ?_
  refine x_aload_n B (pc := 40) 0 dX4_init_40 rfl rfl ?_
  refine x_bipush B (pc := 41) 60 dX4_init_41 (by decide) ?_
  refine x_val B (y := nI 60) rfl ?_
  refine x_newI B (pc := 43) 60 tm79 (by decide) (by decide) (by decide) (Nat.le_of_ble_eq_true rfl) (Nat.le_of_ble_eq_true rfl) dX4_init_43 (fun a6 => ?_)
  show G 45 [(0, .ref x)] [.ref a6, .ref x] [[(x, .inr (5, [.ref a1, .ref a2, .ref a3, .ref a4, .ref a5, .null, .null, .null, .null, .null, .null, .null, .null, .null, .null, .int 0, .null, .int 0, .int 0, .null, .int 0, .int 0, .int 0, .int 0, .int 0, .null, .int 0, .int 0]))], [(a1, .inl (D.1 10, 4, .inl (fun _ => 0)))], [(a2, .inl (D.1 10, 4, .inl (fun _ => 0)))], [(a3, .inl (D.1 10, 4, .inl (fun _ => 0)))], [(a4, .inl (D.1 10, 4, .inl (fun _ => 0)))], [(a5, .inl (D.1 10, 60, .inl (fun _ => 0)))], [(a6, .inl (D.1 10, 60, .inl (fun _ => 0)))]] 6 136
  refine x_putF F (pc := 45) xcl_M 0 0 5 [[(x, .inr (5, [.ref a1, .ref a2, .ref a3, .ref a4, .ref a5, .ref a6, .null, .null, .null, .null, .null, .null, .null, .null, .null, .int 0, .null, .int 0, .int 0, .null, .int 0, .int 0, .int 0, .int 0, .int 0, .null, .int 0, .int 0]))], [(a1, .inl (D.1 10, 4, .inl (fun _ => 0)))], [(a2, .inl (D.1 10, 4, .inl (fun _ => 0)))], [(a3, .inl (D.1 10, 4, .inl (fun _ => 0)))], [(a4, .inl (D.1 10, 4, .inl (fun _ => 0)))], [(a5, .inl (D.1 10, 60, .inl (fun _ => 0)))], [(a6, .inl (D.1 10, 60, .inl (fun _ => 0)))]] rfl rfl (by decide) tm635 rfl rfl rfl rfl rfl rfl rfl (Nat.le_of_ble_eq_true rfl) rfl rfl dX4_init_45 ?_
  refine x_aload_n B (pc := 48) 0 dX4_init_48 rfl rfl ?_
  refine x_bipush B (pc := 49) 60 dX4_init_49 (by decide) ?_
  refine x_val B (y := nI 60) rfl ?_
  refine x_newI B (pc := 51) 60 tm79 (by decide) (by decide) (by decide) (Nat.le_of_ble_eq_true rfl) (Nat.le_of_ble_eq_true rfl) dX4_init_51 (fun a7 => ?_)
  show G 53 [(0, .ref x)] [.ref a7, .ref x] [[(x, .inr (5, [.ref a1, .ref a2, .ref a3, .ref a4, .ref a5, .ref a6, .null, .null, .null, .null, .null, .null, .null, .null, .null, .int 0, .null, .int 0, .int 0, .null, .int 0, .int 0, .int 0, .int 0, .int 0, .null, .int 0, .int 0]))], [(a1, .inl (D.1 10, 4, .inl (fun _ => 0)))], [(a2, .inl (D.1 10, 4, .inl (fun _ => 0)))], [(a3, .inl (D.1 10, 4, .inl (fun _ => 0)))], [(a4, .inl (D.1 10, 4, .inl (fun _ => 0)))], [(a5, .inl (D.1 10, 60, .inl (fun _ => 0)))], [(a6, .inl (D.1 10, 60, .inl (fun _ => 0)))], [(a7, .inl (D.1 10, 60, .inl (fun _ => 0)))]] 7 196
  refine x_putF F (pc := 53) xcl_M 0 0 6 [[(x, .inr (5, [.ref a1, .ref a2, .ref a3, .ref a4, .ref a5, .ref a6, .ref a7, .null, .null, .null, .null, .null, .null, .null, .null, .int 0, .null, .int 0, .int 0, .null, .int 0, .int 0, .int 0, .int 0, .int 0, .null, .int 0, .int 0]))], [(a1, .inl (D.1 10, 4, .inl (fun _ => 0)))], [(a2, .inl (D.1 10, 4, .inl (fun _ => 0)))], [(a3, .inl (D.1 10, 4, .inl (fun _ => 0)))], [(a4, .inl (D.1 10, 4, .inl (fun _ => 0)))], [(a5, .inl (D.1 10, 60, .inl (fun _ => 0)))], [(a6, .inl (D.1 10, 60, .inl (fun _ => 0)))], [(a7, .inl (D.1 10, 60, .inl (fun _ => 0)))]] rfl rfl (by decide) tm636 rfl rfl rfl rfl rfl rfl rfl (Nat.le_of_ble_eq_true rfl) rfl rfl dX4_init_53 ?_
  refine x_aload_n B (pc := 56) 0 dX4_init_56 rfl rfl ?_
  refine x_bipush B (pc := 57) 60 dX4_init_57 (by decide) ?_
  refine x_val B (y := nI 60) rfl ?_
  refine x_newI B (pc := 59) 60 tm79 (by decide) (by decide) (by decide) (Nat.le_of_ble_eq_true rfl) (Nat.le_of_ble_eq_true rfl) dX4_init_59 (fun a8 => ?_)
  show G 61 [(0, .ref x)] [.ref a8, .ref x] [[(x, .inr (5, [.ref a1, .ref a2, .ref a3, .ref a4, .ref a5, .ref a6, .ref a7, .null, .null, .null, .null, .null, .null, .null, .null, .int 0, .null, .int 0, .int 0, .null, .int 0, .int 0, .int 0, .int 0, .int 0, .null, .int 0, .int 0]))], [(a1, .inl (D.1 10, 4, .inl (fun _ => 0)))], [(a2, .inl (D.1 10, 4, .inl (fun _ => 0)))], [(a3, .inl (D.1 10, 4, .inl (fun _ => 0)))], [(a4, .inl (D.1 10, 4, .inl (fun _ => 0)))], [(a5, .inl (D.1 10, 60, .inl (fun _ => 0)))], [(a6, .inl (D.1 10, 60, .inl (fun _ => 0)))], [(a7, .inl (D.1 10, 60, .inl (fun _ => 0)))], [(a8, .inl (D.1 10, 60, .inl (fun _ => 0)))]] 8 256
  refine x_putF F (pc := 61) xcl_M 0 0 7 [[(x, .inr (5, [.ref a1, .ref a2, .ref a3, .ref a4, .ref a5, .ref a6, .ref a7, .ref a8, .null, .null, .null, .null, .null, .null, .null, .int 0, .null, .int 0, .int 0, .null, .int 0, .int 0, .int 0, .int 0, .int 0, .null, .int 0, .int 0]))], [(a1, .inl (D.1 10, 4, .inl (fun _ => 0)))], [(a2, .inl (D.1 10, 4, .inl (fun _ => 0)))], [(a3, .inl (D.1 10, 4, .inl (fun _ => 0)))], [(a4, .inl (D.1 10, 4, .inl (fun _ => 0)))], [(a5, .inl (D.1 10, 60, .inl (fun _ => 0)))], [(a6, .inl (D.1 10, 60, .inl (fun _ => 0)))], [(a7, .inl (D.1 10, 60, .inl (fun _ => 0)))], [(a8, .inl (D.1 10, 60, .inl (fun _ => 0)))]] rfl rfl (by decide) tm637 rfl rfl rfl rfl rfl rfl rfl (Nat.le_of_ble_eq_true rfl) rfl rfl dX4_init_61 ?_
  refine x_aload_n B (pc := 64) 0 dX4_init_64 rfl rfl ?_
  refine x_bipush B (pc := 65) 60 dX4_init_65 (by decide) ?_
  refine x_val B (y := nI 60) rfl ?_
  refine x_newI B (pc := 67) 60 tm79 (by decide) (by decide) (by decide) (Nat.le_of_ble_eq_true rfl) (Nat.le_of_ble_eq_true rfl) dX4_init_67 (fun a9 => ?_)
  show G 69 [(0, .ref x)] [.ref a9, .ref x] [[(x, .inr (5, [.ref a1, .ref a2, .ref a3, .ref a4, .ref a5, .ref a6, .ref a7, .ref a8, .null, .null, .null, .null, .null, .null, .null, .int 0, .null, .int 0, .int 0, .null, .int 0, .int 0, .int 0, .int 0, .int 0, .null, .int 0, .int 0]))], [(a1, .inl (D.1 10, 4, .inl (fun _ => 0)))], [(a2, .inl (D.1 10, 4, .inl (fun _ => 0)))], [(a3, .inl (D.1 10, 4, .inl (fun _ => 0)))], [(a4, .inl (D.1 10, 4, .inl (fun _ => 0)))], [(a5, .inl (D.1 10, 60, .inl (fun _ => 0)))], [(a6, .inl (D.1 10, 60, .inl (fun _ => 0)))], [(a7, .inl (D.1 10, 60, .inl (fun _ => 0)))], [(a8, .inl (D.1 10, 60, .inl (fun _ => 0)))], [(a9, .inl (D.1 10, 60, .inl (fun _ => 0)))]] 9 316
  refine x_putF F (pc := 69) xcl_M 0 0 8 [[(x, .inr (5, [.ref a1, .ref a2, .ref a3, .ref a4, .ref a5, .ref a6, .ref a7, .ref a8, .ref a9, .null, .null, .null, .null, .null, .null, .int 0, .null, .int 0, .int 0, .null, .int 0, .int 0, .int 0, .int 0, .int 0, .null, .int 0, .int 0]))], [(a1, .inl (D.1 10, 4, .inl (fun _ => 0)))], [(a2, .inl (D.1 10, 4, .inl (fun _ => 0)))], [(a3, .inl (D.1 10, 4, .inl (fun _ => 0)))], [(a4, .inl (D.1 10, 4, .inl (fun _ => 0)))], [(a5, .inl (D.1 10, 60, .inl (fun _ => 0)))], [(a6, .inl (D.1 10, 60, .inl (fun _ => 0)))], [(a7, .inl (D.1 10, 60, .inl (fun _ => 0)))], [(a8, .inl (D.1 10, 60, .inl (fun _ => 0)))], [(a9, .inl (D.1 10, 60, .inl (fun _ => 0)))]] rfl rfl (by decide) tm638 rfl rfl rfl rfl rfl rfl rfl (Nat.le_of_ble_eq_true rfl) rfl rfl dX4_init_69 ?_
  refine x_aload_n B (pc := 72) 0 dX4_init_72 rfl rfl ?_
  refine x_bipush B (pc := 73) 60 dX4_init_73 (by decide) ?_
  refine x_val B (y := nI 60) rfl ?_
  refine x_newI B (pc := 75) 60 tm79 (by decide) (by decide) (by decide) (Nat.le_of_ble_eq_true rfl) (Nat.le_of_ble_eq_true rfl) dX4_init_75 (fun a10 => ?_)
  show G 77 [(0, .ref x)] [.ref a10, .ref x] [[(x, .inr (5, [.ref a1, .ref a2, .ref a3, .ref a4, .ref a5, .ref a6, .ref a7, .ref a8, .ref a9, .null, .null, .null, .null, .null, .null, .int 0, .null, .int 0, .int 0, .null, .int 0, .int 0, .int 0, .int 0, .int 0, .null, .int 0, .int 0]))], [(a1, .inl (D.1 10, 4, .inl (fun _ => 0)))], [(a2, .inl (D.1 10, 4, .inl (fun _ => 0)))], [(a3, .inl (D.1 10, 4, .inl (fun _ => 0)))], [(a4, .inl (D.1 10, 4, .inl (fun _ => 0)))], [(a5, .inl (D.1 10, 60, .inl (fun _ => 0)))], [(a6, .inl (D.1 10, 60, .inl (fun _ => 0)))], [(a7, .inl (D.1 10, 60, .inl (fun _ => 0)))], [(a8, .inl (D.1 10, 60, .inl (fun _ => 0)))], [(a9, .inl (D.1 10, 60, .inl (fun _ => 0)))], [(a10, .inl (D.1 10, 60, .inl (fun _ => 0)))]] 10 376
  refine x_putF F (pc := 77) xcl_M 0 0 9 [[(x, .inr (5, [.ref a1, .ref a2, .ref a3, .ref a4, .ref a5, .ref a6, .ref a7, .ref a8, .ref a9, .ref a10, .null, .null, .null, .null, .null, .int 0, .null, .int 0, .int 0, .null, .int 0, .int 0, .int 0, .int 0, .int 0, .null, .int 0, .int 0]))], [(a1, .inl (D.1 10, 4, .inl (fun _ => 0)))], [(a2, .inl (D.1 10, 4, .inl (fun _ => 0)))], [(a3, .inl (D.1 10, 4, .inl (fun _ => 0)))], [(a4, .inl (D.1 10, 4, .inl (fun _ => 0)))], [(a5, .inl (D.1 10, 60, .inl (fun _ => 0)))], [(a6, .inl (D.1 10, 60, .inl (fun _ => 0)))], [(a7, .inl (D.1 10, 60, .inl (fun _ => 0)))], [(a8, .inl (D.1 10, 60, .inl (fun _ => 0)))], [(a9, .inl (D.1 10, 60, .inl (fun _ => 0)))], [(a10, .inl (D.1 10, 60, .inl (fun _ => 0)))]] rfl rfl (by decide) tm639 rfl rfl rfl rfl rfl rfl rfl (Nat.le_of_ble_eq_true rfl) rfl rfl dX4_init_77 ?_
  refine x_aload_n B (pc := 80) 0 dX4_init_80 rfl rfl ?_
  refine x_bipush B (pc := 81) 60 dX4_init_81 (by decide) ?_
  refine x_val B (y := nI 60) rfl ?_
  refine x_newI B (pc := 83) 60 tm79 (by decide) (by decide) (by decide) (Nat.le_of_ble_eq_true rfl) (Nat.le_of_ble_eq_true rfl) dX4_init_83 (fun a11 => ?_)
  show G 85 [(0, .ref x)] [.ref a11, .ref x] [[(x, .inr (5, [.ref a1, .ref a2, .ref a3, .ref a4, .ref a5, .ref a6, .ref a7, .ref a8, .ref a9, .ref a10, .null, .null, .null, .null, .null, .int 0, .null, .int 0, .int 0, .null, .int 0, .int 0, .int 0, .int 0, .int 0, .null, .int 0, .int 0]))], [(a1, .inl (D.1 10, 4, .inl (fun _ => 0)))], [(a2, .inl (D.1 10, 4, .inl (fun _ => 0)))], [(a3, .inl (D.1 10, 4, .inl (fun _ => 0)))], [(a4, .inl (D.1 10, 4, .inl (fun _ => 0)))], [(a5, .inl (D.1 10, 60, .inl (fun _ => 0)))], [(a6, .inl (D.1 10, 60, .inl (fun _ => 0)))], [(a7, .inl (D.1 10, 60, .inl (fun _ => 0)))], [(a8, .inl (D.1 10, 60, .inl (fun _ => 0)))], [(a9, .inl (D.1 10, 60, .inl (fun _ => 0)))], [(a10, .inl (D.1 10, 60, .inl (fun _ => 0)))], [(a11, .inl (D.1 10, 60, .inl (fun _ => 0)))]] 11 436
  refine x_putF F (pc := 85) xcl_M 0 0 10 [[(x, .inr (5, [.ref a1, .ref a2, .ref a3, .ref a4, .ref a5, .ref a6, .ref a7, .ref a8, .ref a9, .ref a10, .ref a11, .null, .null, .null, .null, .int 0, .null, .int 0, .int 0, .null, .int 0, .int 0, .int 0, .int 0, .int 0, .null, .int 0, .int 0]))], [(a1, .inl (D.1 10, 4, .inl (fun _ => 0)))], [(a2, .inl (D.1 10, 4, .inl (fun _ => 0)))], [(a3, .inl (D.1 10, 4, .inl (fun _ => 0)))], [(a4, .inl (D.1 10, 4, .inl (fun _ => 0)))], [(a5, .inl (D.1 10, 60, .inl (fun _ => 0)))], [(a6, .inl (D.1 10, 60, .inl (fun _ => 0)))], [(a7, .inl (D.1 10, 60, .inl (fun _ => 0)))], [(a8, .inl (D.1 10, 60, .inl (fun _ => 0)))], [(a9, .inl (D.1 10, 60, .inl (fun _ => 0)))], [(a10, .inl (D.1 10, 60, .inl (fun _ => 0)))], [(a11, .inl (D.1 10, 60, .inl (fun _ => 0)))]] rfl rfl (by decide) tm640 rfl rfl rfl rfl rfl rfl rfl (Nat.le_of_ble_eq_true rfl) rfl rfl dX4_init_85 ?_
  refine x_aload_n B (pc := 88) 0 dX4_init_88 rfl rfl ?_
  refine x_bipush B (pc := 89) 60 dX4_init_89 (by decide) ?_
  refine x_val B (y := nI 60) rfl ?_
  refine x_newZ B (pc := 91) 60 tm715 (by decide) (by decide) (by decide) (Nat.le_of_ble_eq_true rfl) (Nat.le_of_ble_eq_true rfl) dX4_init_91 (fun a12 => ?_)
  show G 93 [(0, .ref x)] [.ref a12, .ref x] [[(x, .inr (5, [.ref a1, .ref a2, .ref a3, .ref a4, .ref a5, .ref a6, .ref a7, .ref a8, .ref a9, .ref a10, .ref a11, .null, .null, .null, .null, .int 0, .null, .int 0, .int 0, .null, .int 0, .int 0, .int 0, .int 0, .int 0, .null, .int 0, .int 0]))], [(a1, .inl (D.1 10, 4, .inl (fun _ => 0)))], [(a2, .inl (D.1 10, 4, .inl (fun _ => 0)))], [(a3, .inl (D.1 10, 4, .inl (fun _ => 0)))], [(a4, .inl (D.1 10, 4, .inl (fun _ => 0)))], [(a5, .inl (D.1 10, 60, .inl (fun _ => 0)))], [(a6, .inl (D.1 10, 60, .inl (fun _ => 0)))], [(a7, .inl (D.1 10, 60, .inl (fun _ => 0)))], [(a8, .inl (D.1 10, 60, .inl (fun _ => 0)))], [(a9, .inl (D.1 10, 60, .inl (fun _ => 0)))], [(a10, .inl (D.1 10, 60, .inl (fun _ => 0)))], [(a11, .inl (D.1 10, 60, .inl (fun _ => 0)))], [(a12, .inl (D.1 11, 60, .inl (fun _ => 0)))]] 12 496
  refine x_putF F (pc := 93) xcl_M 0 0 11 [[(x, .inr (5, [.ref a1, .ref a2, .ref a3, .ref a4, .ref a5, .ref a6, .ref a7, .ref a8, .ref a9, .ref a10, .ref a11, .ref a12, .null, .null, .null, .int 0, .null, .int 0, .int 0, .null, .int 0, .int 0, .int 0, .int 0, .int 0, .null, .int 0, .int 0]))], [(a1, .inl (D.1 10, 4, .inl (fun _ => 0)))], [(a2, .inl (D.1 10, 4, .inl (fun _ => 0)))], [(a3, .inl (D.1 10, 4, .inl (fun _ => 0)))], [(a4, .inl (D.1 10, 4, .inl (fun _ => 0)))], [(a5, .inl (D.1 10, 60, .inl (fun _ => 0)))], [(a6, .inl (D.1 10, 60, .inl (fun _ => 0)))], [(a7, .inl (D.1 10, 60, .inl (fun _ => 0)))], [(a8, .inl (D.1 10, 60, .inl (fun _ => 0)))], [(a9, .inl (D.1 10, 60, .inl (fun _ => 0)))], [(a10, .inl (D.1 10, 60, .inl (fun _ => 0)))], [(a11, .inl (D.1 10, 60, .inl (fun _ => 0)))], [(a12, .inl (D.1 11, 60, .inl (fun _ => 0)))]] rfl rfl (by decide) tm641 rfl rfl rfl rfl rfl rfl rfl (Nat.le_of_ble_eq_true rfl) rfl rfl dX4_init_93 ?_
  refine x_aload_n B (pc := 96) 0 dX4_init_96 rfl rfl ?_
  refine x_bipush B (pc := 97) 60 dX4_init_97 (by decide) ?_
  refine x_val B (y := nI 60) rfl ?_
  refine x_newI B (pc := 99) 60 tm79 (by decide) (by decide) (by decide) (Nat.le_of_ble_eq_true rfl) (Nat.le_of_ble_eq_true rfl) dX4_init_99 (fun a13 => ?_)
  show G 101 [(0, .ref x)] [.ref a13, .ref x] [[(x, .inr (5, [.ref a1, .ref a2, .ref a3, .ref a4, .ref a5, .ref a6, .ref a7, .ref a8, .ref a9, .ref a10, .ref a11, .ref a12, .null, .null, .null, .int 0, .null, .int 0, .int 0, .null, .int 0, .int 0, .int 0, .int 0, .int 0, .null, .int 0, .int 0]))], [(a1, .inl (D.1 10, 4, .inl (fun _ => 0)))], [(a2, .inl (D.1 10, 4, .inl (fun _ => 0)))], [(a3, .inl (D.1 10, 4, .inl (fun _ => 0)))], [(a4, .inl (D.1 10, 4, .inl (fun _ => 0)))], [(a5, .inl (D.1 10, 60, .inl (fun _ => 0)))], [(a6, .inl (D.1 10, 60, .inl (fun _ => 0)))], [(a7, .inl (D.1 10, 60, .inl (fun _ => 0)))], [(a8, .inl (D.1 10, 60, .inl (fun _ => 0)))], [(a9, .inl (D.1 10, 60, .inl (fun _ => 0)))], [(a10, .inl (D.1 10, 60, .inl (fun _ => 0)))], [(a11, .inl (D.1 10, 60, .inl (fun _ => 0)))], [(a12, .inl (D.1 11, 60, .inl (fun _ => 0)))], [(a13, .inl (D.1 10, 60, .inl (fun _ => 0)))]] 13 556
  refine x_putF F (pc := 101) xcl_M 0 0 12 [[(x, .inr (5, [.ref a1, .ref a2, .ref a3, .ref a4, .ref a5, .ref a6, .ref a7, .ref a8, .ref a9, .ref a10, .ref a11, .ref a12, .ref a13, .null, .null, .int 0, .null, .int 0, .int 0, .null, .int 0, .int 0, .int 0, .int 0, .int 0, .null, .int 0, .int 0]))], [(a1, .inl (D.1 10, 4, .inl (fun _ => 0)))], [(a2, .inl (D.1 10, 4, .inl (fun _ => 0)))], [(a3, .inl (D.1 10, 4, .inl (fun _ => 0)))], [(a4, .inl (D.1 10, 4, .inl (fun _ => 0)))], [(a5, .inl (D.1 10, 60, .inl (fun _ => 0)))], [(a6, .inl (D.1 10, 60, .inl (fun _ => 0)))], [(a7, .inl (D.1 10, 60, .inl (fun _ => 0)))], [(a8, .inl (D.1 10, 60, .inl (fun _ => 0)))], [(a9, .inl (D.1 10, 60, .inl (fun _ => 0)))], [(a10, .inl (D.1 10, 60, .inl (fun _ => 0)))], [(a11, .inl (D.1 10, 60, .inl (fun _ => 0)))], [(a12, .inl (D.1 11, 60, .inl (fun _ => 0)))], [(a13, .inl (D.1 10, 60, .inl (fun _ => 0)))]] rfl rfl (by decide) tm642 rfl rfl rfl rfl rfl rfl rfl (Nat.le_of_ble_eq_true rfl) rfl rfl dX4_init_101 ?_
  refine x_aload_n B (pc := 104) 0 dX4_init_104 rfl rfl ?_
  refine x_bipush B (pc := 105) 60 dX4_init_105 (by decide) ?_
  refine x_val B (y := nI 60) rfl ?_
  refine x_newI B (pc := 107) 60 tm79 (by decide) (by decide) (by decide) (Nat.le_of_ble_eq_true rfl) (Nat.le_of_ble_eq_true rfl) dX4_init_107 (fun a14 => ?_)
  show G 109 [(0, .ref x)] [.ref a14, .ref x] [[(x, .inr (5, [.ref a1, .ref a2, .ref a3, .ref a4, .ref a5, .ref a6, .ref a7, .ref a8, .ref a9, .ref a10, .ref a11, .ref a12, .ref a13, .null, .null, .int 0, .null, .int 0, .int 0, .null, .int 0, .int 0, .int 0, .int 0, .int 0, .null, .int 0, .int 0]))], [(a1, .inl (D.1 10, 4, .inl (fun _ => 0)))], [(a2, .inl (D.1 10, 4, .inl (fun _ => 0)))], [(a3, .inl (D.1 10, 4, .inl (fun _ => 0)))], [(a4, .inl (D.1 10, 4, .inl (fun _ => 0)))], [(a5, .inl (D.1 10, 60, .inl (fun _ => 0)))], [(a6, .inl (D.1 10, 60, .inl (fun _ => 0)))], [(a7, .inl (D.1 10, 60, .inl (fun _ => 0)))], [(a8, .inl (D.1 10, 60, .inl (fun _ => 0)))], [(a9, .inl (D.1 10, 60, .inl (fun _ => 0)))], [(a10, .inl (D.1 10, 60, .inl (fun _ => 0)))], [(a11, .inl (D.1 10, 60, .inl (fun _ => 0)))], [(a12, .inl (D.1 11, 60, .inl (fun _ => 0)))], [(a13, .inl (D.1 10, 60, .inl (fun _ => 0)))], [(a14, .inl (D.1 10, 60, .inl (fun _ => 0)))]] 14 616
  refine x_putF F (pc := 109) xcl_M 0 0 13 [[(x, .inr (5, [.ref a1, .ref a2, .ref a3, .ref a4, .ref a5, .ref a6, .ref a7, .ref a8, .ref a9, .ref a10, .ref a11, .ref a12, .ref a13, .ref a14, .null, .int 0, .null, .int 0, .int 0, .null, .int 0, .int 0, .int 0, .int 0, .int 0, .null, .int 0, .int 0]))], [(a1, .inl (D.1 10, 4, .inl (fun _ => 0)))], [(a2, .inl (D.1 10, 4, .inl (fun _ => 0)))], [(a3, .inl (D.1 10, 4, .inl (fun _ => 0)))], [(a4, .inl (D.1 10, 4, .inl (fun _ => 0)))], [(a5, .inl (D.1 10, 60, .inl (fun _ => 0)))], [(a6, .inl (D.1 10, 60, .inl (fun _ => 0)))], [(a7, .inl (D.1 10, 60, .inl (fun _ => 0)))], [(a8, .inl (D.1 10, 60, .inl (fun _ => 0)))], [(a9, .inl (D.1 10, 60, .inl (fun _ => 0)))], [(a10, .inl (D.1 10, 60, .inl (fun _ => 0)))], [(a11, .inl (D.1 10, 60, .inl (fun _ => 0)))], [(a12, .inl (D.1 11, 60, .inl (fun _ => 0)))], [(a13, .inl (D.1 10, 60, .inl (fun _ => 0)))], [(a14, .inl (D.1 10, 60, .inl (fun _ => 0)))]] rfl rfl (by decide) tm643 rfl rfl rfl rfl rfl rfl rfl (Nat.le_of_ble_eq_true rfl) rfl rfl dX4_init_109 ?_
  refine x_aload_n B (pc := 112) 0 dX4_init_112 rfl rfl ?_
  refine x_bipush B (pc := 113) 60 dX4_init_113 (by decide) ?_
  refine x_val B (y := nI 60) rfl ?_
  refine x_newI B (pc := 115) 60 tm79 (by decide) (by decide) (by decide) (Nat.le_of_ble_eq_true rfl) (Nat.le_of_ble_eq_true rfl) dX4_init_115 (fun a15 => ?_)
  show G 117 [(0, .ref x)] [.ref a15, .ref x] [[(x, .inr (5, [.ref a1, .ref a2, .ref a3, .ref a4, .ref a5, .ref a6, .ref a7, .ref a8, .ref a9, .ref a10, .ref a11, .ref a12, .ref a13, .ref a14, .null, .int 0, .null, .int 0, .int 0, .null, .int 0, .int 0, .int 0, .int 0, .int 0, .null, .int 0, .int 0]))], [(a1, .inl (D.1 10, 4, .inl (fun _ => 0)))], [(a2, .inl (D.1 10, 4, .inl (fun _ => 0)))], [(a3, .inl (D.1 10, 4, .inl (fun _ => 0)))], [(a4, .inl (D.1 10, 4, .inl (fun _ => 0)))], [(a5, .inl (D.1 10, 60, .inl (fun _ => 0)))], [(a6, .inl (D.1 10, 60, .inl (fun _ => 0)))], [(a7, .inl (D.1 10, 60, .inl (fun _ => 0)))], [(a8, .inl (D.1 10, 60, .inl (fun _ => 0)))], [(a9, .inl (D.1 10, 60, .inl (fun _ => 0)))], [(a10, .inl (D.1 10, 60, .inl (fun _ => 0)))], [(a11, .inl (D.1 10, 60, .inl (fun _ => 0)))], [(a12, .inl (D.1 11, 60, .inl (fun _ => 0)))], [(a13, .inl (D.1 10, 60, .inl (fun _ => 0)))], [(a14, .inl (D.1 10, 60, .inl (fun _ => 0)))], [(a15, .inl (D.1 10, 60, .inl (fun _ => 0)))]] 15 676
  refine x_putF F (pc := 117) xcl_M 0 0 14 [[(x, .inr (5, [.ref a1, .ref a2, .ref a3, .ref a4, .ref a5, .ref a6, .ref a7, .ref a8, .ref a9, .ref a10, .ref a11, .ref a12, .ref a13, .ref a14, .ref a15, .int 0, .null, .int 0, .int 0, .null, .int 0, .int 0, .int 0, .int 0, .int 0, .null, .int 0, .int 0]))], [(a1, .inl (D.1 10, 4, .inl (fun _ => 0)))], [(a2, .inl (D.1 10, 4, .inl (fun _ => 0)))], [(a3, .inl (D.1 10, 4, .inl (fun _ => 0)))], [(a4, .inl (D.1 10, 4, .inl (fun _ => 0)))], [(a5, .inl (D.1 10, 60, .inl (fun _ => 0)))], [(a6, .inl (D.1 10, 60, .inl (fun _ => 0)))], [(a7, .inl (D.1 10, 60, .inl (fun _ => 0)))], [(a8, .inl (D.1 10, 60, .inl (fun _ => 0)))], [(a9, .inl (D.1 10, 60, .inl (fun _ => 0)))], [(a10, .inl (D.1 10, 60, .inl (fun _ => 0)))], [(a11, .inl (D.1 10, 60, .inl (fun _ => 0)))], [(a12, .inl (D.1 11, 60, .inl (fun _ => 0)))], [(a13, .inl (D.1 10, 60, .inl (fun _ => 0)))], [(a14, .inl (D.1 10, 60, .inl (fun _ => 0)))], [(a15, .inl (D.1 10, 60, .inl (fun _ => 0)))]] rfl rfl (by decide) tm644 rfl rfl rfl rfl rfl rfl rfl (Nat.le_of_ble_eq_true rfl) rfl rfl dX4_init_117 ?_
  refine x_aload_n B (pc := 120) 0 dX4_init_120 rfl rfl ?_
  refine x_sipush B (pc := 121) 2048 dX4_init_121 (by decide) ?_
  refine x_val B (y := nI 2048) rfl ?_
  refine x_newI B (pc := 124) 2048 tm79 (by decide) (by decide) (by decide) (Nat.le_of_ble_eq_true rfl) (Nat.le_of_ble_eq_true rfl) dX4_init_124 (fun a17 => ?_)
  show G 126 [(0, .ref x)] [.ref a17, .ref x] [[(x, .inr (5, [.ref a1, .ref a2, .ref a3, .ref a4, .ref a5, .ref a6, .ref a7, .ref a8, .ref a9, .ref a10, .ref a11, .ref a12, .ref a13, .ref a14, .ref a15, .int 0, .null, .int 0, .int 0, .null, .int 0, .int 0, .int 0, .int 0, .int 0, .null, .int 0, .int 0]))], [(a1, .inl (D.1 10, 4, .inl (fun _ => 0)))], [(a2, .inl (D.1 10, 4, .inl (fun _ => 0)))], [(a3, .inl (D.1 10, 4, .inl (fun _ => 0)))], [(a4, .inl (D.1 10, 4, .inl (fun _ => 0)))], [(a5, .inl (D.1 10, 60, .inl (fun _ => 0)))], [(a6, .inl (D.1 10, 60, .inl (fun _ => 0)))], [(a7, .inl (D.1 10, 60, .inl (fun _ => 0)))], [(a8, .inl (D.1 10, 60, .inl (fun _ => 0)))], [(a9, .inl (D.1 10, 60, .inl (fun _ => 0)))], [(a10, .inl (D.1 10, 60, .inl (fun _ => 0)))], [(a11, .inl (D.1 10, 60, .inl (fun _ => 0)))], [(a12, .inl (D.1 11, 60, .inl (fun _ => 0)))], [(a13, .inl (D.1 10, 60, .inl (fun _ => 0)))], [(a14, .inl (D.1 10, 60, .inl (fun _ => 0)))], [(a15, .inl (D.1 10, 60, .inl (fun _ => 0)))], [(a17, .inl (D.1 10, 2048, .inl (fun _ => 0)))]] 16 2724
  refine x_putF F (pc := 126) xcl_M 0 0 16 [[(x, .inr (5, [.ref a1, .ref a2, .ref a3, .ref a4, .ref a5, .ref a6, .ref a7, .ref a8, .ref a9, .ref a10, .ref a11, .ref a12, .ref a13, .ref a14, .ref a15, .int 0, .ref a17, .int 0, .int 0, .null, .int 0, .int 0, .int 0, .int 0, .int 0, .null, .int 0, .int 0]))], [(a1, .inl (D.1 10, 4, .inl (fun _ => 0)))], [(a2, .inl (D.1 10, 4, .inl (fun _ => 0)))], [(a3, .inl (D.1 10, 4, .inl (fun _ => 0)))], [(a4, .inl (D.1 10, 4, .inl (fun _ => 0)))], [(a5, .inl (D.1 10, 60, .inl (fun _ => 0)))], [(a6, .inl (D.1 10, 60, .inl (fun _ => 0)))], [(a7, .inl (D.1 10, 60, .inl (fun _ => 0)))], [(a8, .inl (D.1 10, 60, .inl (fun _ => 0)))], [(a9, .inl (D.1 10, 60, .inl (fun _ => 0)))], [(a10, .inl (D.1 10, 60, .inl (fun _ => 0)))], [(a11, .inl (D.1 10, 60, .inl (fun _ => 0)))], [(a12, .inl (D.1 11, 60, .inl (fun _ => 0)))], [(a13, .inl (D.1 10, 60, .inl (fun _ => 0)))], [(a14, .inl (D.1 10, 60, .inl (fun _ => 0)))], [(a15, .inl (D.1 10, 60, .inl (fun _ => 0)))], [(a17, .inl (D.1 10, 2048, .inl (fun _ => 0)))]] rfl rfl (by decide) tm646 rfl rfl rfl rfl rfl rfl rfl (Nat.le_of_ble_eq_true rfl) rfl rfl dX4_init_126 ?_
  refine x_aload_n B (pc := 129) 0 dX4_init_129 rfl rfl ?_
  refine x_sipush B (pc := 130) 2048 dX4_init_130 (by decide) ?_
  refine x_val B (y := nI 2048) rfl ?_
  refine x_newI B (pc := 133) 2048 tm79 (by decide) (by decide) (by decide) (Nat.le_of_ble_eq_true rfl) (Nat.le_of_ble_eq_true rfl) dX4_init_133 (fun a20 => ?_)
  show G 135 [(0, .ref x)] [.ref a20, .ref x] [[(x, .inr (5, [.ref a1, .ref a2, .ref a3, .ref a4, .ref a5, .ref a6, .ref a7, .ref a8, .ref a9, .ref a10, .ref a11, .ref a12, .ref a13, .ref a14, .ref a15, .int 0, .ref a17, .int 0, .int 0, .null, .int 0, .int 0, .int 0, .int 0, .int 0, .null, .int 0, .int 0]))], [(a1, .inl (D.1 10, 4, .inl (fun _ => 0)))], [(a2, .inl (D.1 10, 4, .inl (fun _ => 0)))], [(a3, .inl (D.1 10, 4, .inl (fun _ => 0)))], [(a4, .inl (D.1 10, 4, .inl (fun _ => 0)))], [(a5, .inl (D.1 10, 60, .inl (fun _ => 0)))], [(a6, .inl (D.1 10, 60, .inl (fun _ => 0)))], [(a7, .inl (D.1 10, 60, .inl (fun _ => 0)))], [(a8, .inl (D.1 10, 60, .inl (fun _ => 0)))], [(a9, .inl (D.1 10, 60, .inl (fun _ => 0)))], [(a10, .inl (D.1 10, 60, .inl (fun _ => 0)))], [(a11, .inl (D.1 10, 60, .inl (fun _ => 0)))], [(a12, .inl (D.1 11, 60, .inl (fun _ => 0)))], [(a13, .inl (D.1 10, 60, .inl (fun _ => 0)))], [(a14, .inl (D.1 10, 60, .inl (fun _ => 0)))], [(a15, .inl (D.1 10, 60, .inl (fun _ => 0)))], [(a17, .inl (D.1 10, 2048, .inl (fun _ => 0)))], [(a20, .inl (D.1 10, 2048, .inl (fun _ => 0)))]] 17 4772
  refine x_putF F (pc := 135) xcl_M 0 0 19 [[(x, .inr (5, [.ref a1, .ref a2, .ref a3, .ref a4, .ref a5, .ref a6, .ref a7, .ref a8, .ref a9, .ref a10, .ref a11, .ref a12, .ref a13, .ref a14, .ref a15, .int 0, .ref a17, .int 0, .int 0, .ref a20, .int 0, .int 0, .int 0, .int 0, .int 0, .null, .int 0, .int 0]))], [(a1, .inl (D.1 10, 4, .inl (fun _ => 0)))], [(a2, .inl (D.1 10, 4, .inl (fun _ => 0)))], [(a3, .inl (D.1 10, 4, .inl (fun _ => 0)))], [(a4, .inl (D.1 10, 4, .inl (fun _ => 0)))], [(a5, .inl (D.1 10, 60, .inl (fun _ => 0)))], [(a6, .inl (D.1 10, 60, .inl (fun _ => 0)))], [(a7, .inl (D.1 10, 60, .inl (fun _ => 0)))], [(a8, .inl (D.1 10, 60, .inl (fun _ => 0)))], [(a9, .inl (D.1 10, 60, .inl (fun _ => 0)))], [(a10, .inl (D.1 10, 60, .inl (fun _ => 0)))], [(a11, .inl (D.1 10, 60, .inl (fun _ => 0)))], [(a12, .inl (D.1 11, 60, .inl (fun _ => 0)))], [(a13, .inl (D.1 10, 60, .inl (fun _ => 0)))], [(a14, .inl (D.1 10, 60, .inl (fun _ => 0)))], [(a15, .inl (D.1 10, 60, .inl (fun _ => 0)))], [(a17, .inl (D.1 10, 2048, .inl (fun _ => 0)))], [(a20, .inl (D.1 10, 2048, .inl (fun _ => 0)))]] rfl rfl (by decide) tm649 rfl rfl rfl rfl rfl rfl rfl (Nat.le_of_ble_eq_true rfl) rfl rfl dX4_init_135 ?_
  refine x_aload_n B (pc := 138) 0 dX4_init_138 rfl rfl ?_
  refine x_iconst B (pc := 139) 1 dX4_init_139 (by decide) ?_
  refine x_put B (pc := 140) xcl_M 0 0 22 [[(x, .inr (5, [.ref a1, .ref a2, .ref a3, .ref a4, .ref a5, .ref a6, .ref a7, .ref a8, .ref a9, .ref a10, .ref a11, .ref a12, .ref a13, .ref a14, .ref a15, .int 0, .ref a17, .int 0, .int 0, .ref a20, .int 0, .int 0, .int 1, .int 0, .int 0, .null, .int 0, .int 0]))], [(a1, .inl (D.1 10, 4, .inl (fun _ => 0)))], [(a2, .inl (D.1 10, 4, .inl (fun _ => 0)))], [(a3, .inl (D.1 10, 4, .inl (fun _ => 0)))], [(a4, .inl (D.1 10, 4, .inl (fun _ => 0)))], [(a5, .inl (D.1 10, 60, .inl (fun _ => 0)))], [(a6, .inl (D.1 10, 60, .inl (fun _ => 0)))], [(a7, .inl (D.1 10, 60, .inl (fun _ => 0)))], [(a8, .inl (D.1 10, 60, .inl (fun _ => 0)))], [(a9, .inl (D.1 10, 60, .inl (fun _ => 0)))], [(a10, .inl (D.1 10, 60, .inl (fun _ => 0)))], [(a11, .inl (D.1 10, 60, .inl (fun _ => 0)))], [(a12, .inl (D.1 11, 60, .inl (fun _ => 0)))], [(a13, .inl (D.1 10, 60, .inl (fun _ => 0)))], [(a14, .inl (D.1 10, 60, .inl (fun _ => 0)))], [(a15, .inl (D.1 10, 60, .inl (fun _ => 0)))], [(a17, .inl (D.1 10, 2048, .inl (fun _ => 0)))], [(a20, .inl (D.1 10, 2048, .inl (fun _ => 0)))]] rfl rfl (by decide) tm652 rfl rfl rfl rfl rfl (Nat.le_of_ble_eq_true rfl) rfl rfl dX4_init_140 ?_
  refine x_aload_n B (pc := 143) 0 dX4_init_143 rfl rfl ?_
  refine x_bipush B (pc := 144) 60 dX4_init_144 (by decide) ?_
  refine x_val B (y := nI 60) rfl ?_
  refine x_newI B (pc := 146) 60 tm79 (by decide) (by decide) (by decide) (Nat.le_of_ble_eq_true rfl) (Nat.le_of_ble_eq_true rfl) dX4_init_146 (fun a26 => ?_)
  show G 148 [(0, .ref x)] [.ref a26, .ref x] [[(x, .inr (5, [.ref a1, .ref a2, .ref a3, .ref a4, .ref a5, .ref a6, .ref a7, .ref a8, .ref a9, .ref a10, .ref a11, .ref a12, .ref a13, .ref a14, .ref a15, .int 0, .ref a17, .int 0, .int 0, .ref a20, .int 0, .int 0, .int 1, .int 0, .int 0, .null, .int 0, .int 0]))], [(a1, .inl (D.1 10, 4, .inl (fun _ => 0)))], [(a2, .inl (D.1 10, 4, .inl (fun _ => 0)))], [(a3, .inl (D.1 10, 4, .inl (fun _ => 0)))], [(a4, .inl (D.1 10, 4, .inl (fun _ => 0)))], [(a5, .inl (D.1 10, 60, .inl (fun _ => 0)))], [(a6, .inl (D.1 10, 60, .inl (fun _ => 0)))], [(a7, .inl (D.1 10, 60, .inl (fun _ => 0)))], [(a8, .inl (D.1 10, 60, .inl (fun _ => 0)))], [(a9, .inl (D.1 10, 60, .inl (fun _ => 0)))], [(a10, .inl (D.1 10, 60, .inl (fun _ => 0)))], [(a11, .inl (D.1 10, 60, .inl (fun _ => 0)))], [(a12, .inl (D.1 11, 60, .inl (fun _ => 0)))], [(a13, .inl (D.1 10, 60, .inl (fun _ => 0)))], [(a14, .inl (D.1 10, 60, .inl (fun _ => 0)))], [(a15, .inl (D.1 10, 60, .inl (fun _ => 0)))], [(a17, .inl (D.1 10, 2048, .inl (fun _ => 0)))], [(a20, .inl (D.1 10, 2048, .inl (fun _ => 0)))], [(a26, .inl (D.1 10, 60, .inl (fun _ => 0)))]] 18 4832
  refine x_putF F (pc := 148) xcl_M 0 0 25 [[(x, .inr (5, [.ref a1, .ref a2, .ref a3, .ref a4, .ref a5, .ref a6, .ref a7, .ref a8, .ref a9, .ref a10, .ref a11, .ref a12, .ref a13, .ref a14, .ref a15, .int 0, .ref a17, .int 0, .int 0, .ref a20, .int 0, .int 0, .int 1, .int 0, .int 0, .ref a26, .int 0, .int 0]))], [(a1, .inl (D.1 10, 4, .inl (fun _ => 0)))], [(a2, .inl (D.1 10, 4, .inl (fun _ => 0)))], [(a3, .inl (D.1 10, 4, .inl (fun _ => 0)))], [(a4, .inl (D.1 10, 4, .inl (fun _ => 0)))], [(a5, .inl (D.1 10, 60, .inl (fun _ => 0)))], [(a6, .inl (D.1 10, 60, .inl (fun _ => 0)))], [(a7, .inl (D.1 10, 60, .inl (fun _ => 0)))], [(a8, .inl (D.1 10, 60, .inl (fun _ => 0)))], [(a9, .inl (D.1 10, 60, .inl (fun _ => 0)))], [(a10, .inl (D.1 10, 60, .inl (fun _ => 0)))], [(a11, .inl (D.1 10, 60, .inl (fun _ => 0)))], [(a12, .inl (D.1 11, 60, .inl (fun _ => 0)))], [(a13, .inl (D.1 10, 60, .inl (fun _ => 0)))], [(a14, .inl (D.1 10, 60, .inl (fun _ => 0)))], [(a15, .inl (D.1 10, 60, .inl (fun _ => 0)))], [(a17, .inl (D.1 10, 2048, .inl (fun _ => 0)))], [(a20, .inl (D.1 10, 2048, .inl (fun _ => 0)))], [(a26, .inl (D.1 10, 60, .inl (fun _ => 0)))]] rfl rfl (by decide) tm655 rfl rfl rfl rfl rfl rfl rfl (Nat.le_of_ble_eq_true rfl) rfl rfl dX4_init_148 ?_
  refine x_flat B (cs1 := [moW (amOf x a1 a2 a3 a4 a5 a6 a7 a8 a9 a10 a11 a12 a13 a14 a15 a17 a20 a26) 0 0 0 0 0 1 0 0 0 0, mlW D (amOf x a1 a2 a3 a4 a5 a6 a7 a8 a9 a10 a11 a12 a13 a14 a15 a17 a20 a26) (fun _ _ => 0), mdW D (amOf x a1 a2 a3 a4 a5 a6 a7 a8 a9 a10 a11 a12 a13 a14 a15 a17 a20 a26) (fun _ _ => 0), rtW D (amOf x a1 a2 a3 a4 a5 a6 a7 a8 a9 a10 a11 a12 a13 a14 a15 a17 a20 a26) (fun _ => 0), rbW D (amOf x a1 a2 a3 a4 a5 a6 a7 a8 a9 a10 a11 a12 a13 a14 a15 a17 a20 a26) (fun _ => 0), tdW D (amOf x a1 a2 a3 a4 a5 a6 a7 a8 a9 a10 a11 a12 a13 a14 a15 a17 a20 a26) (fun _ => 0)]) rfl ?_
  exact x_vret F (pc := 151) rfl dX4_init_151 (⟨rfl, amOf x a1 a2 a3 a4 a5 a6 a7 a8 a9 a10 a11 a12 a13 a14 a15 a17 a20 a26, rfl, rfl⟩) (Nat.le_of_ble_eq_true rfl) (Nat.le_of_ble_eq_true rfl)
