/-! LIB D: the classes, the chunks of the two worlds, rows over numbers that are places -/
theorem xcl_of {ci : Nat} {C : String} {T : u_T} {N : Nat} {ty : Nat → FieldType} (h1 : vwCl[ci]? = some (C, T, N)) (h2 : (u_ws C T N).all (fun w => decide (w ∈ lw_tbl) && goodWord w) = true) (h3 : ∀ k, k < N → parseFieldDescriptor (T k).2.2.1 = some (ty k)) (h4 : ∀ a, a < N → ∀ b, b < N → a ≠ b → (T a).2.1 ≠ (T b).2.1) : xCl ci C T N ty :=
  ⟨h1, fun w hw => by
    have h := List.all_eq_true.mp h2 w hw
    simp only [Bool.and_eq_true, decide_eq_true_eq] at h
    exact xT_mem h.1 h.2, h3, h4⟩
theorem xcl_A : xCl 0 RJx4a65c TJx4a65c 3 tyJx4a65c := xcl_of rfl (by decide +kernel) tyJx4a65c_ok nmJx4a65c
theorem xcl_D : xCl 1 RX0 TX0 12 tyX0 := xcl_of rfl (by decide +kernel) tyX0_ok nmX0
theorem xcl_L : xCl 2 RX1 TX1 4 tyX1 := xcl_of rfl (by decide +kernel) tyX1_ok nmX1
theorem xcl_R : xCl 3 RX2 TX2 5 tyX2 := xcl_of rfl (by decide +kernel) tyX2_ok nmX2
theorem xcl_X : xCl 4 RX3 TX3 8 tyX3 := xcl_of rfl (by decide +kernel) tyX3_ok nmX3
/-- the state of both sides: rows of numbers by kind and place -/
abbrev xS : Type := Nat → Nat → Int32
def xup (F : xS) (f d : Nat) (v : Int32) : xS := fun k => if k = f then upd (F k) d v else F k
theorem xup_same (F : xS) (f d : Nat) (v : Int32) : xup F f d v f d = v := by simp [xup, upd]
theorem xup_ne {F : xS} {f d k j : Nat} {v : Int32} (h : k ≠ f ∨ j ≠ d) : xup F f d v k j = F k j := by
  unfold xup
  by_cases hk : k = f
  · rw [if_pos hk]
    rcases h with h | h
    · exact absurd hk h
    · simp [upd, h]
  · rw [if_neg hk]
theorem xup_k {F : xS} {f d k : Nat} {v : Int32} (h : k ≠ f) : xup F f d v k = F k := by unfold xup; rw [if_neg h]
theorem xup_f {F : xS} {f d : Nat} {v : Int32} : xup F f d v f = upd (F f) d v := by unfold xup; rw [if_pos rfl]
theorem xup_id {F : xS} {f d : Nat} {v : Int32} (h : F f d = v) : xup F f d v = F := by
  funext k j
  by_cases hk : k = f
  · by_cases hj : j = d
    · subst hk; subst hj; rw [xup_same, h]
    · exact xup_ne (Or.inr hj)
  · exact xup_ne (Or.inl hk)
theorem xup_xup {F : xS} {f d : Nat} {v w : Int32} : xup (xup F f d v) f d w = xup F f d w := by
  funext k j
  by_cases hk : k = f
  · by_cases hj : j = d
    · subst hk; subst hj; rw [xup_same, xup_same]
    · rw [xup_ne (Or.inr hj), xup_ne (Or.inr hj), xup_ne (Or.inr hj)]
  · rw [xup_ne (Or.inl hk), xup_ne (Or.inl hk), xup_ne (Or.inl hk)]
theorem xup_comm {F : xS} {f d g c : Nat} {v w : Int32} (h : f ≠ g ∨ d ≠ c) : xup (xup F f d v) g c w = xup (xup F g c w) f d v := by
  funext k j
  by_cases h1 : k = f ∧ j = d
  · obtain ⟨rfl, rfl⟩ := h1
    rw [xup_same, xup_ne h, xup_same]
  · have h1' : k ≠ f ∨ j ≠ d := by
      by_cases hk : k = f
      · exact Or.inr (fun hj => h1 ⟨hk, hj⟩)
      · exact Or.inl hk
    rw [xup_ne (F := xup F g c w) h1']
    by_cases h2 : k = g ∧ j = c
    · obtain ⟨rfl, rfl⟩ := h2
      rw [xup_same, xup_same]
    · have h2' : k ≠ g ∨ j ≠ c := by
        by_cases hk : k = g
        · exact Or.inr (fun hj => h2 ⟨hk, hj⟩)
        · exact Or.inl hk
      rw [xup_ne h2', xup_ne h2', xup_ne h1']
abbrev xqs (f : Nat → Option Nat) : (Nat → Int32) ⊕ (Nat → Int64) ⊕ (Nat → UInt32) ⊕ (Nat → UInt64) ⊕ (Nat → Option Nat) := .inr (.inr (.inr (.inr f)))
/-! the class's chunks -/
def xoW (ad : Nat → Nat) (up op tr : Int32) : va_W := [(ad 0, .inr (4, [.ref (ad 1), .ref (ad 2), .ref (ad 3), .ref (ad 4), .ref (ad 5), .int up, .int op, .int tr]))]
def lkC (ad : Nat → Nat) (S : xS) (j : Nat) : Nat × va_E := (ad (6 + j), .inr (2, [.int (S 0 j), .int (S 1 j), .int (S 2 j), .int (S 3 j)]))
def lkW (D : va_G) (ad : Nat → Nat) (S : xS) : va_W := (ad 1, .inl (D.1 13, 4, xqs (fun j => some (ad (6 + j))))) :: (List.range 4).map (lkC ad S)
abbrev xRg : Type := Nat × (Nat → Int32) × (Nat → Int32) × (Nat → Int32)
def rwW (D : va_G) (r ka sa va : Nat) (g : xRg) (n : Nat) : va_W := [(r, .inr (3, [.ref ka, .ref sa, .ref va, .int (nI g.1), .int (nI n)])), (ka, .inl (D.1 10, 512, .inl g.2.1)), (sa, .inl (D.1 10, 512, .inl g.2.2.1)), (va, .inl (D.1 10, 512, .inl g.2.2.2))]
abbrev xFr : Type := Nat × Nat × Nat
def rwOk (q : List xFr) (g : xRg) : Prop := g.1 < 512 ∧ q.length ≤ 512 ∧ ∀ (i : Nat) (x : xFr), q[i]? = some x → g.2.1 ((g.1 + i) % 512) = nI x.1 ∧ g.2.2.1 ((g.1 + i) % 512) = nI x.2.1 ∧ g.2.2.2 ((g.1 + i) % 512) = nI x.2.2
abbrev xAg : Type := Int32 × Option (Nat × Nat × (Nat → Option Nat))
def alW (D : va_G) (e0 a : Nat) (h : xAg) (n : Nat) : va_W := match h with
  | (m, none) => [(a, .inr (0, [.int m, .ref e0, .int (nI n)]))]
  | (m, some (q, c, f)) => [(a, .inr (0, [.int m, .ref q, .int (nI n)])), (q, .inl (D.1 14, c, xqs f))]
def alOk (h : xAg) (n : Nat) (w : Nat → Nat) : Prop := match h with
  | (_, none) => n = 0
  | (_, some (_, c, f)) => n ≤ c ∧ 2 ≤ c ∧ c ≤ 120 ∧ ∀ i, i < n → f i = some (w i)
def xbf (z : Int32) : Int32 := if z = 0 then 0 else 4
def dvC (da : Nat → Nat) (S : xS) (om : Nat → Int32) (d : Nat) : Nat × va_E := (da d, .inr (1, [.int (nI d), .int (S 4 d), .int (S 5 d), .int (S 6 d), .int (S 7 d), .int (S 8 d), .int (S 9 d), .int (xbf (S 11 d)), .int (S 10 d), .int (om d), .int (S 14 d), .int (S 13 d)]))
def dvW (da : Nat → Nat) (N : Nat) (S : xS) (om : Nat → Int32) : va_W := (List.range N).map (dvC da S om)
theorem lk_get {D : va_G} {ad : Nat → Nat} {S : xS} {j : Nat} (h : j < 4) : (lkW D ad S)[j + 1]? = some (ad (6 + j), .inr (2, [.int (S 0 j), .int (S 1 j), .int (S 2 j), .int (S 3 j)])) := by
  show ((List.range 4).map (lkC ad S))[j]? = _
  rw [List.getElem?_map, List.getElem?_range h]
  rfl
theorem dv_get {da : Nat → Nat} {N : Nat} {S : xS} {om : Nat → Int32} {d : Nat} (h : d < N) : (dvW da N S om)[d]? = some (dvC da S om d) := by
  unfold dvW
  rw [List.getElem?_map, List.getElem?_range h]
  rfl
theorem xmap_set {α : Type} {N d : Nat} {f g : Nat → α} {y : α} (h : d < N) (hy : g d = y) (ho : ∀ j, j ≠ d → g j = f j) : ((List.range N).map f).set d y = (List.range N).map g := by
  apply List.ext_getElem?
  intro j
  by_cases hj : j = d
  · subst hj
    rw [List.getElem?_set_self (by simpa using h), List.getElem?_map, List.getElem?_range h, ← hy]
    rfl
  · rw [List.getElem?_set_ne (Ne.symm hj), List.getElem?_map, List.getElem?_map]
    by_cases hl : j < N
    · rw [List.getElem?_range hl]
      show some (f j) = some (g j)
      rw [ho j hj]
    · rw [List.getElem?_eq_none (by simpa using hl)]
      rfl
theorem lk_set0 {D : va_G} {ad : Nat → Nat} {S : xS} {j : Nat} {v : Int32} (h : j < 4) : (lkW D ad S).set (j + 1) (ad (6 + j), .inr (2, [.int v, .int (S 1 j), .int (S 2 j), .int (S 3 j)])) = lkW D ad (xup S 0 j v) := by
  unfold lkW
  rw [List.set_cons_succ]
  congr 1
  refine xmap_set h ?_ (fun i hi => ?_)
  · simp [lkC, xup, upd]
  · simp [lkC, xup, upd, hi]
theorem lk_set1 {D : va_G} {ad : Nat → Nat} {S : xS} {j : Nat} {v : Int32} (h : j < 4) : (lkW D ad S).set (j + 1) (ad (6 + j), .inr (2, [.int (S 0 j), .int v, .int (S 2 j), .int (S 3 j)])) = lkW D ad (xup S 1 j v) := by
  unfold lkW
  rw [List.set_cons_succ]
  congr 1
  refine xmap_set h ?_ (fun i hi => ?_)
  · simp [lkC, xup, upd]
  · simp [lkC, xup, upd, hi]
theorem lk_set2 {D : va_G} {ad : Nat → Nat} {S : xS} {j : Nat} {v : Int32} (h : j < 4) : (lkW D ad S).set (j + 1) (ad (6 + j), .inr (2, [.int (S 0 j), .int (S 1 j), .int v, .int (S 3 j)])) = lkW D ad (xup S 2 j v) := by
  unfold lkW
  rw [List.set_cons_succ]
  congr 1
  refine xmap_set h ?_ (fun i hi => ?_)
  · simp [lkC, xup, upd]
  · simp [lkC, xup, upd, hi]
theorem lk_set3 {D : va_G} {ad : Nat → Nat} {S : xS} {j : Nat} {v : Int32} (h : j < 4) : (lkW D ad S).set (j + 1) (ad (6 + j), .inr (2, [.int (S 0 j), .int (S 1 j), .int (S 2 j), .int v])) = lkW D ad (xup S 3 j v) := by
  unfold lkW
  rw [List.set_cons_succ]
  congr 1
  refine xmap_set h ?_ (fun i hi => ?_)
  · simp [lkC, xup, upd]
  · simp [lkC, xup, upd, hi]
theorem dv_set4 {da : Nat → Nat} {N : Nat} {S : xS} {om : Nat → Int32} {d : Nat} {v : Int32} (h : d < N) : (dvW da N S om).set d (da d, .inr (1, [.int (nI d), .int (S 4 d), .int (S 5 d), .int (S 6 d), .int v, .int (S 8 d), .int (S 9 d), .int (xbf (S 11 d)), .int (S 10 d), .int (om d), .int (S 14 d), .int (S 13 d)])) = dvW da N (xup S 7 d v) om := by
  unfold dvW
  refine xmap_set h ?_ (fun i hi => ?_)
  · simp [dvC, xup, upd]
  · simp [dvC, xup, upd, hi]
theorem dv_set5 {da : Nat → Nat} {N : Nat} {S : xS} {om : Nat → Int32} {d : Nat} {v : Int32} (h : d < N) : (dvW da N S om).set d (da d, .inr (1, [.int (nI d), .int (S 4 d), .int (S 5 d), .int (S 6 d), .int (S 7 d), .int v, .int (S 9 d), .int (xbf (S 11 d)), .int (S 10 d), .int (om d), .int (S 14 d), .int (S 13 d)])) = dvW da N (xup S 8 d v) om := by
  unfold dvW
  refine xmap_set h ?_ (fun i hi => ?_)
  · simp [dvC, xup, upd]
  · simp [dvC, xup, upd, hi]
theorem dv_set6 {da : Nat → Nat} {N : Nat} {S : xS} {om : Nat → Int32} {d : Nat} {v : Int32} (h : d < N) : (dvW da N S om).set d (da d, .inr (1, [.int (nI d), .int (S 4 d), .int (S 5 d), .int (S 6 d), .int (S 7 d), .int (S 8 d), .int v, .int (xbf (S 11 d)), .int (S 10 d), .int (om d), .int (S 14 d), .int (S 13 d)])) = dvW da N (xup S 9 d v) om := by
  unfold dvW
  refine xmap_set h ?_ (fun i hi => ?_)
  · simp [dvC, xup, upd]
  · simp [dvC, xup, upd, hi]
theorem dv_set7 {da : Nat → Nat} {N : Nat} {S : xS} {om : Nat → Int32} {d : Nat} {v : Int32} {z : Int32} (hz : xbf z = v) (h : d < N) : (dvW da N S om).set d (da d, .inr (1, [.int (nI d), .int (S 4 d), .int (S 5 d), .int (S 6 d), .int (S 7 d), .int (S 8 d), .int (S 9 d), .int v, .int (S 10 d), .int (om d), .int (S 14 d), .int (S 13 d)])) = dvW da N (xup S 11 d z) om := by
  unfold dvW
  refine xmap_set h ?_ (fun i hi => ?_)
  · simp [dvC, xup, upd, hz]
  · simp [dvC, xup, upd, hi]
theorem dv_set8 {da : Nat → Nat} {N : Nat} {S : xS} {om : Nat → Int32} {d : Nat} {v : Int32} (h : d < N) : (dvW da N S om).set d (da d, .inr (1, [.int (nI d), .int (S 4 d), .int (S 5 d), .int (S 6 d), .int (S 7 d), .int (S 8 d), .int (S 9 d), .int (xbf (S 11 d)), .int v, .int (om d), .int (S 14 d), .int (S 13 d)])) = dvW da N (xup S 10 d v) om := by
  unfold dvW
  refine xmap_set h ?_ (fun i hi => ?_)
  · simp [dvC, xup, upd]
  · simp [dvC, xup, upd, hi]
theorem dv_set9 {da : Nat → Nat} {N : Nat} {S : xS} {om : Nat → Int32} {d : Nat} {v : Int32} (h : d < N) : (dvW da N S om).set d (da d, .inr (1, [.int (nI d), .int (S 4 d), .int (S 5 d), .int (S 6 d), .int (S 7 d), .int (S 8 d), .int (S 9 d), .int (xbf (S 11 d)), .int (S 10 d), .int v, .int (S 14 d), .int (S 13 d)])) = dvW da N S (upd om d v) := by
  unfold dvW
  refine xmap_set h ?_ (fun i hi => ?_)
  · simp [dvC, upd]
  · simp [dvC, upd, hi]
theorem dv_set10 {da : Nat → Nat} {N : Nat} {S : xS} {om : Nat → Int32} {d : Nat} {v : Int32} (h : d < N) : (dvW da N S om).set d (da d, .inr (1, [.int (nI d), .int (S 4 d), .int (S 5 d), .int (S 6 d), .int (S 7 d), .int (S 8 d), .int (S 9 d), .int (xbf (S 11 d)), .int (S 10 d), .int (om d), .int v, .int (S 13 d)])) = dvW da N (xup S 14 d v) om := by
  unfold dvW
  refine xmap_set h ?_ (fun i hi => ?_)
  · simp [dvC, xup, upd]
  · simp [dvC, xup, upd, hi]
theorem dv_set11 {da : Nat → Nat} {N : Nat} {S : xS} {om : Nat → Int32} {d : Nat} {v : Int32} (h : d < N) : (dvW da N S om).set d (da d, .inr (1, [.int (nI d), .int (S 4 d), .int (S 5 d), .int (S 6 d), .int (S 7 d), .int (S 8 d), .int (S 9 d), .int (xbf (S 11 d)), .int (S 10 d), .int (om d), .int (S 14 d), .int v])) = dvW da N (xup S 13 d v) om := by
  unfold dvW
  refine xmap_set h ?_ (fun i hi => ?_)
  · simp [dvC, xup, upd]
  · simp [dvC, xup, upd, hi]
theorem dv_push {da : Nat → Nat} {N : Nat} {S S1 : xS} {om om1 : Nat → Int32} {q : Nat} {e : va_E} (ho : ∀ j, j < N → dvC (va_up da N q) S1 om1 j = dvC da S om j) (hn : (q, e) = dvC (va_up da N q) S1 om1 N) : dvW da N S om ++ [(q, e)] = dvW (va_up da N q) (N + 1) S1 om1 := by
  unfold dvW
  rw [List.range_succ, List.map_append, List.map_singleton, hn]
  congr 1
  refine List.map_congr_left fun j hj => ?_
  exact (ho j (List.mem_range.mp hj)).symm
theorem dv_congr {da : Nat → Nat} {N : Nat} {S S1 : xS} {om om1 : Nat → Int32} (ho : ∀ j, j < N → dvC da S om j = dvC da S1 om1 j) : dvW da N S om = dvW da N S1 om1 :=
  List.map_congr_left fun j hj => ho j (List.mem_range.mp hj)
theorem lk_congr {D : va_G} {ad : Nat → Nat} {S S1 : xS} (ho : ∀ j, j < 4 → lkC ad S j = lkC ad S1 j) : lkW D ad S = lkW D ad S1 := by
  unfold lkW
  congr 1
  exact List.map_congr_left fun j hj => ho j (List.mem_range.mp hj)

theorem x_ialdN {l : Launch} {D : va_G} {e0 : Nat} {own : String} {cc : ByteArray} {nL : Nat} {ret : Option FieldType} {hh : List (Nat × Nat × Nat × Nat)} {R : Room} {G : xGt} {X : xXt} (B : xB l D e0 own cc nL ret hh R G X) {pc : Nat} {lv : List (Nat × Value)} {st : List Value} {cs : List va_W} {k n : Nat} {a m0 : Nat} {f0 : Nat → Int32} {ch : va_W} (d i j : Nat) (hd : d < m0) (hm : m0 < 2 ^ 31) (hi : cs[i]? = some ch) (hj : ch[j]? = some (a, .inl (D.1 10, m0, .inl f0))) (hdg : decode cc pc = .ok (.iaload, 1)) (kk : G (pc + 1) lv (.int (f0 d) :: st) cs k n) : G pc lv (.int (nI d) :: .ref a :: st) cs k n := by
  refine x_iald B i j hi hj (vp_in_nI hd hm) hdg ?_
  rw [nI_clamp (Nat.lt_trans hd hm)]
  exact kk
theorem x_kaldN {l : Launch} {D : va_G} {e0 : Nat} {own : String} {cc : ByteArray} {nL : Nat} {ret : Option FieldType} {hh : List (Nat × Nat × Nat × Nat)} {R : Room} {G : xGt} {X : xXt} (B : xB l D e0 own cc nL ret hh R G X) {pc : Nat} {lv : List (Nat × Value)} {st : List Value} {cs : List va_W} {k n : Nat} {a m0 : Nat} {f0 : Nat → Option Nat} {ch : va_W} (d i j : Nat) (hd : d < m0) (hm : m0 < 2 ^ 31) (hi : cs[i]? = some ch) (hj : ch[j]? = some (a, .inl (D.1 13, m0, xqs f0))) (hdg : decode cc pc = .ok (.aaload, 1)) (kk : G (pc + 1) lv (va_rf (f0 d) :: st) cs k n) : G pc lv (.int (nI d) :: .ref a :: st) cs k n := by
  refine x_kald B i j hi hj (vp_in_nI hd hm) hdg ?_
  rw [nI_clamp (Nat.lt_trans hd hm)]
  exact kk
theorem x_oaldN {l : Launch} {D : va_G} {e0 : Nat} {own : String} {cc : ByteArray} {nL : Nat} {ret : Option FieldType} {hh : List (Nat × Nat × Nat × Nat)} {R : Room} {G : xGt} {X : xXt} (B : xB l D e0 own cc nL ret hh R G X) {pc : Nat} {lv : List (Nat × Value)} {st : List Value} {cs : List va_W} {k n : Nat} {a m0 : Nat} {f0 : Nat → Option Nat} {ch : va_W} (d i j : Nat) (hd : d < m0) (hm : m0 < 2 ^ 31) (hi : cs[i]? = some ch) (hj : ch[j]? = some (a, .inl (D.1 14, m0, xqs f0))) (hdg : decode cc pc = .ok (.aaload, 1)) (kk : G (pc + 1) lv (va_rf (f0 d) :: st) cs k n) : G pc lv (.int (nI d) :: .ref a :: st) cs k n := by
  refine x_oald B i j hi hj (vp_in_nI hd hm) hdg ?_
  rw [nI_clamp (Nat.lt_trans hd hm)]
  exact kk
theorem x_iastN {l : Launch} {D : va_G} {e0 : Nat} {own : String} {cc : ByteArray} {nL : Nat} {ret : Option FieldType} {hh : List (Nat × Nat × Nat × Nat)} {R : Room} {G : xGt} {X : xXt} (B : xB l D e0 own cc nL ret hh R G X) {pc : Nat} {lv : List (Nat × Value)} {st : List Value} {cs : List va_W} {k n : Nat} {a m0 : Nat} {f0 : Nat → Int32} {x : Int32} {ch ch1 : va_W} (d i j : Nat) (cs1 : List va_W) (hd : d < m0) (hm : m0 < 2 ^ 31) (hi : cs[i]? = some ch) (hj : ch[j]? = some (a, .inl (D.1 10, m0, .inl f0))) (hs : ch.set j (a, .inl (D.1 10, m0, .inl (upd f0 d x))) = ch1) (hcs : cs.set i ch1 = cs1) (hdg : decode cc pc = .ok (.iastore, 1)) (kk : G (pc + 1) lv st cs1 k n) : G pc lv (.int x :: .int (nI d) :: .ref a :: st) cs k n := by
  refine x_iast B i j cs1 hi hj (vp_in_nI hd hm) ?_ hcs hdg kk
  rw [nI_clamp (Nat.lt_trans hd hm)]
  exact hs
theorem x_kastN {l : Launch} {D : va_G} {e0 : Nat} {own : String} {cc : ByteArray} {nL : Nat} {ret : Option FieldType} {hh : List (Nat × Nat × Nat × Nat)} {R : Room} {G : xGt} {X : xXt} (B : xB l D e0 own cc nL ret hh R G X) {pc : Nat} {lv : List (Nat × Value)} {st : List Value} {cs : List va_W} {k n : Nat} {a m0 : Nat} {f0 : Nat → Option Nat} {b : Nat} {vs : List Value} {ch2 : va_W} {ch ch1 : va_W} (d i j : Nat) (i2 j2 : Nat) (cs1 : List va_W) (hd : d < m0) (hm : m0 < 2 ^ 31) (hi : cs[i]? = some ch) (hj : ch[j]? = some (a, .inl (D.1 13, m0, xqs f0))) (hi2 : cs[i2]? = some ch2) (hj2 : ch2[j2]? = some (b, .inr (2, vs))) (hs : ch.set j (a, .inl (D.1 13, m0, xqs (va_up f0 d (some b)))) = ch1) (hcs : cs.set i ch1 = cs1) (hdg : decode cc pc = .ok (.aastore, 1)) (kk : G (pc + 1) lv st cs1 k n) : G pc lv (.ref b :: .int (nI d) :: .ref a :: st) cs k n := by
  refine x_kast B i j i2 j2 cs1 hi hj hi2 hj2 (vp_in_nI hd hm) ?_ hcs hdg kk
  rw [nI_clamp (Nat.lt_trans hd hm)]
  exact hs
theorem x_oastN {l : Launch} {D : va_G} {e0 : Nat} {own : String} {cc : ByteArray} {nL : Nat} {ret : Option FieldType} {hh : List (Nat × Nat × Nat × Nat)} {R : Room} {G : xGt} {X : xXt} (B : xB l D e0 own cc nL ret hh R G X) {pc : Nat} {lv : List (Nat × Value)} {st : List Value} {cs : List va_W} {k n : Nat} {a m0 : Nat} {f0 : Nat → Option Nat} {b : Nat} {vs : List Value} {ch2 : va_W} {ch ch1 : va_W} (d i j : Nat) (i2 j2 : Nat) (cs1 : List va_W) (hd : d < m0) (hm : m0 < 2 ^ 31) (hi : cs[i]? = some ch) (hj : ch[j]? = some (a, .inl (D.1 14, m0, xqs f0))) (hi2 : cs[i2]? = some ch2) (hj2 : ch2[j2]? = some (b, .inr (1, vs))) (hs : ch.set j (a, .inl (D.1 14, m0, xqs (va_up f0 d (some b)))) = ch1) (hcs : cs.set i ch1 = cs1) (hdg : decode cc pc = .ok (.aastore, 1)) (kk : G (pc + 1) lv st cs1 k n) : G pc lv (.ref b :: .int (nI d) :: .ref a :: st) cs k n := by
  refine x_oast B i j i2 j2 cs1 hi hj hi2 hj2 (vp_in_nI hd hm) ?_ hcs hdg kk
  rw [nI_clamp (Nat.lt_trans hd hm)]
  exact hs
theorem x_oastnullN {l : Launch} {D : va_G} {e0 : Nat} {own : String} {cc : ByteArray} {nL : Nat} {ret : Option FieldType} {hh : List (Nat × Nat × Nat × Nat)} {R : Room} {G : xGt} {X : xXt} (B : xB l D e0 own cc nL ret hh R G X) {pc : Nat} {lv : List (Nat × Value)} {st : List Value} {cs : List va_W} {k n : Nat} {a m0 : Nat} {f0 : Nat → Option Nat}  {ch ch1 : va_W} (d i j : Nat) (cs1 : List va_W) (hd : d < m0) (hm : m0 < 2 ^ 31) (hi : cs[i]? = some ch) (hj : ch[j]? = some (a, .inl (D.1 14, m0, xqs f0))) (hs : ch.set j (a, .inl (D.1 14, m0, xqs (va_up f0 d none))) = ch1) (hcs : cs.set i ch1 = cs1) (hdg : decode cc pc = .ok (.aastore, 1)) (kk : G (pc + 1) lv st cs1 k n) : G pc lv (.null :: .int (nI d) :: .ref a :: st) cs k n := by
  refine x_oastnull B i j cs1 hi hj (vp_in_nI hd hm) ?_ hcs hdg kk
  rw [nI_clamp (Nat.lt_trans hd hm)]
  exact hs
theorem x_putF {l : Launch} {D : va_G} {e0 : Nat} {own : String} {cc : ByteArray} {nL : Nat} {ret : Option FieldType} {hh : List (Nat × Nat × Nat × Nat)} {R : Room} {G : xGt} {X : xXt} {nm : String} {cs0 : List va_W} {post : Option Value → List va_W → Prop} {xp : String → Prop} (F : xF l D e0 own cc nL ret hh R nm cs0 post xp G X) {pc : Nat} {lv : List (Nat × Value)} {st : List Value} {cs : List va_W} {k n : Nat} {ci : Nat} {C : String} {T : u_T} {N : Nat} {ty : Nat → FieldType} {a index : Nat} {ref : String} {fs : List Value} {v : Value} {t0 : FieldType} {ch ch1 : va_W} (hc : xCl ci C T N ty) (i j f : Nat) (cs1 : List va_W) (hi : cs[i]? = some ch) (hj : ch[j]? = some (a, .inr (ci, fs))) (hf : f < N) (hw : Cond.fieldLink own index ref (T f).2.1 (T f).2.2.1 ∈ lw_tbl) (hr : (T f).1 = ref) (hfin : (T f).2.2.2 = true) (hin : nm = "<init>") (hdecl : (T f).1 = own) (ht : ty f = t0) (hna : narrow t0 v = v) (hfi : fits t0 v = true) (hl : f < fs.length) (hs : ch.set j (a, .inr (ci, fs.set f v)) = ch1) (hcs : cs.set i ch1 = cs1) (hdg : decode cc pc = .ok (.putfield index, 3)) (kk : G (pc + 3) lv st cs1 k n) : G pc lv (v :: .ref a :: st) cs k n := by
  obtain ⟨p, e, s, m, args, below, meth, c, A, Q, rfl, rfl, hx, hb, hml, hown, ⟨hts, hret, htab, hZ, hA, hlk, htr⟩, hnm, rfl⟩ := F
  subst hr
  subst ht
  subst hs
  subst hcs
  intro H locs ls hP hD hS hL
  obtain ⟨q0, hq, hset⟩ := xfl_at hi hj
  refine va_putF hx hb hts hc.2.1 ty hc.2.2.1 hc.2.2.2 hown hZ.1 hP hD hS q0 hq hc.1 f hf (hts _ (xT_mem hw rfl)) (fun _ h => h) hfin (hnm.trans hin) hdecl (hc.2.2.1 f hf) hna hfi hl hdg (fun H1 locs1 hP1 hD1 hS1 => ?_)
  rw [hset] at hP1 hD1
  exact kk H1 locs1 ls hP1 hD1 hS1 hL
theorem x_tableIn {l : Launch} {D : va_G} {e0 : Nat} {own : String} {cc : ByteArray} {nL : Nat} {ret : Option FieldType} {hh : List (Nat × Nat × Nat × Nat)} {R : Room} {G : xGt} {X : xXt} (B : xB l D e0 own cc nL ret hh R G X) {pc : Nat} {lv : List (Nat × Value)} {st : List Value} {cs : List va_W} {k n : Nat} {dflt lo hi : Int} {offs : Array Int} {len : Nat} {x : Int32} {off : Int} (tgt : Nat) (hdg : decode cc pc = .ok (.tableswitch dflt lo hi offs, len)) (h1 : ¬ x.toInt < lo) (h2 : ¬ hi < x.toInt) (ho : offs[(x.toInt - lo).toNat]? = some off) (ht : (pc : Int) + off = (tgt : Int)) (kk : G tgt lv st cs k n) : G pc lv (.int x :: st) cs k n := by
  obtain ⟨p, e, s, m, args, below, meth, c, A, Q, rfl, rfl, hx, hb, hml, hown, hts, hret, htab, hZ, hA, hlk, htr⟩ := B
  intro H locs ls hP hD hS hL
  exact lv_tableIn hx hb hdg h1 h2 ho ht (kk H locs ls hP hD hS hL)
theorem x_tableOut {l : Launch} {D : va_G} {e0 : Nat} {own : String} {cc : ByteArray} {nL : Nat} {ret : Option FieldType} {hh : List (Nat × Nat × Nat × Nat)} {R : Room} {G : xGt} {X : xXt} (B : xB l D e0 own cc nL ret hh R G X) {pc : Nat} {lv : List (Nat × Value)} {st : List Value} {cs : List va_W} {k n : Nat} {dflt lo hi : Int} {offs : Array Int} {len : Nat} {x : Int32} (tgt : Nat) (hdg : decode cc pc = .ok (.tableswitch dflt lo hi offs, len)) (h : x.toInt < lo ∨ hi < x.toInt) (ht : (pc : Int) + dflt = (tgt : Int)) (kk : G tgt lv st cs k n) : G pc lv (.int x :: st) cs k n := by
  obtain ⟨p, e, s, m, args, below, meth, c, A, Q, rfl, rfl, hx, hb, hml, hown, hts, hret, htab, hZ, hA, hlk, htr⟩ := B
  intro H locs ls hP hD hS hL
  exact lv_tableOut hx hb hdg h ht (kk H locs ls hP hD hS hL)
theorem x_ldcM {l : Launch} {D : va_G} {e0 : Nat} {own : String} {cc : ByteArray} {nL : Nat} {ret : Option FieldType} {hh : List (Nat × Nat × Nat × Nat)} {R : Room} {G : xGt} {X : xXt} (B : xB l D e0 own cc nL ret hh R G X) {pc : Nat} {lv : List (Nat × Value)} {st : List Value} {cs : List va_W} {k n : Nat} {index : Nat} (hw : Cond.classLink own index "[Ljava/lang/Object;" ∈ lw_tbl) (hdg : decode cc pc = .ok (.ldc index, 2)) (kk : G (pc + 2) lv (.ref (D.2 99 0) :: st) cs k n) : G pc lv st cs k n := by
  obtain ⟨p, e, s, m, args, below, meth, c, A, Q, rfl, rfl, hx, hb, hml, hown, hts, hret, htab, hZ, hA, hlk, htr⟩ := B
  intro H locs ls hP hD hS hL
  exact va_ldcM hx hb hown (hts _ (xT_mem hw rfl)) hZ.2.1.2.2.2.2.2.2 hdg (kk H locs ls hP hD hS hL)
theorem x_getC {l : Launch} {D : va_G} {e0 : Nat} {own : String} {cc : ByteArray} {nL : Nat} {ret : Option FieldType} {hh : List (Nat × Nat × Nat × Nat)} {R : Room} {G : xGt} {X : xXt} (B : xB l D e0 own cc nL ret hh R G X) {pc : Nat} {lv : List (Nat × Value)} {st : List Value} {cs : List va_W} {k n : Nat} {index a m0 : Nat} {f0 : Nat → Option Nat} {ch : va_W} (i j : Nat) (hi : cs[i]? = some ch) (hj : ch[j]? = some (a, .inl (D.1 14, m0, xqs f0))) (m1 : Cond.methodLink own index ⟨"java/lang/Object", "getClass", "()Ljava/lang/Class;"⟩ ∈ lw_tbl) (m2 : Cond.selects "[Ljava/lang/Object;" ⟨"java/lang/Object", "getClass", "()Ljava/lang/Class;"⟩ ⟨"java/lang/Object", "getClass", "()Ljava/lang/Class;"⟩ ∈ lw_tbl) (m3 : Cond.instanceMethod ⟨"java/lang/Object", "getClass", "()Ljava/lang/Class;"⟩ ∈ lw_tbl) (m4 : Cond.native ⟨"java/lang/Object", "getClass", "()Ljava/lang/Class;"⟩ ∈ lw_tbl) (hf : 1 ≤ R.frames) (hlo : (st.map fun v => v.category).sum + 14 ≤ R.locals) (hdg : decode cc pc = .ok (.invokevirtual index, 3)) (kk : G (pc + 3) lv (.ref (D.2 99 0) :: st) cs k n) : G pc lv (.ref a :: st) cs k n := by
  obtain ⟨p, e, s, m, args, below, meth, c, A, Q, rfl, rfl, hx, hb, hml, hown, hts, hret, htab, hZ, hA, hlk, htr⟩ := B
  intro H locs ls hP hD hS hL
  obtain ⟨q0, hq⟩ := xfl_mem hi hj
  have hK := hZ.1.2 4 (D.1 14, .object "java/lang/Object") rfl
  exact va_getC hx hb (hml.trans hL.1.symm) hown (hts _ (xT_mem m1 rfl)) (va_Nw.use rfl (hZ.2.1.1 ⟨"java/lang/Object", "getClass", "()Ljava/lang/Class;"⟩ (by simp [xND]))) (hts _ (xT_mem m2 rfl)) (hts _ (xT_mem m3 rfl)) (hts _ (xT_mem m4 rfl)) hZ.2.1.2.2.2.2.2.2 ⟨_, hP q0 _ hq, rfl, va_nmO hK.2 rfl⟩ hf hlo hdg (kk H locs ls hP hD hS hL)
theorem x_copy {l : Launch} {D : va_G} {e0 : Nat} {own : String} {cc : ByteArray} {nL : Nat} {ret : Option FieldType} {hh : List (Nat × Nat × Nat × Nat)} {R : Room} {G : xGt} {X : xXt} (B : xB l D e0 own cc nL ret hh R G X) {pc : Nat} {lv : List (Nat × Value)} {st : List Value} {cs : List va_W} {k n : Nat} {a b m0 m1 index : Nat} {f0 f1 : Nat → Option Nat} {ch ch1 ch2 ch9 : va_W} (i j i1 j1 i9 : Nat) (n9 : Nat) (cs1 : List va_W) (hi : cs[i]? = some ch) (hj : ch[j]? = some (a, .inl (D.1 14, m0, xqs f0))) (hi1 : cs[i1]? = some ch1) (hj1 : ch1[j1]? = some (b, .inl (D.1 14, m1, xqs f1))) (hi9 : cs[i9]? = some ch9) (h0 : n9 ≤ m0) (h1 : n9 ≤ m1) (h31 : n9 < 2 ^ 31) (hel : ∀ i, i < n9 → ∀ y, f0 i = some y → ∃ (j9 : Nat) (vs : List Value), ch9[j9]? = some (y, .inr (1, vs)))
    (hs : ch1.set j1 (b, .inl (D.1 14, m1, xqs (va_cpy f0 f1 0 0 n9))) = ch2) (hcs : cs.set i1 ch2 = cs1) (w1 : Cond.methodLink own index arraycopyName ∈ lw_tbl) (w2 : Cond.native arraycopyName ∈ lw_tbl) (w3 : Cond.static arraycopyName ∈ lw_tbl) (w4 : Cond.initialized "java/lang/System" ∈ lw_tbl) (hf : 1 ≤ R.frames) (hlo : (st.map fun v => v.category).sum + (nativeFrameWords "java/lang/System" "arraycopy" 5 + 11) ≤ R.locals) (hdg : decode cc pc = .ok (.invokestatic index, 3)) (kk : G (pc + 3) lv st cs1 k n) : G pc lv (.int (nI n9) :: .int 0 :: .ref b :: .int 0 :: .ref a :: st) cs k n := by
  subst hs
  subst hcs
  obtain ⟨p, e, s, m, args, below, meth, c, A, Q, rfl, rfl, hx, hb, hml, hown, hts, hret, htab, hZ, hA, hlk, htr⟩ := B
  intro H locs ls hP hD hS hL
  obtain ⟨q0, hq⟩ := xfl_mem hi hj
  obtain ⟨q1, hq1, hset⟩ := xfl_at hi1 hj1
  have e9 : (nI n9).toNatClampNeg = n9 := nI_clamp h31
  have e0 : (0 : Int32).toNatClampNeg = 0 := sb_cl0
  refine va_copyM hx hb (hml.trans hL.1.symm) hown (hts _ (xT_mem w1 rfl)) (hts _ (xT_mem w2 rfl)) (hts _ (xT_mem w3 rfl)) (hts _ (xT_mem w4 rfl)) hZ.1 hP hD hS q0 q1 4 4 hq hq1 rfl rfl (by decide) (by decide) (nI_pos h31) (by rw [e9, e0]; omega) (by rw [e9, e0]; omega) (fun i hin y hy => ?_) hf hlo hdg (fun H1 locs1 hP1 hD1 hS1 => ?_)
  · rw [e9] at hin
    rw [e0, Nat.zero_add] at hy
    obtain ⟨j9, vs, h9⟩ := hel i hin y hy
    obtain ⟨q9, hq9⟩ := xfl_mem hi9 h9
    refine va_rAny (r := (RX0, TX0, 12)) hZ.1 hP hq9 rfl (fun comp c0 hc1 hc2 => ?_)
    obtain ⟨c3, c4, hc3, hc4, hasg⟩ := Cond.castable_spec (va_Nw.use (A := #[]) rfl (hZ.2.1.2.1 ("CreditLinks$Delivery", "java/lang/Object") (by simp [xNC])))
    cases Option.some.inj (hc3.symm.trans hc2)
    cases Option.some.inj (hc4.symm.trans hc1)
    exact hasg
  · rw [e9, e0] at hP1 hD1
    rw [hset] at hP1 hD1
    exact kk H1 locs1 ls hP1 hD1 hS1 hL
