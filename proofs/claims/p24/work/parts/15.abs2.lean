/-! the abstract steps of the whole object; ranges of arguments -/
def xinB (lo hi : Nat) (v : Int32) : Bool := decide (nI lo ≤ v) && decide (v ≤ nI hi)
theorem xinB_t {lo hi : Nat} {v : Int32} (h : xinB lo hi v = true) (hh : hi < 2 ^ 31) (hl : lo < 2 ^ 31) : ∃ j, lo ≤ j ∧ j ≤ hi ∧ v = nI j := by
  unfold xinB at h
  simp only [Bool.and_eq_true, decide_eq_true_eq] at h
  have h0 : ¬ v < 0 := by
    intro e
    have e1 := Int32.lt_iff_toInt_lt.mp e
    have e2 := Int32.le_iff_toInt_le.mp h.1
    rw [nI_toInt hl] at e2
    have e3 : (0 : Int32).toInt = 0 := rfl
    omega
  obtain ⟨j, hj, rfl⟩ := nI_of h0
  exact ⟨j, (nI_leI hl hj).mp h.1, (nI_leI hj hh).mp h.2, rfl⟩
theorem xinB_nI {lo hi j : Nat} (h1 : lo ≤ j) (h2 : j ≤ hi) (hh : hi < 2 ^ 31) : xinB lo hi (nI j) = true := by
  unfold xinB
  rw [decide_eq_true (nI_le h1 (by omega)), decide_eq_true (nI_le h2 hh)]
  rfl
theorem xinB_no_a {lo hi : Nat} {v : Int32} (h : xinB lo hi v = false) (h1 : ¬ v < nI lo) (h2 : v ≤ nI hi) : False := by
  unfold xinB at h
  rw [decide_eq_true (Int32.not_lt.mp h1), decide_eq_true h2] at h
  cases h
theorem xinB_no_b {lo hi : Nat} {v : Int32} (hh : hi + 1 < 2 ^ 31) (h : xinB lo hi v = false) (h1 : ¬ v < nI lo) (h2 : v < nI (hi + 1)) : False := by
  refine xinB_no_a h h1 ?_
  have e2 := Int32.lt_iff_toInt_lt.mp h2
  apply Int32.le_iff_toInt_le.mpr
  rw [nI_toInt hh] at e2
  rw [nI_toInt (by omega)]
  omega
theorem xinB_f1 {lo hi : Nat} {v : Int32} (h : v < nI lo) : xinB lo hi v = false := by
  unfold xinB
  rw [decide_eq_false (Int32.not_le.mpr h)]
  rfl
theorem xinB_f2 {lo hi : Nat} {v : Int32} (h : ¬ v ≤ nI hi) : xinB lo hi v = false := by
  unfold xinB
  rw [decide_eq_false h, Bool.and_false]
def xinD (N : Nat) (v : Int32) : Bool := decide (nI 0 ≤ v) && decide (v < nI N)
theorem xinD_t {N : Nat} {v : Int32} (h : xinD N v = true) (hN : N < 2 ^ 31) : ∃ d, d < N ∧ v = nI d := by
  unfold xinD at h
  simp only [Bool.and_eq_true, decide_eq_true_eq] at h
  have h0 : ¬ v < 0 := Int32.not_lt.mpr h.1
  obtain ⟨j, hj, rfl⟩ := nI_of h0
  exact ⟨j, (nI_ltI hj hN).mp h.2, rfl⟩
theorem xinD_nI {N d : Nat} (h : d < N) (hN : N < 2 ^ 31) : xinD N (nI d) = true := by
  unfold xinD
  rw [decide_eq_true (nI_le (Nat.zero_le d) (by omega)), decide_eq_true (nI_lt h hN)]
  rfl
theorem xinD_no {N : Nat} {v : Int32} (h : xinD N v = false) (h1 : ¬ v < 0) (h2 : v < nI N) : False := by
  unfold xinD at h
  rw [decide_eq_true (show nI 0 ≤ v from Int32.not_lt.mp h1), decide_eq_true h2] at h
  cases h
def pts (kd d m : Nat) : List xFr := (List.range m).map (fun p => (kd, d, p))
theorem pts_len (kd d m : Nat) : (pts kd d m).length = m := by simp [pts]
theorem pts_0 (kd d : Nat) (q : List xFr) : q ++ pts kd d 0 = q := by simp [pts]
theorem pts_s (kd d m : Nat) (q : List xFr) : q ++ pts kd d (m + 1) = (q ++ pts kd d m) ++ [(kd, d, m)] := by simp [pts, List.range_succ]
def aOut (S : xS) (d oo : Nat) (q : List xFr) : List xFr := if S 5 d = 0 then q else q ++ [(4, d, oo)]
def lkOf (S : xS) (d : Nat) : Nat := (S 4 d).toNatClampNeg
def rcvL (L S : xS) (x : xFr) : xS := if x.1 = 0 ∧ x.2.2 = 0 then xup L 3 (lkOf S x.2.1) ((L 3 (lkOf S x.2.1) + 1) &&& 15) else L
def rcvS (S : xS) (x : xFr) : xS := if x.1 = 2 then aForget S x.2.1 else aComeS S x.2.1 x.2.2
def rcvR (S : xS) (x : xFr) : Int32 := if x.1 = 2 then 0 else aComeR S x.2.1 x.2.2
def sndL (L : xS) (x : xFr) : xS := if x.1 = 3 then xup L 2 x.2.1 (nI x.2.2) else L
def sndS (S : xS) (x : xFr) : xS := if x.1 = 3 then S else aSetS S x.2.1 (nI x.2.2)
def sndQ (S : xS) (x : xFr) (q : List xFr) : List xFr := if x.1 = 3 then q else if S 5 x.2.1 = 2 then q ++ [(2, x.2.1, 0)] else q
def sndR (S : xS) (x : xFr) : Int32 := if x.1 = 3 then 0 else aSetR S x.2.1
def clrS (S : xS) (tq : List Nat) : xS := tq.foldl (fun S d => xup S 14 d (-1)) S
theorem clrS_snoc (S : xS) (tq : List Nat) (d : Nat) : clrS S (tq ++ [d]) = xup (clrS S tq) 14 d (-1) := by simp [clrS, List.foldl_append]
theorem clrS_k (S : xS) (tq : List Nat) {k : Nat} (h : k ≠ 14) : clrS S tq k = S k := by
  induction tq generalizing S with
  | nil => rfl
  | cons d t ih =>
    show clrS (xup S 14 d (-1)) t k = S k
    rw [ih, xup_k h]
theorem take_snoc {tq : List Nat} {i : Nat} (h : i < tq.length) : tq.take (i + 1) = tq.take i ++ [tq.getD i 0] := by
  rw [List.take_succ, List.getElem?_eq_getElem h, List.getD_eq_getElem?_getD, List.getElem?_eq_getElem h]
  rfl
theorem aSetS_k (S : xS) (d : Nat) (o : Int32) {k : Nat} (h : k ≠ 7 ∧ k ≠ 8) : aSetS S d o k = S k := by
  unfold aSetS
  split
  · rw [xup_k h.2, xup_k h.1]
  · rfl
theorem aForget_k (S : xS) (d : Nat) {k : Nat} (h : k ≠ 9) : aForget S d k = S k := by
  unfold aForget
  split
  · rw [xup_k h]
  · rfl
theorem aComeS_k (S : xS) (d p : Nat) {k : Nat} (h : k ≠ 9 ∧ k ≠ 10 ∧ k ≠ 11) : aComeS S d p k = S k := by
  unfold aComeS
  split
  · rw [xup_k h.1, xup_k h.2.1, xup_k h.2.2]
  · rfl
theorem aDec_k (S : xS) (d : Nat) (o : Int32) {k : Nat} (h : k ≠ 9 ∧ k ≠ 12 ∧ k ≠ 13) : aDec S d o k = S k := by
  unfold aDec
  rw [xup_k h.1, xup_k h.2.1, xup_k h.2.2]
theorem aBring_k (S : xS) (d : Nat) {k : Nat} (h : k ≠ 7 ∧ k ≠ 8 ∧ k ≠ 9) : aBring S d k = S k := by
  unfold aBring
  split
  · rw [xup_k h.2.2]
  · split
    · rw [xup_k h.2.2, aSetS_k S d _ ⟨h.1, h.2.1⟩]
    · rfl
theorem rcvS_k (S : xS) (x : xFr) {k : Nat} (h : k ≠ 9 ∧ k ≠ 10 ∧ k ≠ 11) : rcvS S x k = S k := by
  unfold rcvS
  split
  · exact aForget_k S _ h.1
  · exact aComeS_k S _ _ h
theorem sndS_k (S : xS) (x : xFr) {k : Nat} (h : k ≠ 7 ∧ k ≠ 8) : sndS S x k = S k := by
  unfold sndS
  split
  · rfl
  · exact aSetS_k S _ _ h
