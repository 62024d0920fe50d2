/-! the abstract calls -/
def ix (v : Int32) : Nat := v.toNatClampNeg
theorem ix_nI {n : Nat} (h : n < 2 ^ 31) : ix (nI n) = n := nI_clamp h
def cod (p q r : Bool) : Nat := bif p then (bif q then (bif r then 0 else 3) else 2) else 1
def xpo (c : Nat) (e1 e2 e3 : String) : String → Prop := fun E => (c = 1 ∧ E = e1) ∨ (c = 2 ∧ E = e2) ∨ (c = 3 ∧ E = e3)
theorem xinB_ok {lo hi : Nat} {v : Int32} (h1 : ¬ v < nI lo) (h2 : v ≤ nI hi) : xinB lo hi v = true := by
  unfold xinB
  rw [decide_eq_true (Int32.not_lt.mp h1), decide_eq_true h2]
  rfl
def crd (L : xS) (j : Nat) : Int32 := (L 2 j - L 1 j) &&& 15
def grV (L : xS) (a b : Int32) : Int32 := (L 3 (ix a) + b) &&& 15
def sendS (L S : xS) (N : Nat) (a b : Int32) : xS := xup (xup (xup (xup (xup (xup S 4 N a) 5 N (L 0 (ix a))) 6 N b) 7 N (if L 0 (ix a) = 0 then 1 else 0)) 8 N (-1)) 14 N (-1)
def rcvN : Nat → xS → xS → List xFr → Int32 → xS × xS × List xFr × Int32
  | 0, L, S, q, n => (L, S, q, n)
  | _ + 1, L, S, [], n => (L, S, [], n)
  | c + 1, L, S, x :: q, n => rcvN c (rcvL L S x) (rcvS S x) q (n + rcvR S x)
def sndN : Nat → xS → xS → List xFr → List xFr → Int32 → xS × xS × List xFr × List xFr × Int32
  | 0, L, S, qf, qb, n => (L, S, qf, qb, n)
  | _ + 1, L, S, qf, [], n => (L, S, qf, [], n)
  | c + 1, L, S, qf, x :: qb, n => sndN c (sndL L x) (sndS S x) (sndQ S x qf) qb (n + sndR S x)
def outs : List xFr → Nat
  | [] => 0
  | x :: q => (if x.1 = 4 then 1 else 0) + outs q
def jnL (L : xS) : Nat → xS
  | 0 => L
  | j + 1 => xup (xup (jnL L j) 3 j ((jnL L j) 1 j)) 2 j ((jnL L j) 1 j)
def jnQ (S : xS) (d : Nat) (q : List xFr) : List xFr := if aAnew (aBring S d) d = 1 then q ++ pts 1 d (ix (S 6 d)) else q
def jn (S : xS) (q : List xFr) : Nat → xS × List xFr × Int32
  | 0 => (S, q, 0)
  | d + 1 => (aBring (jn S q d).1 d, jnQ (jn S q d).1 d (jn S q d).2.1, (jn S q d).2.2 + aAnew (aBring (jn S q d).1 d) d)
def wrN (S : xS) : Nat → Int32
  | 0 => 0
  | d + 1 => wrN S d + aAnew S d
def coS (S : xS) (tq : List Nat) : xS := tq.foldl (fun S d => aDec S d (S 14 d)) S
def coM (S : xS) (om : Nat → Int32) (tq : List Nat) : Nat → Int32 := tq.foldl (fun om d => upd om d (S 14 d)) om
def coQ (S : xS) (q : List xFr) (tq : List Nat) : List xFr := tq.foldl (fun q d => aOut S d (ix (S 14 d)) q) q
theorem aAnew_01 (S : xS) (d : Nat) : aAnew S d = 0 ∨ aAnew S d = 1 := by
  unfold aAnew
  split
  · exact Or.inr rfl
  · exact Or.inl rfl
theorem rcvR_01 (S : xS) (x : xFr) : rcvR S x = 0 ∨ rcvR S x = 1 := by
  unfold rcvR
  split
  · exact Or.inl rfl
  · unfold aComeR
    split
    · split
      · exact Or.inr rfl
      · exact Or.inl rfl
    · exact Or.inl rfl
theorem sndR_01 (S : xS) (x : xFr) : sndR S x = 0 ∨ sndR S x = 1 := by
  unfold sndR
  split
  · exact Or.inl rfl
  · unfold aSetR
    split
    · exact Or.inr rfl
    · exact Or.inl rfl
theorem coS_k (S : xS) (tq : List Nat) {k : Nat} (h : k ≠ 9 ∧ k ≠ 12 ∧ k ≠ 13) : coS S tq k = S k := by
  induction tq generalizing S with
  | nil => rfl
  | cons d t ih =>
    show coS (aDec S d (S 14 d)) t k = S k
    rw [ih, aDec_k S d _ h]
theorem coS_snoc (S : xS) (tq : List Nat) (d : Nat) : coS S (tq ++ [d]) = aDec (coS S tq) d (S 14 d) := by
  have e : (coS S tq) 14 d = S 14 d := by rw [coS_k S tq (by decide)]
  rw [← e]
  simp [coS, List.foldl_append]
theorem coM_snoc (S : xS) (om : Nat → Int32) (tq : List Nat) (d : Nat) : coM S om (tq ++ [d]) = upd (coM S om tq) d (S 14 d) := by simp [coM, List.foldl_append]
theorem coQ_snoc (S : xS) (q : List xFr) (tq : List Nat) (d : Nat) : coQ S q (tq ++ [d]) = aOut S d (ix (S 14 d)) (coQ S q tq) := by simp [coQ, List.foldl_append]
theorem aOut_len (S : xS) (d oo : Nat) (q : List xFr) : (aOut S d oo q).length ≤ q.length + 1 := by
  unfold aOut
  split
  · omega
  · simp
theorem coQ_len (S : xS) (q : List xFr) (tq : List Nat) : (coQ S q tq).length ≤ q.length + tq.length := by
  induction tq generalizing q with
  | nil => exact Nat.le_refl _
  | cons d t ih =>
    show (coQ S (aOut S d (ix (S 14 d)) q) t).length ≤ _
    have h1 := ih (aOut S d (ix (S 14 d)) q)
    have h2 := aOut_len S d (ix (S 14 d)) q
    rw [List.length_cons]
    omega
theorem aBring_at (S : xS) (d : Nat) {k j : Nat} (h : j ≠ d) : aBring S d k j = S k j := by
  unfold aBring
  split
  · exact xup_ne (Or.inr h)
  · split
    · rw [xup_ne (Or.inr h)]
      unfold aSetS
      split
      · rw [xup_ne (Or.inr h), xup_ne (Or.inr h)]
      · rfl
    · rfl
theorem jn_at (S : xS) (q : List xFr) : ∀ (i : Nat) {k j : Nat}, i ≤ j → (jn S q i).1 k j = S k j
  | 0, _, _, _ => rfl
  | i + 1, k, j, h => by
    show aBring (jn S q i).1 i k j = S k j
    rw [aBring_at _ _ (by omega), jn_at S q i (by omega)]
theorem jn_len (S : xS) (q : List xFr) : ∀ (i : Nat), (∀ d, d < i → ix (S 6 d) ≤ 4) → (jn S q i).2.1.length ≤ q.length + 4 * i
  | 0, _ => Nat.le_refl _
  | i + 1, h => by
    show (jnQ (jn S q i).1 i (jn S q i).2.1).length ≤ _
    have h1 := jn_len S q i (fun d hd => h d (by omega))
    unfold jnQ
    split
    · rw [List.length_append, pts_len, jn_at S q i (Nat.le_refl i)]
      have := h i (by omega)
      omega
    · omega
