/-! numbers, rings, lists: plain facts -/
theorem nring {a b : Nat} (h : a + b < 2 ^ 32) : (nI a + nI b) &&& 511 = nI ((a + b) % 512) := by
  rw [nI_add]
  exact pk_andN h 9 (by decide)
theorem nring0 {a : Nat} (h : a < 512) : nI a &&& 511 = nI a := by
  have h1 := pk_andN (n := a) (by omega) (m := 511) 9 (by decide)
  rw [Nat.mod_eq_of_lt (by omega)] at h1
  exact h1
theorem nsub {a b : Nat} (h : b ≤ a) : nI a - nI b = nI (a - b) := pk_sub h
theorem rw_nil (g : xRg) : rwOk [] (0, g.2.1, g.2.2.1, g.2.2.2) := ⟨by show (0 : Nat) < 512; decide, by show (0 : Nat) ≤ 512; decide, fun i x h => by simp at h⟩
theorem rw_hd {x : xFr} {q : List xFr} {g : xRg} (h : rwOk (x :: q) g) : g.2.1 g.1 = nI x.1 ∧ g.2.2.1 g.1 = nI x.2.1 ∧ g.2.2.2 g.1 = nI x.2.2 := by
  have h1 := h.2.2 0 x rfl
  rw [Nat.add_zero, Nat.mod_eq_of_lt h.1] at h1
  exact h1
theorem rw_tl {x : xFr} {q : List xFr} {g : xRg} (h : rwOk (x :: q) g) : rwOk q ((g.1 + 1) % 512, g.2.1, g.2.2.1, g.2.2.2) := by
  obtain ⟨h1, h2, h3⟩ := h
  refine ⟨Nat.mod_lt _ (by decide), by simp at h2; omega, fun i y hy => ?_⟩
  have h4 := h3 (i + 1) y (by simpa using hy)
  have e : ((g.1 + 1) % 512 + i) % 512 = (g.1 + (i + 1)) % 512 := by omega
  show g.2.1 (((g.1 + 1) % 512 + i) % 512) = _ ∧ g.2.2.1 (((g.1 + 1) % 512 + i) % 512) = _ ∧ g.2.2.2 (((g.1 + 1) % 512 + i) % 512) = _
  rw [e]
  exact h4
theorem rw_add {q : List xFr} {g : xRg} {a b c : Nat} (h : rwOk q g) (hl : q.length < 512) : rwOk (q ++ [(a, b, c)]) (g.1, upd g.2.1 ((g.1 + q.length) % 512) (nI a), upd g.2.2.1 ((g.1 + q.length) % 512) (nI b), upd g.2.2.2 ((g.1 + q.length) % 512) (nI c)) := by
  obtain ⟨h1, h2, h3⟩ := h
  refine ⟨h1, by rw [List.length_append]; simp; omega, fun i y hy => ?_⟩
  by_cases hi : i < q.length
  · rw [List.getElem?_append_left hi] at hy
    have hne : (g.1 + i) % 512 ≠ (g.1 + q.length) % 512 := by omega
    have h4 := h3 i y hy
    refine ⟨?_, ?_, ?_⟩
    · show upd _ _ _ _ = _
      rw [pk_un hne]; exact h4.1
    · show upd _ _ _ _ = _
      rw [pk_un hne]; exact h4.2.1
    · show upd _ _ _ _ = _
      rw [pk_un hne]; exact h4.2.2
  · rw [List.getElem?_append_right (by omega)] at hy
    have hz : i - q.length < 1 := (List.getElem?_eq_some_iff.mp hy).1
    have hi2 : i = q.length := by omega
    subst hi2
    rw [Nat.sub_self] at hy
    have hy2 : (a, b, c) = y := by simpa using hy
    subst hy2
    exact ⟨pk_us, pk_us, pk_us⟩
/-- x mod 16 as the low four bits -/
theorem w15_ex (x : Int32) : ∃ j : Nat, j < 16 ∧ x &&& 15 = nI j := by
  obtain ⟨j, h1, h2⟩ := pk_andE x (m := 15) 4 (by decide)
  exact ⟨j, h1, h2⟩
theorem w15_nI {n : Nat} (h : n < 2 ^ 32) : nI n &&& 15 = nI (n % 16) := pk_andN h 4 (by decide)
theorem w15_rem (x : Int32) : (x &&& 15).toInt = x.toInt % 16 := by
  have h := pk_and x (m := 15) 4 (by decide)
  have h2 : (x.toBitVec.toNat % 2 ^ 4) < 2 ^ 31 := by
    have := Nat.mod_lt x.toBitVec.toNat (show 0 < 2 ^ 4 by decide)
    omega
  rw [h, nI_toInt h2]
  have h3 : x.toInt = if 2 * x.toBitVec.toNat < 2 ^ 32 then (x.toBitVec.toNat : Int) else (x.toBitVec.toNat : Int) - ((2 ^ 32 : Nat) : Int) := BitVec.toInt_eq_toNat_cond x.toBitVec
  rw [h3]
  split <;> omega
/-- Math.floorMod(x, 16) -/
theorem fm_pos {x : Int32} (h : (x ^^^ 16) ≥ 0) : x - x / 16 * 16 = x &&& 15 := by
  have h1 := rem_toInt x 16
  have h2 := w15_rem x
  have hx : 0 ≤ x.toInt := by
    have h0 : (0 : Int) ≤ (x ^^^ 16).toInt := by
      have := Int32.le_iff_toInt_le.mp h
      simpa using this
    have m1 : (x ^^^ 16).toBitVec.msb = x.toBitVec.msb := by
      show (x.toBitVec ^^^ (16#32)).msb = _
      rw [BitVec.msb_xor, show (16#32 : BitVec 32).msb = false by decide, Bool.xor_false]
    have m2 : (x ^^^ 16).toBitVec.msb = false := by
      rw [BitVec.msb_eq_toInt]
      simp only [decide_eq_false_iff_not]
      intro hh
      have : (x ^^^ 16).toInt < 0 := hh
      omega
    rw [m1, BitVec.msb_eq_toInt] at m2
    simp only [decide_eq_false_iff_not] at m2
    have : ¬ x.toInt < 0 := m2
    omega
  apply Int32.toInt_inj.mp
  rw [h1, h2]
  exact Int.tmod_eq_emod_of_nonneg hx
theorem fm_neg {x : Int32} (h : ¬ (x ^^^ 16) ≥ 0) : (x - x / 16 * 16 = 0 → x - x / 16 * 16 = x &&& 15) ∧ (¬ x - x / 16 * 16 = 0 → x - x / 16 * 16 + 16 = x &&& 15) := by
  have h1 := rem_toInt x 16
  have h2 := w15_rem x
  have hx : x.toInt < 0 := by
    have h0 : (x ^^^ 16).toInt < 0 := by
      have hh : ¬ (0 : Int) ≤ (x ^^^ 16).toInt := fun q => h (Int32.le_iff_toInt_le.mpr (by simpa using q))
      omega
    have m1 : (x ^^^ 16).toBitVec.msb = x.toBitVec.msb := by
      show (x.toBitVec ^^^ (16#32)).msb = _
      rw [BitVec.msb_xor, show (16#32 : BitVec 32).msb = false by decide, Bool.xor_false]
    have m2 : (x ^^^ 16).toBitVec.msb = true := by
      rw [BitVec.msb_eq_toInt]
      simp only [decide_eq_true_eq]
      exact h0
    rw [m1, BitVec.msb_eq_toInt] at m2
    simp only [decide_eq_true_eq] at m2
    exact m2
  have e16 : (16 : Int32).toInt = 16 := by decide
  rw [e16] at h1
  have h3 : x.toInt.tmod 16 = -((-x.toInt) % 16) := by
    have : x.toInt = -(-x.toInt) := by omega
    rw [this, Int.neg_tmod, Int.tmod_eq_emod_of_nonneg (by omega)]
    omega
  constructor
  · intro hz
    apply Int32.toInt_inj.mp
    rw [h2, h1]
    have h4 : (x - x / 16 * 16).toInt = 0 := by rw [hz]; rfl
    rw [h1] at h4
    omega
  · intro hz
    have h4 : (x - x / 16 * 16).toInt ≠ 0 := fun q => hz (Int32.toInt_inj.mp (by rw [q]; rfl))
    rw [h1] at h4
    obtain ⟨j, hj, e⟩ : ∃ j : Nat, j < 16 ∧ x.toInt.tmod 16 = -(j : Int) := ⟨((-x.toInt) % 16).toNat, by omega, by omega⟩
    have h5 : x - x / 16 * 16 = nI 0 - nI j := by
      apply Int32.toInt_inj.mp
      rw [h1, e, pk_sub_toInt (by decide) (by omega)]
      omega
    have h6 : x - x / 16 * 16 + 16 = nI (16 - j) := by
      rw [h5]
      show nI 0 - nI j + nI 16 = _
      have : nI 0 - nI j + nI 16 = nI 16 - nI j := by
        rw [show nI 0 = 0 from rfl, Int32.sub_eq_add_neg, Int32.zero_add, Int32.add_comm, ← Int32.sub_eq_add_neg]
      rw [this, pk_sub (by omega)]
    apply Int32.toInt_inj.mp
    rw [h6, h2, nI_toInt (by omega)]
    omega
theorem al_cases {h : xAg} {n : Nat} {w : Nat → Nat} (hok : alOk h n w) : (∃ m, h = (m, none) ∧ n = 0) ∨ (∃ m q c f, h = (m, some (q, c, f)) ∧ n < c ∧ 2 ≤ c ∧ c ≤ 120 ∧ ∀ i, i < n → f i = some (w i)) ∨ (∃ m q c f, h = (m, some (q, c, f)) ∧ n = c ∧ 2 ≤ c ∧ c ≤ 120 ∧ ∀ i, i < n → f i = some (w i)) := by
  obtain ⟨m, _ | ⟨q, c, f⟩⟩ := h
  · exact Or.inl ⟨m, rfl, hok⟩
  · obtain ⟨h1, h2, h3, h4⟩ := hok
    rcases Nat.lt_or_ge n c with l | l
    · exact Or.inr (Or.inl ⟨m, q, c, f, rfl, l, h2, h3, h4⟩)
    · exact Or.inr (Or.inr ⟨m, q, c, f, rfl, by omega, h2, h3, h4⟩)
theorem al_some {h : xAg} {n j : Nat} {w : Nat → Nat} (hok : alOk h n w) (hj : j < n) : ∃ m q c f, h = (m, some (q, c, f)) ∧ n ≤ c ∧ 2 ≤ c ∧ c ≤ 120 ∧ ∀ i, i < n → f i = some (w i) := by
  rcases al_cases hok with ⟨m, h1, h2⟩ | ⟨m, q, c, f, h1, h2, h3⟩ | ⟨m, q, c, f, h1, h2, h3⟩
  · omega
  · exact ⟨m, q, c, f, h1, by omega, h3⟩
  · exact ⟨m, q, c, f, h1, by omega, h3⟩
theorem al_add {m : Int32} {q c n x : Nat} {f : Nat → Option Nat} {w : Nat → Nat} (hn : n < c) (h2 : 2 ≤ c) (h3 : c ≤ 120) (hf : ∀ i, i < n → f i = some (w i)) : alOk (m, some (q, c, va_up f n (some x))) (n + 1) (va_up w n x) := by
  refine ⟨hn, h2, h3, fun i hi => ?_⟩
  by_cases e : i = n
  · subst e; rw [va_up_self, va_up_self]
  · rw [va_up_ne _ _ e, va_up_ne _ _ e]; exact hf i (by omega)
theorem nshr1 {c : Nat} (h : c < 2 ^ 31) : nI c >>> ((1 : Int32) &&& 31) = nI (c / 2) := by
  have k := pk_shrN (n := c) h ((1 : Int32) &&& 31) 1 (by decide)
  rw [Nat.pow_one] at k
  exact k
theorem nmax1 {c : Nat} (h2 : 2 ≤ c) (h : c ≤ 200) : (if nI 1 < nI (c / 2) then nI (c / 2) else nI 1) = nI (c / 2) := by
  by_cases e : 1 < c / 2
  · rw [if_pos (nI_lt e (by omega))]
  · rw [if_neg (nI_nlt (by omega) (by decide))]
    have hd : c / 2 = 1 := by omega
    rw [hd]
def alF (e0 : Nat) (h : xAg) (n : Nat) : List Value := match h with
  | (m, none) => [.int m, .ref e0, .int (nI n)]
  | (m, some (q, _, _)) => [.int m, .ref q, .int (nI n)]
theorem al_get0 {D : va_G} {e0 a n : Nat} {h : xAg} : (alW D e0 a h n)[0]? = some (a, .inr (0, alF e0 h n)) := by
  obtain ⟨m, _ | ⟨q, c, f⟩⟩ := h <;> rfl
