/-! two objects whose links are turned by m: what stays alike -/
def put4 (S : xS) (T : Nat → Int32) : xS := fun k => if k = 4 then T else S k
theorem put4_k {S : xS} {T : Nat → Int32} {k : Nat} (h : k ≠ 4) : put4 S T k = S k := by unfold put4; rw [if_neg h]
theorem put4_4 {S : xS} {T : Nat → Int32} : put4 S T 4 = T := by unfold put4; rw [if_pos rfl]
theorem put4_up {S : xS} {T : Nat → Int32} {k d : Nat} {v : Int32} (h : k ≠ 4) : xup (put4 S T) k d v = put4 (xup S k d v) T := by
  funext j
  by_cases hj : j = 4
  · subst hj
    rw [xup_k (fun e => h e.symm), put4_4, put4_4]
  · rw [put4_k hj]
    by_cases hk : j = k
    · subst hk
      rw [xup_f, xup_f, put4_k h]
    · rw [xup_k hk, xup_k hk, put4_k hj]
theorem put4_up4 {S : xS} {T : Nat → Int32} {d : Nat} {v : Int32} : xup (put4 S T) 4 d v = put4 S (upd T d v) := by
  funext j
  by_cases hj : j = 4
  · subst hj
    rw [xup_f, put4_4, put4_4]
  · rw [xup_k hj, put4_k hj, put4_k hj]
theorem put4_dn {S : xS} {T : Nat → Int32} {d : Nat} {v : Int32} : put4 (xup S 4 d v) T = put4 S T := by
  funext j
  by_cases hj : j = 4
  · subst hj
    rw [put4_4, put4_4]
  · rw [put4_k hj, put4_k hj, xup_k hj]
theorem p4_cnt (S : xS) (T : Nat → Int32) (d p : Nat) : aCnt (put4 S T) d p = aCnt S d p := by
  unfold aCnt
  rw [put4_k (k := 9) (by decide), put4_k (k := 10) (by decide)]
theorem p4_comeS (S : xS) (T : Nat → Int32) (d p : Nat) : aComeS (put4 S T) d p = put4 (aComeS S d p) T := by
  unfold aComeS
  rw [p4_cnt, put4_k (k := 11) (by decide), put4_k (k := 9) (by decide), put4_k (k := 6) (by decide), put4_up (by decide), put4_up (by decide), put4_up (by decide)]
  split <;> rfl
theorem p4_comeR (S : xS) (T : Nat → Int32) (d p : Nat) : aComeR (put4 S T) d p = aComeR S d p := by
  unfold aComeR
  rw [p4_cnt, put4_k (k := 6) (by decide)]
theorem p4_dec (S : xS) (T : Nat → Int32) (d : Nat) (o : Int32) : aDec (put4 S T) d o = put4 (aDec S d o) T := by
  unfold aDec
  rw [put4_k (k := 13) (by decide), put4_k (k := 5) (by decide), put4_up (by decide), put4_up (by decide), put4_up (by decide)]
theorem p4_forget (S : xS) (T : Nat → Int32) (d : Nat) : aForget (put4 S T) d = put4 (aForget S d) T := by
  unfold aForget
  rw [put4_k (k := 9) (by decide), put4_up (by decide)]
  split <;> rfl
theorem p4_setS (S : xS) (T : Nat → Int32) (d : Nat) (o : Int32) : aSetS (put4 S T) d o = put4 (aSetS S d o) T := by
  unfold aSetS
  rw [put4_k (k := 7) (by decide), put4_up (by decide), put4_up (by decide)]
  split <;> rfl
theorem p4_setR (S : xS) (T : Nat → Int32) (d : Nat) : aSetR (put4 S T) d = aSetR S d := by
  unfold aSetR
  rw [put4_k (k := 7) (by decide)]
theorem p4_bring (S : xS) (T : Nat → Int32) (d : Nat) : aBring (put4 S T) d = put4 (aBring S d) T := by
  unfold aBring
  rw [put4_k (k := 9) (by decide), put4_k (k := 11) (by decide), put4_k (k := 12) (by decide), p4_setS, put4_up (by decide), put4_up (by decide)]
  split
  · rfl
  · split <;> rfl
theorem p4_anew (S : xS) (T : Nat → Int32) (d : Nat) : aAnew (put4 S T) d = aAnew S d := by
  unfold aAnew
  rw [put4_k (k := 7) (by decide), put4_k (k := 9) (by decide)]
theorem p4_rcvS (S : xS) (T : Nat → Int32) (x : xFr) : rcvS (put4 S T) x = put4 (rcvS S x) T := by
  unfold rcvS
  rw [p4_forget, p4_comeS]
  split <;> rfl
theorem p4_rcvR (S : xS) (T : Nat → Int32) (x : xFr) : rcvR (put4 S T) x = rcvR S x := by
  unfold rcvR
  rw [p4_comeR]
theorem p4_clr (T : Nat → Int32) : ∀ (tq : List Nat) (S : xS), clrS (put4 S T) tq = put4 (clrS S tq) T
  | [], S => rfl
  | d :: t, S => by
    show clrS (xup (put4 S T) 14 d (-1)) t = put4 (clrS (xup S 14 d (-1)) t) T
    rw [put4_up (by decide)]
    exact p4_clr T t _
theorem p4_co (T : Nat → Int32) : ∀ (tq : List Nat) (S : xS), coS (put4 S T) tq = put4 (coS S tq) T
  | [], S => rfl
  | d :: t, S => by
    show coS (aDec (put4 S T) d (put4 S T 14 d)) t = put4 (coS (aDec S d (S 14 d)) t) T
    rw [p4_dec, put4_k (k := 14) (by decide)]
    exact p4_co T t _
theorem p4_wr (S : xS) (T : Nat → Int32) : ∀ (N : Nat), wrN (put4 S T) N = wrN S N
  | 0 => rfl
  | d + 1 => by
    show wrN (put4 S T) d + aAnew (put4 S T) d = wrN S d + aAnew S d
    rw [p4_wr S T d, p4_anew]
theorem p4_jnQ (S : xS) (T : Nat → Int32) (d : Nat) (q : List xFr) : jnQ (put4 S T) d q = jnQ S d q := by
  unfold jnQ
  rw [p4_bring, p4_anew, put4_k (k := 6) (by decide)]
theorem p4_jn (S : xS) (T : Nat → Int32) (q : List xFr) : ∀ (i : Nat), jn (put4 S T) q i = (put4 (jn S q i).1 T, (jn S q i).2.1, (jn S q i).2.2)
  | 0 => rfl
  | i + 1 => by
    show (aBring (jn (put4 S T) q i).1 i, jnQ (jn (put4 S T) q i).1 i (jn (put4 S T) q i).2.1, (jn (put4 S T) q i).2.2 + aAnew (aBring (jn (put4 S T) q i).1 i) i) = _
    rw [p4_jn S T q i]
    show (aBring (put4 (jn S q i).1 T) i, jnQ (put4 (jn S q i).1 T) i (jn S q i).2.1, (jn S q i).2.2 + aAnew (aBring (put4 (jn S q i).1 T) i) i) = (put4 (aBring (jn S q i).1 i) T, jnQ (jn S q i).1 i (jn S q i).2.1, (jn S q i).2.2 + aAnew (aBring (jn S q i).1 i) i)
    rw [p4_bring, p4_jnQ, p4_anew]
/-! the three relations -/
def lR (m : Nat) (L L' : xS) : Prop := ∀ k j, j < 4 → L' k ((j + m) % 4) = L k j
def sR (m N : Nat) (S S' : xS) : Prop := ∃ T, S' = put4 S T ∧ ∀ d, d < N → ∃ j, j < 4 ∧ S 4 d = nI j ∧ T d = nI ((j + m) % 4)
def pF (m : Nat) (x : xFr) : xFr := if x.1 = 3 then (3, (x.2.1 + m) % 4, x.2.2) else x
def aR (m N : Nat) (L L' S S' : xS) (qb qb' : List xFr) : Prop := lR m L L' ∧ sR m N S S' ∧ qb' = qb.map (pF m)
theorem lR_up {m k j : Nat} {L L' : xS} {v : Int32} (h : lR m L L') (hj : j < 4) : lR m (xup L k j v) (xup L' k ((j + m) % 4) v) := by
  intro k1 j1 h1
  by_cases hk : k1 = k
  · by_cases e : j1 = j
    · subst hk
      subst e
      rw [xup_same, xup_same]
    · rw [xup_ne (Or.inr e), xup_ne (Or.inr (by omega))]
      exact h k1 j1 h1
  · rw [xup_ne (Or.inl hk), xup_ne (Or.inl hk)]
    exact h k1 j1 h1
theorem sR_k {m N : Nat} {S S' : xS} (h : sR m N S S') {k : Nat} (hk : k ≠ 4) : S' k = S k := by
  obtain ⟨T, rfl, -⟩ := h
  exact put4_k hk
theorem sR_of {m N : Nat} {S S' : xS} {f : xS → xS} (h : sR m N S S') (hf : ∀ S T, f (put4 S T) = put4 (f S) T) (h4 : f S 4 = S 4) : sR m N (f S) (f S') := by
  obtain ⟨T, rfl, hT⟩ := h
  refine ⟨T, hf S T, fun d hd => ?_⟩
  rw [h4]
  exact hT d hd
theorem sR_lk {m N d : Nat} {S S' : xS} (h : sR m N S S') (hd : d < N) : ∃ j, j < 4 ∧ lkOf S d = j ∧ lkOf S' d = (j + m) % 4 := by
  obtain ⟨T, rfl, hT⟩ := h
  obtain ⟨j, hj, e1, e2⟩ := hT d hd
  refine ⟨j, hj, ?_, ?_⟩
  · unfold lkOf
    rw [e1]
    exact nI_clamp (by omega)
  · unfold lkOf
    rw [put4_4, e2]
    exact nI_clamp (by omega)
theorem sR_up {m N k d : Nat} {S S' : xS} {v : Int32} (h : sR m N S S') (hk : k ≠ 4) : sR m N (xup S k d v) (xup S' k d v) :=
  sR_of (f := fun S => xup S k d v) h (fun S T => put4_up hk) (xup_k (fun e => hk e.symm))
theorem sR_dec {m N d : Nat} {S S' : xS} {o : Int32} (h : sR m N S S') : sR m N (aDec S d o) (aDec S' d o) :=
  sR_of (f := fun S => aDec S d o) h (fun S T => p4_dec S T d o) (aDec_k S d o (by decide))
theorem sR_clr {m N : Nat} {S S' : xS} {tq : List Nat} (h : sR m N S S') : sR m N (clrS S tq) (clrS S' tq) :=
  sR_of (f := fun S => clrS S tq) h (fun S T => p4_clr T tq S) (clrS_k S tq (by decide))
theorem sR_co {m N : Nat} {S S' : xS} {tq : List Nat} (h : sR m N S S') : sR m N (coS S tq) (coS S' tq) :=
  sR_of (f := fun S => coS S tq) h (fun S T => p4_co T tq S) (coS_k S tq (by decide))
theorem sR_end {m N : Nat} {S S' : xS} {tq : List Nat} {b : Int32} (h : sR m N S S') : sR m N (eS S tq b) (eS S' tq b) := by
  unfold eS
  split
  · exact sR_clr h
  · exact sR_clr (sR_co h)
theorem jn_4 (S : xS) (q : List xFr) : ∀ (i : Nat), (jn S q i).1 4 = S 4
  | 0 => rfl
  | i + 1 => by
    show aBring (jn S q i).1 i 4 = S 4
    rw [aBring_k _ _ (by decide), jn_4 S q i]
theorem sR_jn {m N i : Nat} {S S' : xS} {q : List xFr} (h : sR m N S S') : sR m N (jn S q i).1 (jn S' q i).1 ∧ (jn S' q i).2 = (jn S q i).2 := by
  obtain ⟨T, rfl, hT⟩ := h
  refine ⟨⟨T, by rw [p4_jn], fun d hd => ?_⟩, by rw [p4_jn]⟩
  rw [jn_4]
  exact hT d hd
theorem sR_wr {m N i : Nat} {S S' : xS} (h : sR m N S S') : wrN S' i = wrN S i := by
  obtain ⟨T, rfl, hT⟩ := h
  exact p4_wr S T i
theorem jnL_at (L : xS) : ∀ (i k j : Nat), jnL L i k j = if j < i ∧ (k = 2 ∨ k = 3) then L 1 j else L k j
  | 0, k, j => by rw [if_neg (fun e => absurd e.1 (Nat.not_lt_zero j))]; rfl
  | i + 1, k, j => by
    show xup (xup (jnL L i) 3 i ((jnL L i) 1 i)) 2 i ((jnL L i) 1 i) k j = _
    have e1 : (jnL L i) 1 i = L 1 i := jnL_1 L i i
    rw [e1]
    by_cases hj : j = i
    · subst hj
      by_cases h2 : k = 2
      · subst h2
        rw [xup_same, if_pos ⟨by omega, Or.inl rfl⟩]
      · rw [xup_ne (Or.inl h2)]
        by_cases h3 : k = 3
        · subst h3
          rw [xup_same, if_pos ⟨by omega, Or.inr rfl⟩]
        · rw [xup_ne (Or.inl h3), jnL_at L j k j, if_neg (fun e => absurd e.1 (Nat.lt_irrefl j)), if_neg (fun e => e.2.elim h2 h3)]
    · rw [xup_ne (Or.inr hj), xup_ne (Or.inr hj), jnL_at L i k j]
      by_cases hc : j < i ∧ (k = 2 ∨ k = 3)
      · rw [if_pos hc, if_pos ⟨by omega, hc.2⟩]
      · rw [if_neg hc, if_neg (fun e => hc ⟨by omega, e.2⟩)]
theorem lR_jn {m : Nat} {L L' : xS} (h : lR m L L') : lR m (jnL L 4) (jnL L' 4) := by
  intro k j hj
  rw [jnL_at, jnL_at]
  by_cases hk : k = 2 ∨ k = 3
  · rw [if_pos ⟨by omega, hk⟩, if_pos ⟨hj, hk⟩]
    exact h 1 j hj
  · rw [if_neg (fun e => hk e.2), if_neg (fun e => hk e.2)]
    exact h k j hj
/-! frames that come -/
theorem rl_rcv1 {m N : Nat} {L L' S S' : xS} {x : xFr} (hl : lR m L L') (hs : sR m N S S') (hx : x.2.1 < N) : lR m (rcvL L S x) (rcvL L' S' x) ∧ sR m N (rcvS S x) (rcvS S' x) ∧ rcvR S' x = rcvR S x := by
  refine ⟨?_, sR_of (f := fun S => rcvS S x) hs (fun S T => p4_rcvS S T x) (rcvS_k S x (by decide)), ?_⟩
  · obtain ⟨j, hj, e1, e2⟩ := sR_lk hs hx
    unfold rcvL
    rw [e1, e2, hl 3 j hj]
    split
    · exact lR_up hl hj
    · exact hl
  · obtain ⟨T, rfl, hT⟩ := hs
    exact p4_rcvR S T x
theorem rl_rcv {m N : Nat} : ∀ (c : Nat) (L S L' S' : xS) (q : List xFr) (n : Int32), lR m L L' → sR m N S S' → (∀ x, x ∈ q → x.2.1 < N) →
    lR m (rcvN c L S q n).1 (rcvN c L' S' q n).1 ∧ sR m N (rcvN c L S q n).2.1 (rcvN c L' S' q n).2.1 ∧ (rcvN c L' S' q n).2.2 = (rcvN c L S q n).2.2
  | 0, L, S, L', S', q, n, hl, hs, _ => ⟨hl, hs, rfl⟩
  | c + 1, L, S, L', S', [], n, hl, hs, _ => ⟨hl, hs, rfl⟩
  | c + 1, L, S, L', S', x :: q, n, hl, hs, hq => by
    obtain ⟨h1, h2, h3⟩ := rl_rcv1 hl hs (hq x List.mem_cons_self)
    show lR m (rcvN c (rcvL L S x) (rcvS S x) q (n + rcvR S x)).1 (rcvN c (rcvL L' S' x) (rcvS S' x) q (n + rcvR S' x)).1 ∧ sR m N (rcvN c (rcvL L S x) (rcvS S x) q (n + rcvR S x)).2.1 (rcvN c (rcvL L' S' x) (rcvS S' x) q (n + rcvR S' x)).2.1 ∧ (rcvN c (rcvL L' S' x) (rcvS S' x) q (n + rcvR S' x)).2.2 = (rcvN c (rcvL L S x) (rcvS S x) q (n + rcvR S x)).2.2
    rw [h3]
    exact rl_rcv c _ _ _ _ q _ h1 h2 (fun y hy => hq y (List.mem_cons_of_mem _ hy))
theorem pF_3 {m : Nat} {x : xFr} (h : x.1 = 3) : pF m x = (3, (x.2.1 + m) % 4, x.2.2) := by unfold pF; rw [if_pos h]
theorem pF_n {m : Nat} {x : xFr} (h : ¬ x.1 = 3) : pF m x = x := by unfold pF; rw [if_neg h]
theorem rl_snd1 {m N : Nat} {L L' S S' : xS} {x : xFr} (hl : lR m L L') (hs : sR m N S S') (hx : x.1 = 3 → x.2.1 < 4) (qf : List xFr) : lR m (sndL L x) (sndL L' (pF m x)) ∧ sR m N (sndS S x) (sndS S' (pF m x)) ∧ sndQ S' (pF m x) qf = sndQ S x qf ∧ sndR S' (pF m x) = sndR S x := by
  by_cases h3 : x.1 = 3
  · rw [pF_3 h3]
    unfold sndL sndS sndQ sndR
    rw [if_pos h3, if_pos h3, if_pos h3, if_pos h3, if_pos rfl, if_pos rfl, if_pos rfl, if_pos rfl]
    exact ⟨lR_up hl (hx h3), hs, rfl, rfl⟩
  · rw [pF_n h3]
    unfold sndL sndS sndQ sndR
    rw [if_neg h3, if_neg h3, if_neg h3, if_neg h3, if_neg h3, if_neg h3, if_neg h3, if_neg h3, sR_k hs (k := 5) (by decide)]
    refine ⟨hl, sR_of (f := fun S => aSetS S x.2.1 (nI x.2.2)) hs (fun S T => p4_setS S T _ _) (aSetS_k S _ _ (by decide)), rfl, ?_⟩
    obtain ⟨T, rfl, hT⟩ := hs
    exact p4_setR S T _
theorem rl_snd {m N : Nat} : ∀ (c : Nat) (L S L' S' : xS) (qf qb : List xFr) (n : Int32), lR m L L' → sR m N S S' → (∀ x, x ∈ qb → x.1 = 3 → x.2.1 < 4) →
    lR m (sndN c L S qf qb n).1 (sndN c L' S' qf (qb.map (pF m)) n).1 ∧ sR m N (sndN c L S qf qb n).2.1 (sndN c L' S' qf (qb.map (pF m)) n).2.1 ∧ (sndN c L' S' qf (qb.map (pF m)) n).2.2.1 = (sndN c L S qf qb n).2.2.1 ∧ (sndN c L' S' qf (qb.map (pF m)) n).2.2.2.1 = (sndN c L S qf qb n).2.2.2.1.map (pF m) ∧ (sndN c L' S' qf (qb.map (pF m)) n).2.2.2.2 = (sndN c L S qf qb n).2.2.2.2
  | 0, L, S, L', S', qf, qb, n, hl, hs, _ => ⟨hl, hs, rfl, rfl, rfl⟩
  | c + 1, L, S, L', S', qf, [], n, hl, hs, _ => ⟨hl, hs, rfl, rfl, rfl⟩
  | c + 1, L, S, L', S', qf, x :: qb, n, hl, hs, hq => by
    obtain ⟨h1, h2, h3, h4⟩ := rl_snd1 hl hs (hq x List.mem_cons_self) qf
    have ih := rl_snd c (sndL L x) (sndS S x) (sndL L' (pF m x)) (sndS S' (pF m x)) (sndQ S x qf) qb (n + sndR S x) h1 h2 (fun y hy => hq y (List.mem_cons_of_mem _ hy))
    have e : sndN (c + 1) L' S' qf ((x :: qb).map (pF m)) n = sndN c (sndL L' (pF m x)) (sndS S' (pF m x)) (sndQ S x qf) (qb.map (pF m)) (n + sndR S x) := by
      rw [← h3, ← h4]
      rfl
    rw [e]
    exact ih
theorem aOut_map {m d oo : Nat} {S S' : xS} {q : List xFr} (h5 : S' 5 = S 5) : aOut S' d oo (q.map (pF m)) = (aOut S d oo q).map (pF m) := by
  unfold aOut
  rw [h5]
  split
  · rfl
  · rw [List.map_append, List.map_singleton, pF_n (show ¬ (4 : Nat) = 3 by decide)]
theorem coQ_map {m : Nat} {S S' : xS} (h5 : S' 5 = S 5) (h14 : S' 14 = S 14) : ∀ (tq : List Nat) (q : List xFr), coQ S' (q.map (pF m)) tq = (coQ S q tq).map (pF m)
  | [], q => rfl
  | d :: t, q => by
    show coQ S' (aOut S' d (ix (S' 14 d)) (q.map (pF m))) t = (coQ S (aOut S d (ix (S 14 d)) q) t).map (pF m)
    rw [h14, aOut_map h5]
    exact coQ_map h5 h14 t _
theorem eQ_map {m : Nat} {S S' : xS} {q : List xFr} {tq : List Nat} {b : Int32} (h5 : S' 5 = S 5) (h14 : S' 14 = S 14) : eQ S' (q.map (pF m)) tq b = (eQ S q tq b).map (pF m) := by
  unfold eQ
  split
  · rfl
  · exact coQ_map h5 h14 tq q
theorem sR_send {m N j : Nat} {L L' S S' : xS} {b : Int32} (hl : lR m L L') (hs : sR m N S S') (hj : j < 4) : sR m (N + 1) (sendS L S N (nI j) b) (sendS L' S' N (nI ((j + m) % 4)) b) := by
  obtain ⟨T, rfl, hT⟩ := hs
  have e0 : L' 0 (ix (nI ((j + m) % 4))) = L 0 (ix (nI j)) := by
    rw [ix_nI (by omega), ix_nI (by omega)]
    exact hl 0 j hj
  refine ⟨upd T N (nI ((j + m) % 4)), ?_, fun d hd => ?_⟩
  · unfold sendS
    rw [e0, put4_up4, put4_up (by decide), put4_up (by decide), put4_up (by decide), put4_up (by decide), put4_up (by decide)]
    funext k
    by_cases hk : k = 4
    · subst hk
      rw [put4_4, put4_4]
    · rw [put4_k hk, put4_k hk]
      by_cases h14 : k = 14
      · subst h14
        rw [xup_f, xup_f]
        congr 1
      · rw [xup_k h14, xup_k h14]
        by_cases h8 : k = 8
        · subst h8
          rw [xup_f, xup_f]
          congr 1
        · rw [xup_k h8, xup_k h8]
          by_cases h7 : k = 7
          · subst h7
            rw [xup_f, xup_f]
            congr 1
          · rw [xup_k h7, xup_k h7]
            by_cases h6 : k = 6
            · subst h6
              rw [xup_f, xup_f]
              congr 1
            · rw [xup_k h6, xup_k h6]
              by_cases h5 : k = 5
              · subst h5
                rw [xup_f, xup_f]
                congr 1
              · rw [xup_k h5, xup_k h5, xup_k hk]
  · by_cases e : d = N
    · subst e
      exact ⟨j, hj, sendS_4, by simp [upd]⟩
    · obtain ⟨j1, hj1, e1, e2⟩ := hT d (by omega)
      exact ⟨j1, hj1, by rw [sendS_ne e]; exact e1, by simp [upd, e, e2]⟩
/-! the calls -/
theorem rl_setMode {m N j : Nat} {L L' S S' : xS} {qb qb' : List xFr} {b : Int32} (h : aR m N L L' S S' qb qb') (hj : j < 4) : aR m N (xup L 0 (ix (nI j)) b) (xup L' 0 (ix (nI ((j + m) % 4))) b) S S' qb qb' := by
  rw [ix_nI (by omega), ix_nI (by omega)]
  exact ⟨lR_up h.1 hj, h.2⟩
theorem rl_grant {m N j : Nat} {L L' S S' : xS} {qb qb' : List xFr} {b : Int32} (h : aR m N L L' S S' qb qb') (hj : j < 4) : aR m N L L' S S' (qb ++ [(3, ix (nI j), ix (grV L (nI j) b))]) (qb' ++ [(3, ix (nI ((j + m) % 4)), ix (grV L' (nI ((j + m) % 4)) b))]) := by
  refine ⟨h.1, h.2.1, ?_⟩
  rw [h.2.2, List.map_append, List.map_singleton, pF_3 rfl]
  unfold grV
  rw [ix_nI (n := j) (by omega), ix_nI (n := (j + m) % 4) (by omega), h.1 3 j hj]
theorem rl_send {m N j : Nat} {L L' S S' : xS} {qb qb' : List xFr} {b : Int32} (h : aR m N L L' S S' qb qb') (hj : j < 4) : aR m (N + 1) (xup L 1 (ix (nI j)) ((L 1 (ix (nI j)) + 1) &&& 15)) (xup L' 1 (ix (nI ((j + m) % 4))) ((L' 1 (ix (nI ((j + m) % 4))) + 1) &&& 15)) (sendS L S N (nI j) b) (sendS L' S' N (nI ((j + m) % 4)) b) qb qb' := by
  refine ⟨?_, sR_send h.1 h.2.1 hj, h.2.2⟩
  rw [ix_nI (by omega), ix_nI (by omega), h.1 1 j hj]
  exact lR_up h.1 hj
theorem rl_toR {m N t : Nat} {L L' S S' : xS} {om : Nat → Int32} {qf qb qb' : List xFr} {up op : Int32} {tq : List Nat} (c : Nat) (h : aR m N L L' S S' qb qb') (hI : aInv L S om N qf qb up op tq t) : aR m N (rcvN c L S qf 0).1 (rcvN c L' S' qf 0).1 (rcvN c L S qf 0).2.1 (rcvN c L' S' qf 0).2.1 qb qb' ∧ (rcvN c L' S' qf 0).2.2 = (rcvN c L S qf 0).2.2 := by
  obtain ⟨h1, h2, h3⟩ := rl_rcv c L S L' S' qf 0 h.1 h.2.1 (fun x hx => (hI.2.2.2.2.2.1 x hx).2.1)
  exact ⟨⟨h1, h2, h.2.2⟩, h3⟩
theorem rl_toS {m N t : Nat} {L L' S S' : xS} {om : Nat → Int32} {qf qb qb' : List xFr} {up op : Int32} {tq : List Nat} (c : Nat) (h : aR m N L L' S S' qb qb') (hI : aInv L S om N qf qb up op tq t) : aR m N (sndN c L S qf qb 0).1 (sndN c L' S' qf qb' 0).1 (sndN c L S qf qb 0).2.1 (sndN c L' S' qf qb' 0).2.1 (sndN c L S qf qb 0).2.2.2.1 (sndN c L' S' qf qb' 0).2.2.2.1 ∧ (sndN c L' S' qf qb' 0).2.2.1 = (sndN c L S qf qb 0).2.2.1 ∧ (sndN c L' S' qf qb' 0).2.2.2.2 = (sndN c L S qf qb 0).2.2.2.2 := by
  obtain ⟨h1, h2, rfl⟩ := h
  obtain ⟨g1, g2, g3, g4, g5⟩ := rl_snd c L S L' S' qf qb 0 h1 h2 (fun x hx e => by
    rcases hI.2.2.2.2.2.2.1 x hx with q | q
    · exact q.2.1
    · exact absurd (e.symm.trans q.1) (by decide))
  exact ⟨⟨g1, g2, g4⟩, g3, g5⟩
theorem rl_decide {m N d oo : Nat} {L L' S S' : xS} {qb qb' : List xFr} {b : Int32} (h : aR m N L L' S S' qb qb') : aR m N L L' (aDec S d b) (aDec S' d b) (aOut S d oo qb) (aOut S' d oo qb') := by
  refine ⟨h.1, sR_dec h.2.1, ?_⟩
  rw [h.2.2]
  exact aOut_map (sR_k h.2.1 (by decide))
theorem rl_break {m N : Nat} {L L' S S' : xS} {qb qb' : List xFr} {tq : List Nat} (h : aR m N L L' S S' qb qb') : aR m N L L' (clrS S tq) (clrS S' tq) [] [] := ⟨h.1, sR_clr h.2.1, rfl⟩
theorem rl_join {m N : Nat} {L L' S S' : xS} {qf qb qb' : List xFr} (h : aR m N L L' S S' qb qb') : aR m N (jnL L 4) (jnL L' 4) (jn S qf N).1 (jn S' qf N).1 qb qb' := ⟨lR_jn h.1, (sR_jn h.2.1).1, h.2.2⟩
theorem rl_tell {m N d : Nat} {L L' S S' : xS} {qb qb' : List xFr} {b : Int32} (h : aR m N L L' S S' qb qb') : aR m N L L' (xup S 14 d b) (xup S' 14 d b) qb qb' := ⟨h.1, sR_up h.2.1 (by decide), h.2.2⟩
theorem rl_end {m N : Nat} {L L' S S' : xS} {qb qb' : List xFr} {tq : List Nat} {b : Int32} (h : aR m N L L' S S' qb qb') : aR m N L L' (eS S tq b) (eS S' tq b) (eQ S qb tq b) (eQ S' qb' tq b) := by
  refine ⟨h.1, sR_end h.2.1, ?_⟩
  rw [h.2.2]
  exact eQ_map (sR_k h.2.1 (by decide)) (sR_k h.2.1 (by decide))
