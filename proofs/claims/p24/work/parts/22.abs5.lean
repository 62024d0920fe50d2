/-! what holds of the abstract state at every call -/
def r5 (v : Int32) : Prop := v = 0 ∨ v = 1 ∨ v = 2 ∨ v = 3 ∨ v = 4
def dOk (S : xS) (om : Nat → Int32) (d : Nat) : Prop := (∃ j, j < 4 ∧ S 4 d = nI j) ∧ (∃ m, m ≤ 4 ∧ S 6 d = nI m) ∧ (S 7 d = 0 ∨ S 7 d = 1) ∧ r5 (S 9 d) ∧ (S 9 d = 3 → om d = S 12 d)
def zOk (S : xS) (d : Nat) : Prop := S 9 d = 0 ∧ S 10 d = 0 ∧ S 11 d = 0 ∧ S 13 d = 0
def tOk (S : xS) (N d : Nat) : Prop := d < N ∧ S 9 d = 2 ∧ ∃ o, o ≤ 2 ∧ S 14 d = nI o
def sInv (S : xS) (om : Nat → Int32) (N : Nat) (tq : List Nat) : Prop := b11 S ∧ (∀ d, d < N → dOk S om d) ∧ (∀ d, N ≤ d → zOk S d) ∧ tq.Nodup ∧ ∀ d, d ∈ tq → tOk S N d
def iF (N : Nat) (q : List xFr) : Prop := ∀ x, x ∈ q → x.1 ≤ 2 ∧ x.2.1 < N ∧ x.2.2 < 4
def iB (N : Nat) (q : List xFr) : Prop := ∀ x, x ∈ q → (x.1 = 3 ∧ x.2.1 < 4 ∧ x.2.2 < 16) ∨ (x.1 = 4 ∧ x.2.1 < N ∧ x.2.2 < 4)
def cntW (S : xS) : Nat → Nat
  | 0 => 0
  | d + 1 => cntW S d + (if S 9 d = 2 then 1 else 0)
def aInv (L S : xS) (om : Nat → Int32) (N : Nat) (qf qb : List xFr) (up op : Int32) (tq : List Nat) (t : Nat) : Prop :=
  (up = 0 ∨ up = 1) ∧ (op = 0 ∨ op = 1) ∧ l16 L ∧ N ≤ 60 ∧ sInv S om N tq ∧ iF N qf ∧ iB N qb ∧ qf.length + outs qb + cntW S N ≤ 4 * N ∧ qb.length + tq.length ≤ t ∧ (up = 0 → qf = [] ∧ qb = [] ∧ op = 0)
theorem cntW_le (S : xS) : ∀ N, cntW S N ≤ N
  | 0 => Nat.le_refl _
  | d + 1 => by
    have := cntW_le S d
    show cntW S d + (if S 9 d = 2 then 1 else 0) ≤ d + 1
    split <;> omega
theorem cntW_congr {S S' : xS} : ∀ {N : Nat}, (∀ d, d < N → (S' 9 d = 2 ↔ S 9 d = 2)) → cntW S' N = cntW S N
  | 0, _ => rfl
  | d + 1, h => by
    show cntW S' d + (if S' 9 d = 2 then 1 else 0) = cntW S d + (if S 9 d = 2 then 1 else 0)
    rw [cntW_congr (fun e he => h e (by omega))]
    congr 1
    by_cases h2 : S 9 d = 2
    · rw [if_pos h2, if_pos ((h d (by omega)).mpr h2)]
    · rw [if_neg h2, if_neg (fun e => h2 ((h d (by omega)).mp e))]
theorem cntW_at {S S' : xS} {d : Nat} (ho : ∀ j, j ≠ d → S' 9 j = S 9 j) : ∀ {N : Nat}, d < N → cntW S' N + (if S 9 d = 2 then 1 else 0) = cntW S N + (if S' 9 d = 2 then 1 else 0)
  | 0, h => absurd h (Nat.not_lt_zero d)
  | e + 1, h => by
    show cntW S' e + (if S' 9 e = 2 then 1 else 0) + (if S 9 d = 2 then 1 else 0) = cntW S e + (if S 9 e = 2 then 1 else 0) + (if S' 9 d = 2 then 1 else 0)
    by_cases he : d = e
    · subst he
      rw [cntW_congr (S := S) (S' := S') (fun j hj => by rw [ho j (by omega)])]
      omega
    · have ih := cntW_at ho (N := e) (by omega)
      rw [ho e (fun q => he q.symm)]
      omega
theorem cntW_1 {S S' : xS} {d N : Nat} (ho : ∀ j, j ≠ d → S' 9 j = S 9 j) (hd : d < N) : cntW S' N ≤ cntW S N + 1 := by
  have h := cntW_at ho hd
  have h2 : (if S' 9 d = 2 then 1 else 0) ≤ 1 := by split <;> omega
  omega
theorem sInv_at {S S' : xS} {om om' : Nat → Int32} {N d : Nat} {tq tq' : List Nat} (h : sInv S om N tq) (hd : d < N) (ho : ∀ k j, j ≠ d → S' k j = S k j) (hom : ∀ j, j ≠ d → om' j = om j) (hb : S' 11 d = 0 ∨ S' 11 d = 1) (hk : dOk S' om' d) (hn : tq'.Nodup) (hs : ∀ j, j ∈ tq' → (j ≠ d ∧ j ∈ tq) ∨ (j = d ∧ tOk S' N d)) : sInv S' om' N tq' := by
  obtain ⟨h1, h2, h3, h4, h5⟩ := h
  refine ⟨fun j => ?_, fun j hj => ?_, fun j hj => ?_, hn, fun j hj => ?_⟩
  · by_cases e : j = d
    · subst e
      exact hb
    · rw [ho 11 j e]
      exact h1 j
  · by_cases e : j = d
    · subst e
      exact hk
    · have := h2 j hj
      unfold dOk at this ⊢
      rw [ho 4 j e, ho 6 j e, ho 7 j e, ho 9 j e, ho 12 j e, hom j e]
      exact this
  · have e : j ≠ d := by omega
    have := h3 j hj
    unfold zOk at this ⊢
    rw [ho 9 j e, ho 10 j e, ho 11 j e, ho 13 j e]
    exact this
  · rcases hs j hj with ⟨e, hm⟩ | ⟨rfl, ht⟩
    · have := h5 j hm
      unfold tOk at this ⊢
      rw [ho 9 j e, ho 14 j e]
      exact this
    · exact ht
theorem sInv_tq {S : xS} {om : Nat → Int32} {N : Nat} {tq : List Nat} (h : sInv S om N tq) : sInv S om N [] :=
  ⟨h.1, h.2.1, h.2.2.1, List.nodup_nil, fun d hd => nomatch hd⟩
theorem sInv_14 {S S' : xS} {om : Nat → Int32} {N : Nat} (h : sInv S om N []) (ho : ∀ k, k ≠ 14 → S' k = S k) : sInv S' om N [] := by
  obtain ⟨h1, h2, h3, h4, h5⟩ := h
  refine ⟨fun j => ?_, fun j hj => ?_, fun j hj => ?_, h4, fun j hj => nomatch hj⟩
  · rw [ho 11 (by decide)]
    exact h1 j
  · have := h2 j hj
    unfold dOk at this ⊢
    rw [ho 4 (by decide), ho 6 (by decide), ho 7 (by decide), ho 9 (by decide), ho 12 (by decide)]
    exact this
  · have := h3 j hj
    unfold zOk at this ⊢
    rw [ho 9 (by decide), ho 10 (by decide), ho 11 (by decide), ho 13 (by decide)]
    exact this
/-! a frame comes to the receiver -/
theorem aComeS_at (S : xS) (d p : Nat) {k j : Nat} (h : j ≠ d) : aComeS S d p k j = S k j := by
  unfold aComeS
  split
  · rw [xup_ne (Or.inr h), xup_ne (Or.inr h), xup_ne (Or.inr h)]
  · rfl
theorem aForget_at (S : xS) (d : Nat) {k j : Nat} (h : j ≠ d) : aForget S d k j = S k j := by
  unfold aForget
  split
  · rw [xup_ne (Or.inr h)]
  · rfl
theorem rcvS_at (S : xS) (x : xFr) {k j : Nat} (h : j ≠ x.2.1) : rcvS S x k j = S k j := by
  unfold rcvS
  split
  · exact aForget_at S _ h
  · exact aComeS_at S _ _ h
theorem rcvS_9 (S : xS) (x : xFr) : rcvS S x 9 x.2.1 = S 9 x.2.1 ∨ rcvS S x 9 x.2.1 = 1 ∨ rcvS S x 9 x.2.1 = 2 ∨ rcvS S x 9 x.2.1 = 4 := by
  unfold rcvS
  split
  · unfold aForget
    split
    · rw [xup_same]
      exact Or.inr (Or.inr (Or.inr rfl))
    · exact Or.inl rfl
  · unfold aComeS
    split
    · rw [xup_same]
      split
      · exact Or.inr (Or.inr (Or.inl rfl))
      · exact Or.inr (Or.inl rfl)
    · exact Or.inl rfl
theorem rcvS_2 (S : xS) (x : xFr) (h : S 9 x.2.1 = 2) : rcvS S x = S := by
  unfold rcvS
  split
  · unfold aForget
    rw [if_neg (by rw [h]; decide)]
  · have : aCnt S x.2.1 x.2.2 = false := by
      unfold aCnt
      simp [h]
    exact (aCome_no this).1
theorem sInv_rcv {S : xS} {om : Nat → Int32} {N : Nat} {tq : List Nat} {x : xFr} (h : sInv S om N tq) (hx : x.2.1 < N) : sInv (rcvS S x) om N tq := by
  by_cases h2 : S 9 x.2.1 = 2
  · rw [rcvS_2 S x h2]
    exact h
  · have hk := h.2.1 _ hx
    refine sInv_at h hx (fun k j hj => rcvS_at S x hj) (fun _ _ => rfl) (b11_rcv h.1 _) ?_ h.2.2.2.1 (fun j hj => ?_)
    · obtain ⟨k1, k2, k3, k4, k5⟩ := hk
      have h9 := rcvS_9 S x
      refine ⟨by rw [rcvS_k S x (by decide)]; exact k1, by rw [rcvS_k S x (by decide)]; exact k2, by rw [rcvS_k S x (by decide)]; exact k3, ?_, fun e => ?_⟩
      · rcases h9 with e | e | e | e
        · rw [e]
          exact k4
        · exact Or.inr (Or.inl e)
        · exact Or.inr (Or.inr (Or.inl e))
        · exact Or.inr (Or.inr (Or.inr (Or.inr e)))
      · rcases h9 with e9 | e9 | e9 | e9
        · rw [rcvS_k S x (by decide)]
          exact k5 (e9.symm.trans e)
        · exact absurd (e9.symm.trans e) (by decide)
        · exact absurd (e9.symm.trans e) (by decide)
        · exact absurd (e9.symm.trans e) (by decide)
    · have hne : j ≠ x.2.1 := fun e => h2 (by rw [← e]; exact (h.2.2.2.2 j hj).2.1)
      exact Or.inl ⟨hne, hj⟩
theorem aInv_rcv1 {L S : xS} {om : Nat → Int32} {N t : Nat} {x : xFr} {q qb : List xFr} {up op : Int32} {tq : List Nat} (h : aInv L S om N (x :: q) qb up op tq t) : aInv (rcvL L S x) (rcvS S x) om N q qb up op tq t := by
  obtain ⟨h1, h2, h3, h4, h5, h6, h7, h8, h9, h10⟩ := h
  have hx := (h6 x List.mem_cons_self).2.1
  refine ⟨h1, h2, l16_rcv h3, h4, sInv_rcv h5 hx, fun y hy => h6 y (List.mem_cons_of_mem _ hy), h7, ?_, h9, fun e => absurd (h10 e).1 (by simp)⟩
  have hc := cntW_1 (S := S) (S' := rcvS S x) (fun j hj => rcvS_at S x hj) hx
  rw [List.length_cons] at h8
  omega
theorem aInv_rcv {om : Nat → Int32} {N t : Nat} {qb : List xFr} {up op : Int32} {tq : List Nat} : ∀ (c : Nat) (L S : xS) (q : List xFr) (n : Int32), aInv L S om N q qb up op tq t → aInv (rcvN c L S q n).1 (rcvN c L S q n).2.1 om N (rcvN c L S q n).2.2.1 qb up op tq t
  | 0, L, S, q, n, h => h
  | c + 1, L, S, [], n, h => h
  | c + 1, L, S, x :: q, n, h => aInv_rcv c (rcvL L S x) (rcvS S x) q (n + rcvR S x) (aInv_rcv1 h)
/-! a frame comes to the sender -/
theorem aSetS_at (S : xS) (d : Nat) (o : Int32) {k j : Nat} (h : j ≠ d) : aSetS S d o k j = S k j := by
  unfold aSetS
  split
  · rw [xup_ne (Or.inr h), xup_ne (Or.inr h)]
  · rfl
theorem aSetS_7 (S : xS) (d : Nat) (o : Int32) (h : S 7 d = 0 ∨ S 7 d = 1) : aSetS S d o 7 d = 1 := by
  unfold aSetS
  split
  · rw [xup_ne (Or.inl (by decide)), xup_same]
  · next hn => exact h.resolve_left hn
theorem sInv_set {S : xS} {om : Nat → Int32} {N d : Nat} {tq : List Nat} {o : Int32} (h : sInv S om N tq) (hd : d < N) : sInv (aSetS S d o) om N tq := by
  have hk := h.2.1 d hd
  refine sInv_at h hd (fun k j hj => aSetS_at S d o hj) (fun _ _ => rfl) (by rw [aSetS_k S d o (by decide)]; exact h.1 d) ?_ h.2.2.2.1 (fun j hj => ?_)
  · obtain ⟨k1, k2, k3, k4, k5⟩ := hk
    refine ⟨by rw [aSetS_k S d o (by decide)]; exact k1, by rw [aSetS_k S d o (by decide)]; exact k2, Or.inr (aSetS_7 S d o k3), by rw [aSetS_k S d o (by decide)]; exact k4, ?_⟩
    rw [aSetS_k S d o (k := 9) (by decide), aSetS_k S d o (k := 12) (by decide)]
    exact k5
  · by_cases e : j = d
    · subst e
      refine Or.inr ⟨rfl, ?_⟩
      have := h.2.2.2.2 j hj
      unfold tOk at this ⊢
      rw [aSetS_k S j o (k := 9) (by decide), aSetS_k S j o (k := 14) (by decide)]
      exact this
    · exact Or.inl ⟨e, hj⟩
theorem aInv_snd1 {L S : xS} {om : Nat → Int32} {N t : Nat} {x : xFr} {qf q : List xFr} {up op : Int32} {tq : List Nat} (h : aInv L S om N qf (x :: q) up op tq t) : aInv (sndL L x) (sndS S x) om N (sndQ S x qf) q up op tq t := by
  obtain ⟨h1, h2, h3, h4, h5, h6, h7, h8, h9, h10⟩ := h
  have hx := h7 x List.mem_cons_self
  have hq : ∀ y, y ∈ q → _ := fun y hy => h7 y (List.mem_cons_of_mem _ hy)
  have h8' : qf.length + ((if x.1 = 4 then 1 else 0) + outs q) + cntW S N ≤ 4 * N := h8
  rw [List.length_cons] at h9
  rcases hx with ⟨e, hj, hv⟩ | ⟨e, hd, ho⟩
  · refine ⟨h1, h2, ?_, h4, ?_, ?_, hq, ?_, by omega, fun e => absurd (h10 e).2.1 (by simp)⟩
    · unfold sndL
      rw [if_pos e]
      exact l16_up h3 (Or.inr ⟨x.2.2, hv, rfl⟩)
    · unfold sndS
      rw [if_pos e]
      exact h5
    · unfold sndQ
      rw [if_pos e]
      exact h6
    · unfold sndQ sndS
      rw [if_pos e, if_pos e]
      omega
  · have e3 : ¬ x.1 = 3 := by omega
    rw [if_pos e] at h8'
    refine ⟨h1, h2, ?_, h4, ?_, ?_, hq, ?_, by omega, fun e => absurd (h10 e).2.1 (by simp)⟩
    · unfold sndL
      rw [if_neg e3]
      exact h3
    · unfold sndS
      rw [if_neg e3]
      exact sInv_set h5 hd
    · unfold sndQ
      rw [if_neg e3]
      split
      · intro y hy
        rcases List.mem_append.mp hy with hy | hy
        · exact h6 y hy
        · rw [List.mem_singleton.mp hy]
          exact ⟨Nat.le_refl 2, hd, by show (0 : Nat) < 4; decide⟩
      · exact h6
    · have hc : cntW (sndS S x) N = cntW S N := cntW_congr (fun j _ => by rw [sndS_k S x (by decide)])
      rw [hc]
      unfold sndQ
      rw [if_neg e3]
      split
      · rw [List.length_append]
        show qf.length + 1 + outs q + cntW S N ≤ _
        omega
      · omega
theorem aInv_snd {om : Nat → Int32} {N t : Nat} {up op : Int32} {tq : List Nat} : ∀ (c : Nat) (L S : xS) (qf qb : List xFr) (n : Int32), aInv L S om N qf qb up op tq t → aInv (sndN c L S qf qb n).1 (sndN c L S qf qb n).2.1 om N (sndN c L S qf qb n).2.2.1 (sndN c L S qf qb n).2.2.2.1 up op tq t
  | 0, L, S, qf, qb, n, h => h
  | c + 1, L, S, qf, [], n, h => h
  | c + 1, L, S, qf, x :: q, n, h => aInv_snd c (sndL L x) (sndS S x) (sndQ S x qf) q (n + sndR S x) (aInv_snd1 h)
/-! a decision -/
theorem aDec_at (S : xS) (d : Nat) (o : Int32) {k j : Nat} (h : j ≠ d) : aDec S d o k j = S k j := by
  unfold aDec
  rw [xup_ne (Or.inr h), xup_ne (Or.inr h), xup_ne (Or.inr h)]
theorem aDec_9 (S : xS) (d : Nat) (o : Int32) : aDec S d o 9 d = 3 ∨ aDec S d o 9 d = 4 := by
  unfold aDec
  rw [xup_same]
  split
  · exact Or.inl rfl
  · exact Or.inr rfl
theorem aDec_12 (S : xS) (d : Nat) (o : Int32) : aDec S d o 12 d = o := by
  unfold aDec
  rw [xup_ne (Or.inl (by decide)), xup_same]
theorem sInv_dec {S : xS} {om : Nat → Int32} {N d : Nat} {tq tq' : List Nat} {o : Int32} (h : sInv S om N tq) (hd : d < N) (hn : tq'.Nodup) (hs : ∀ j, j ∈ tq' → j ≠ d ∧ j ∈ tq) : sInv (aDec S d o) (upd om d o) N tq' := by
  have hk := h.2.1 d hd
  refine sInv_at h hd (fun k j hj => aDec_at S d o hj) (fun j hj => by simp [upd, hj]) (by rw [aDec_k S d o (by decide)]; exact h.1 d) ?_ hn (fun j hj => Or.inl (hs j hj))
  obtain ⟨k1, k2, k3, k4, k5⟩ := hk
  refine ⟨by rw [aDec_k S d o (by decide)]; exact k1, by rw [aDec_k S d o (by decide)]; exact k2, by rw [aDec_k S d o (by decide)]; exact k3, ?_, fun _ => ?_⟩
  · rcases aDec_9 S d o with e | e
    · exact Or.inr (Or.inr (Or.inr (Or.inl e)))
    · exact Or.inr (Or.inr (Or.inr (Or.inr e)))
  · rw [aDec_12]
    simp [upd]
theorem cntW_dec {S : xS} {N d : Nat} {o : Int32} (hd : d < N) (h9 : S 9 d = 2) : cntW (aDec S d o) N + 1 = cntW S N := by
  have h := cntW_at (S := S) (S' := aDec S d o) (d := d) (fun j hj => aDec_at S d o hj) hd
  rw [if_pos h9, if_neg (by rcases aDec_9 S d o with e | e <;> rw [e] <;> decide)] at h
  omega
theorem outs_app (q : List xFr) (x : xFr) : outs (q ++ [x]) = outs q + (if x.1 = 4 then 1 else 0) := by
  induction q with
  | nil =>
    show (if x.1 = 4 then 1 else 0) + 0 = 0 + _
    omega
  | cons y q ih =>
    show (if y.1 = 4 then 1 else 0) + outs (q ++ [x]) = (if y.1 = 4 then 1 else 0) + outs q + _
    rw [ih]
    omega
theorem aOut_outs (S : xS) (d oo : Nat) (q : List xFr) : outs (aOut S d oo q) ≤ outs q + 1 := by
  unfold aOut
  split
  · omega
  · rw [outs_app, if_pos rfl]
    exact Nat.le_refl _
theorem aOut_iB {S : xS} {d oo N : Nat} {q : List xFr} (h : iB N q) (hd : d < N) (ho : oo < 4) : iB N (aOut S d oo q) := by
  unfold aOut
  split
  · exact h
  · intro y hy
    rcases List.mem_append.mp hy with hy | hy
    · exact h y hy
    · rw [List.mem_singleton.mp hy]
      exact Or.inr ⟨rfl, hd, ho⟩
theorem cod_0 {p q r : Bool} (h : cod p q r = 0) : p = true ∧ q = true ∧ r = true := by
  cases p <;> cases q <;> cases r <;> first | exact ⟨rfl, rfl, rfl⟩ | exact absurd h (by decide)
theorem aInv_decide {L S : xS} {om : Nat → Int32} {N t : Nat} {qf qb : List xFr} {up op : Int32} {tq : List Nat} {a b : Int32} (h : aInv L S om N qf qb up op tq t) (hc : cod (xinD N a) (xinB 0 2 b) (decide (up = 1) && (decide (S 9 (ix a) = 2) && decide (S 14 (ix a) = -1))) = 0) : aInv L (aDec S (ix a) b) (upd om (ix a) b) N qf (aOut S (ix a) (ix b) qb) up op tq (t + 1) := by
  obtain ⟨h1, h2, h3, h4, h5, h6, h7, h8, h9, h10⟩ := h
  obtain ⟨c1, c2, c3⟩ := cod_0 hc
  simp only [Bool.and_eq_true, decide_eq_true_eq] at c3
  obtain ⟨d, hd, rfl⟩ := xinD_t c1 (by omega)
  obtain ⟨oo, ho0, ho2, rfl⟩ := xinB_t c2 (by decide) (by decide)
  rw [ix_nI (by omega)] at c3 ⊢
  rw [ix_nI (by omega)]
  have hn : d ∉ tq := fun hm => by
    obtain ⟨o, ho, e⟩ := (h5.2.2.2.2 d hm).2.2
    have e2 := e.symm.trans c3.2.2
    have h9 : (nI o).toInt = (-1 : Int32).toInt := by rw [e2]
    rw [nI_toInt (by omega)] at h9
    have h8 : (-1 : Int32).toInt = -1 := by decide
    omega
  refine ⟨h1, h2, h3, h4, sInv_dec h5 hd h5.2.2.2.1 (fun j hj => ⟨fun e => hn (e ▸ hj), hj⟩), h6, aOut_iB h7 hd (by omega), ?_, ?_, fun e => absurd (e.symm.trans c3.1) (by decide)⟩
  · have e1 := cntW_dec (o := nI oo) hd c3.2.1
    have e2 := aOut_outs S d oo qb
    omega
  · have := aOut_len S d oo qb
    omega
/-! the calls of a link -/
theorem aInv_setMode {L S : xS} {om : Nat → Int32} {N t : Nat} {qf qb : List xFr} {up op : Int32} {tq : List Nat} {j : Nat} {b : Int32} (h : aInv L S om N qf qb up op tq t) : aInv (xup L 0 j b) S om N qf qb up op tq t := by
  obtain ⟨h1, h2, h3, h⟩ := h
  exact ⟨h1, h2, l16_up h3 (Or.inl rfl), h⟩
theorem aInv_grant {L S : xS} {om : Nat → Int32} {N t : Nat} {qf qb : List xFr} {up op : Int32} {tq : List Nat} {a b : Int32} (h : aInv L S om N qf qb up op tq t) (hc : cod (xinB 0 3 a) (xinB 0 15 b) (decide (up = 1)) = 0) : aInv L S om N qf (qb ++ [(3, ix a, ix (grV L a b))]) up op tq (t + 1) := by
  obtain ⟨h1, h2, h3, h4, h5, h6, h7, h8, h9, h10⟩ := h
  obtain ⟨c1, c2, c3⟩ := cod_0 hc
  rw [decide_eq_true_eq] at c3
  obtain ⟨j, hj0, hj3, rfl⟩ := xinB_t c1 (by decide) (by decide)
  obtain ⟨v, hv, ev⟩ := w15_ex (L 3 (ix (nI j)) + b)
  refine ⟨h1, h2, h3, h4, h5, h6, fun y hy => ?_, ?_, ?_, fun e => absurd (e.symm.trans c3) (by decide)⟩
  · rcases List.mem_append.mp hy with hy | hy
    · exact h7 y hy
    · rw [List.mem_singleton.mp hy]
      refine Or.inl ⟨rfl, ?_, ?_⟩
      · show ix (nI j) < 4
        rw [ix_nI (by omega)]
        omega
      · show ix (grV L (nI j) b) < 16
        unfold grV
        rw [ev, ix_nI (by omega)]
        exact hv
  · rw [outs_app, if_neg (show ¬ (3 : Nat) = 4 by decide)]
    exact h8
  · rw [List.length_append]
    show qb.length + 1 + tq.length ≤ t + 1
    omega
theorem pts_mem {kd d m : Nat} {x : xFr} (h : x ∈ pts kd d m) : x.1 = kd ∧ x.2.1 = d ∧ x.2.2 < m := by
  unfold pts at h
  obtain ⟨p, hp, rfl⟩ := List.mem_map.mp h
  exact ⟨rfl, rfl, List.mem_range.mp hp⟩
theorem aInv_send {L S : xS} {om : Nat → Int32} {N t : Nat} {qf qb : List xFr} {up op : Int32} {tq : List Nat} {a b : Int32} (h : aInv L S om N qf qb up op tq t) (hc : cod (xinB 0 3 a) (xinB 1 4 b) (decide (up = 1) && (decide (N < 60) && !decide (crd L (ix a) = 0))) = 0) : aInv (xup L 1 (ix a) ((L 1 (ix a) + 1) &&& 15)) (sendS L S N a b) (upd om N (-1)) (N + 1) (qf ++ pts 0 N (ix b)) qb up op tq t := by
  obtain ⟨h1, h2, h3, h4, h5, h6, h7, h8, h9, h10⟩ := h
  obtain ⟨c1, c2, c3⟩ := cod_0 hc
  simp only [Bool.and_eq_true, decide_eq_true_eq] at c3
  obtain ⟨j, hj0, hj3, rfl⟩ := xinB_t c1 (by decide) (by decide)
  obtain ⟨m, hm1, hm4, rfl⟩ := xinB_t c2 (by decide) (by decide)
  have hN6 : N < 60 := c3.2.1
  have em : ix (nI m) = m := ix_nI (by omega)
  rw [em]
  have hz := h5.2.2.1 N (Nat.le_refl N)
  refine ⟨h1, h2, l16_up h3 (Or.inr (w15_ex _)), hN6, ?_, fun y hy => ?_, fun y hy => ?_, ?_, h9, fun e => absurd (e.symm.trans c3.1) (by decide)⟩
  · obtain ⟨s1, s2, s3, s4, s5⟩ := h5
    refine ⟨fun d => ?_, fun d hd => ?_, fun d hd => ?_, s4, fun d hd => ?_⟩
    · rw [sendS_k (by decide)]
      exact s1 d
    · by_cases e : d = N
      · subst e
        refine ⟨⟨j, by omega, sendS_4⟩, ⟨m, hm4, sendS_6⟩, ?_, ?_, fun e => ?_⟩
        · rw [sendS_7]
          split
          · exact Or.inr rfl
          · exact Or.inl rfl
        · rw [sendS_k (by decide), hz.1]
          exact Or.inl rfl
        · rw [sendS_k (by decide), hz.1] at e
          exact absurd e (by decide)
      · have := s2 d (by omega)
        unfold dOk at this ⊢
        rw [sendS_ne e, sendS_ne e, sendS_ne e, sendS_ne e, sendS_ne e]
        have e2 : upd om N (-1) d = om d := by simp [upd, e]
        rw [e2]
        exact this
    · have e : d ≠ N := by omega
      have := s3 d (by omega)
      unfold zOk at this ⊢
      rw [sendS_ne e, sendS_ne e, sendS_ne e, sendS_ne e]
      exact this
    · have ht := s5 d hd
      have e : d ≠ N := fun e => by have := ht.1; omega
      unfold tOk at ht ⊢
      rw [sendS_ne e, sendS_ne e]
      exact ⟨by omega, ht.2⟩
  · rcases List.mem_append.mp hy with hy | hy
    · have := h6 y hy
      exact ⟨this.1, by omega, this.2.2⟩
    · obtain ⟨e1, e2, e3⟩ := pts_mem hy
      exact ⟨by omega, by omega, by omega⟩
  · rcases h7 y hy with e | e
    · exact Or.inl e
    · exact Or.inr ⟨e.1, by omega, e.2.2⟩
  · rw [List.length_append, pts_len]
    show qf.length + m + outs qb + (cntW (sendS L S N (nI j) (nI m)) N + (if sendS L S N (nI j) (nI m) 9 N = 2 then 1 else 0)) ≤ 4 * (N + 1)
    rw [cntW_congr (S := S) (fun d _ => by rw [sendS_k (by decide)]), if_neg (by rw [sendS_k (by decide), hz.1]; decide)]
    omega
/-! breaking and joining -/
theorem aInv_break {L S : xS} {om : Nat → Int32} {N t : Nat} {qf qb : List xFr} {up op : Int32} {tq : List Nat} (h : aInv L S om N qf qb up op tq t) : aInv L (clrS S tq) om N [] [] 0 0 [] t := by
  obtain ⟨h1, h2, h3, h4, h5, h6, h7, h8, h9, h10⟩ := h
  refine ⟨Or.inl rfl, Or.inl rfl, h3, h4, sInv_14 (sInv_tq h5) (fun k hk => clrS_k S tq hk), (fun y hy => nomatch hy), (fun y hy => nomatch hy), ?_, Nat.zero_le _, fun _ => ⟨rfl, rfl, rfl⟩⟩
  rw [cntW_congr (S := S) (fun d _ => by rw [clrS_k S tq (by decide)])]
  show 0 + 0 + cntW S N ≤ 4 * N
  omega
theorem l16_at {L L' : xS} (h : l16 L) (k j : Nat) (he : ∀ a b, a ≠ 0 → a < 4 → b < 4 → L' a b = L a b ∨ L' a b = L 1 b) : l16 L' := by
  intro a b ha ha4 hb
  rcases he a b ha ha4 hb with e | e
  · rw [e]
    exact h a b ha ha4 hb
  · rw [e]
    exact h 1 b (by decide) (by decide) hb
theorem jnL_1 (L : xS) : ∀ (i : Nat) (b : Nat), jnL L i 1 b = L 1 b
  | 0, _ => rfl
  | i + 1, b => by
    show xup (xup (jnL L i) 3 i _) 2 i _ 1 b = L 1 b
    rw [xup_ne (Or.inl (by decide)), xup_ne (Or.inl (by decide))]
    exact jnL_1 L i b
theorem jnL_l16 {L : xS} (h : l16 L) : ∀ (i : Nat), i ≤ 4 → l16 (jnL L i)
  | 0, _ => h
  | i + 1, hi => by
    have ih := jnL_l16 h i (by omega)
    have h1 := ih 1 i (by decide) (by decide) (by omega)
    exact l16_up (l16_up ih (Or.inr h1)) (Or.inr h1)
theorem aBring_2 (S : xS) (d j : Nat) : aBring S d 9 j = 2 ↔ S 9 j = 2 := by
  by_cases e : j = d
  · subst e
    unfold aBring
    by_cases h1 : S 9 j = 1
    · rw [if_pos h1, xup_same, h1]
      rcases xbf_04 (S 11 j) with e | e <;> rw [e] <;> decide
    · rw [if_neg h1]
      by_cases h3 : S 9 j = 3
      · rw [if_pos h3, xup_same, h3]
        decide
      · rw [if_neg h3]
  · rw [aBring_at S d e]
theorem jn_2 (S : xS) (q : List xFr) : ∀ (i j : Nat), (jn S q i).1 9 j = 2 ↔ S 9 j = 2
  | 0, _ => Iff.rfl
  | i + 1, j => (aBring_2 (jn S q i).1 i j).trans (jn_2 S q i j)
theorem sInv_bring {S : xS} {om : Nat → Int32} {N d : Nat} {tq : List Nat} (h : sInv S om N tq) (hd : d < N) : sInv (aBring S d) om N tq := by
  have hk := h.2.1 d hd
  refine sInv_at h hd (fun k j hj => aBring_at S d hj) (fun _ _ => rfl) (by rw [aBring_k S d (by decide)]; exact h.1 d) ?_ h.2.2.2.1 (fun j hj => ?_)
  · obtain ⟨k1, k2, k3, k4, k5⟩ := hk
    refine ⟨by rw [aBring_k S d (by decide)]; exact k1, by rw [aBring_k S d (by decide)]; exact k2, ?_, ?_, ?_⟩
    · unfold aBring
      split
      · rw [xup_ne (Or.inl (by decide))]
        exact k3
      · split
        · rw [xup_ne (Or.inl (by decide))]
          exact Or.inr (aSetS_7 S d _ k3)
        · exact k3
    · unfold aBring
      split
      · rw [xup_same]
        rcases xbf_04 (S 11 d) with e | e
        · exact Or.inl e
        · exact Or.inr (Or.inr (Or.inr (Or.inr e)))
      · split
        · rw [xup_same]
          exact Or.inr (Or.inr (Or.inr (Or.inr rfl)))
        · exact k4
    · unfold aBring
      split
      · rw [xup_same]
        intro e
        rcases xbf_04 (S 11 d) with e2 | e2 <;> rw [e2] at e <;> exact absurd e (by decide)
      · split
        · rw [xup_same]
          intro e
          exact absurd e (by decide)
        · exact k5
  · by_cases e : j = d
    · subst e
      refine Or.inr ⟨rfl, ?_⟩
      have := h.2.2.2.2 j hj
      unfold tOk at this ⊢
      rw [aBring_k S j (k := 14) (by decide)]
      exact ⟨this.1, (aBring_2 S j j).mpr this.2.1, this.2.2⟩
    · exact Or.inl ⟨e, hj⟩
theorem sInv_jn {S : xS} {om : Nat → Int32} {N : Nat} {tq : List Nat} {q : List xFr} (h : sInv S om N tq) : ∀ (i : Nat), i ≤ N → sInv (jn S q i).1 om N tq
  | 0, _ => h
  | i + 1, hi => sInv_bring (sInv_jn h i (by omega)) (by omega)
theorem aAnew_2 {S : xS} {d : Nat} (h : aAnew S d = 1) : ¬ S 9 d = 2 := by
  intro e
  unfold aAnew at h
  rw [if_neg (fun q => by rcases q.2 with q | q | q <;> rw [e] at q <;> revert q <;> decide)] at h
  exact absurd h (by decide)
theorem jn_len2 {S : xS} {om : Nat → Int32} {N : Nat} {tq : List Nat} (h : sInv S om N tq) : ∀ (i : Nat), i ≤ N → (jn S [] i).2.1.length + cntW S i ≤ 4 * i
  | 0, _ => Nat.le_refl _
  | i + 1, hi => by
    have ih := jn_len2 h i (by omega)
    obtain ⟨m, hm, em⟩ := (h.2.1 i (by omega)).2.1
    show (jnQ (jn S [] i).1 i (jn S [] i).2.1).length + (cntW S i + (if S 9 i = 2 then 1 else 0)) ≤ 4 * (i + 1)
    unfold jnQ
    split
    · next ha =>
      have h2 := aAnew_2 ha
      rw [aBring_2, jn_at S [] i (Nat.le_refl i)] at h2
      rw [if_neg h2, List.length_append, pts_len, jn_at S [] i (Nat.le_refl i), em, ix_nI (by omega)]
      omega
    · have : (if S 9 i = 2 then 1 else 0) ≤ 1 := by split <;> omega
      omega
theorem jn_iF {S : xS} {om : Nat → Int32} {N : Nat} {tq : List Nat} (h : sInv S om N tq) : ∀ (i : Nat), i ≤ N → iF N (jn S [] i).2.1
  | 0, _ => fun y hy => nomatch hy
  | i + 1, hi => by
    have ih := jn_iF h i (by omega)
    obtain ⟨m, hm, em⟩ := (h.2.1 i (by omega)).2.1
    show iF N (jnQ (jn S [] i).1 i (jn S [] i).2.1)
    unfold jnQ
    split
    · intro y hy
      rcases List.mem_append.mp hy with hy | hy
      · exact ih y hy
      · rw [jn_at S [] i (Nat.le_refl i), em, ix_nI (by omega)] at hy
        obtain ⟨e1, e2, e3⟩ := pts_mem hy
        exact ⟨by omega, by omega, by omega⟩
    · exact ih
theorem aInv_join {L S : xS} {om : Nat → Int32} {N t : Nat} {qf qb : List xFr} {up op : Int32} {tq : List Nat} (h : aInv L S om N qf qb up op tq t) (hc : cod (decide (up = 0)) true true = 0) : aInv (jnL L 4) (jn S qf N).1 om N (jn S qf N).2.1 qb 1 op tq t := by
  obtain ⟨h1, h2, h3, h4, h5, h6, h7, h8, h9, h10⟩ := h
  have hu : up = 0 := of_decide_eq_true (cod_0 hc).1
  obtain ⟨rfl, rfl, e⟩ := h10 hu
  refine ⟨Or.inr rfl, h2, jnL_l16 h3 4 (Nat.le_refl _), h4, sInv_jn h5 N (Nat.le_refl _), jn_iF h5 N (Nat.le_refl _), h7, ?_, h9, fun e => absurd e (by decide)⟩
  rw [cntW_congr (S := S) (fun d _ => jn_2 S [] N d)]
  exact jn_len2 h5 N (Nat.le_refl _)
/-! transactions -/
theorem aInv_begin {L S : xS} {om : Nat → Int32} {N t : Nat} {qf qb : List xFr} {up op : Int32} {tq : List Nat} (h : aInv L S om N qf qb up op tq t) (hc : cod (decide (up = 1) && decide (op = 0)) true true = 0) : aInv L S om N qf qb up 1 tq t := by
  obtain ⟨h1, h2, h3, h4, h5, h6, h7, h8, h9, h10⟩ := h
  have hu := (cod_0 hc).1
  simp only [Bool.and_eq_true, decide_eq_true_eq] at hu
  exact ⟨h1, Or.inr rfl, h3, h4, h5, h6, h7, h8, h9, fun e => absurd (e.symm.trans hu.1) (by decide)⟩
theorem aInv_tell {L S : xS} {om : Nat → Int32} {N t : Nat} {qf qb : List xFr} {up op : Int32} {tq : List Nat} {a b : Int32} (h : aInv L S om N qf qb up op tq t) (hc : cod (xinD N a) (xinB 0 2 b) (decide (op = 1) && (decide (S 9 (ix a) = 2) && decide (S 14 (ix a) = -1))) = 0) : aInv L (xup S 14 (ix a) b) om N qf qb up op (tq ++ [ix a]) (t + 1) := by
  obtain ⟨h1, h2, h3, h4, h5, h6, h7, h8, h9, h10⟩ := h
  obtain ⟨c1, c2, c3⟩ := cod_0 hc
  simp only [Bool.and_eq_true, decide_eq_true_eq] at c3
  obtain ⟨d, hd, rfl⟩ := xinD_t c1 (by omega)
  obtain ⟨oo, ho0, ho2, rfl⟩ := xinB_t c2 (by decide) (by decide)
  rw [ix_nI (by omega)] at c3 ⊢
  have hn : d ∉ tq := fun hm => by
    obtain ⟨o, ho, e⟩ := (h5.2.2.2.2 d hm).2.2
    have e2 := e.symm.trans c3.2.2
    have h9 : (nI o).toInt = (-1 : Int32).toInt := by rw [e2]
    rw [nI_toInt (by omega)] at h9
    have h8 : (-1 : Int32).toInt = -1 := by decide
    omega
  refine ⟨h1, h2, h3, h4, sInv_at h5 hd (fun k j hj => xup_ne (Or.inr hj)) (fun _ _ => rfl) (by rw [xup_ne (Or.inl (by decide))]; exact h5.1 d) ?_ ?_ (fun j hj => ?_), h6, h7, ?_, ?_, fun e => absurd ((h10 e).2.2.symm.trans c3.1) (by decide)⟩
  · have := h5.2.1 d hd
    unfold dOk at this ⊢
    rw [xup_ne (Or.inl (by decide)), xup_ne (Or.inl (by decide)), xup_ne (Or.inl (by decide)), xup_ne (Or.inl (by decide)), xup_ne (Or.inl (by decide))]
    exact this
  · refine List.nodup_append.mpr ⟨h5.2.2.2.1, by simp, fun x hx y hy e => ?_⟩
    rw [List.mem_singleton.mp hy] at e
    exact hn (e ▸ hx)
  · rcases List.mem_append.mp hj with hj | hj
    · exact Or.inl ⟨fun e => hn (e ▸ hj), hj⟩
    · refine Or.inr ⟨List.mem_singleton.mp hj, hd, ?_, oo, ho2, ?_⟩
      · rw [xup_ne (Or.inl (by decide))]
        exact c3.2.1
      · rw [xup_same]
  · rw [cntW_congr (S := S) (fun j _ => by rw [xup_ne (Or.inl (by decide))])]
    exact h8
  · rw [List.length_append]
    show qb.length + (tq.length + 1) ≤ t + 1
    omega
theorem coM_c {S S' : xS} (h : S' 14 = S 14) (om : Nat → Int32) (tq : List Nat) : coM S' om tq = coM S om tq := by
  unfold coM
  rw [h]
theorem coQ_c {S S' : xS} (h : S' 14 = S 14) (h5 : S' 5 = S 5) (q : List xFr) (tq : List Nat) : coQ S' q tq = coQ S q tq := by
  unfold coQ aOut
  rw [h, h5]
theorem co_inv {N : Nat} : ∀ (tq : List Nat) (S : xS) (om : Nat → Int32) (q : List xFr), sInv S om N tq → iB N q →
    sInv (coS S tq) (coM S om tq) N [] ∧ cntW (coS S tq) N + tq.length = cntW S N ∧ outs (coQ S q tq) ≤ outs q + tq.length ∧ iB N (coQ S q tq)
  | [], S, om, q, h, hq => ⟨h, rfl, Nat.le_refl _, hq⟩
  | d :: t, S, om, q, h, hq => by
    obtain ⟨hd, h9, o, ho, e14⟩ := h.2.2.2.2 d List.mem_cons_self
    have hnd := List.nodup_cons.mp h.2.2.2.1
    have h1 : sInv (aDec S d (S 14 d)) (upd om d (S 14 d)) N t := sInv_dec h hd hnd.2 (fun j hj => ⟨fun e => hnd.1 (e ▸ hj), List.mem_cons_of_mem _ hj⟩)
    have h2 : iB N (aOut S d (ix (S 14 d)) q) := aOut_iB hq hd (by rw [e14, ix_nI (by omega)]; omega)
    obtain ⟨i1, i2, i3, i4⟩ := co_inv t _ _ _ h1 h2
    have k14 : aDec S d (S 14 d) 14 = S 14 := aDec_k S d _ (by decide)
    have k5 : aDec S d (S 14 d) 5 = S 5 := aDec_k S d _ (by decide)
    rw [coM_c k14] at i1
    rw [coQ_c k14 k5] at i3 i4
    have c1 := cntW_dec (o := S 14 d) hd h9
    have c2 := aOut_outs S d (ix (S 14 d)) q
    refine ⟨i1, ?_, ?_, i4⟩
    · show cntW (coS (aDec S d (S 14 d)) t) N + (t.length + 1) = cntW S N
      omega
    · show outs (coQ S (aOut S d (ix (S 14 d)) q) t) ≤ outs q + (t.length + 1)
      omega
theorem tq_len {L S : xS} {om : Nat → Int32} {N t : Nat} {qf qb : List xFr} {up op : Int32} {tq : List Nat} (h : aInv L S om N qf qb up op tq t) : tq.length ≤ 60 := by
  obtain ⟨h1, h2, h3, h4, h5, h6, h7, h8, h9, h10⟩ := h
  have := (co_inv tq S om qb h5 h7).2.1
  have := cntW_le S N
  omega
theorem aInv_end {L S : xS} {om : Nat → Int32} {N t : Nat} {qf qb : List xFr} {up op : Int32} {tq : List Nat} {b : Int32} (h : aInv L S om N qf qb up op tq t) (hc : cod (decide (op = 1)) true true = 0) : aInv L (eS S tq b) (eM S om tq b) N qf (eQ S qb tq b) up 0 [] t := by
  obtain ⟨h1, h2, h3, h4, h5, h6, h7, h8, h9, h10⟩ := h
  have ho : op = 1 := of_decide_eq_true (cod_0 hc).1
  have hu : ¬ up = 0 := fun e => absurd ((h10 e).2.2.symm.trans ho) (by decide)
  by_cases hb : b = 0
  · have e1 : eS S tq b = clrS S tq := by unfold eS; rw [if_pos hb]
    have e2 : eM S om tq b = om := by unfold eM; rw [if_pos hb]
    have e3 : eQ S qb tq b = qb := by unfold eQ; rw [if_pos hb]
    rw [e1, e2, e3]
    refine ⟨h1, Or.inl rfl, h3, h4, sInv_14 (sInv_tq h5) (fun k hk => clrS_k S tq hk), h6, h7, ?_, by show qb.length + 0 ≤ t; omega, fun e => absurd e hu⟩
    rw [cntW_congr (S := S) (fun d _ => by rw [clrS_k S tq (by decide)])]
    exact h8
  · have e1 : eS S tq b = clrS (coS S tq) tq := by unfold eS; rw [if_neg hb]
    have e2 : eM S om tq b = coM S om tq := by unfold eM; rw [if_neg hb]
    have e3 : eQ S qb tq b = coQ S qb tq := by unfold eQ; rw [if_neg hb]
    rw [e1, e2, e3]
    obtain ⟨i1, i2, i3, i4⟩ := co_inv tq S om qb h5 h7
    have i5 := coQ_len S qb tq
    refine ⟨h1, Or.inl rfl, h3, h4, sInv_14 i1 (fun k hk => clrS_k _ tq hk), h6, i4, ?_, by show (coQ S qb tq).length + 0 ≤ t; omega, fun e => absurd e hu⟩
    rw [cntW_congr (S := coS S tq) (fun d _ => by rw [clrS_k _ tq (by decide)])]
    omega
/-! what the contracts ask, out of it -/
theorem aInv_more {L S : xS} {om : Nat → Int32} {N t t' : Nat} {qf qb : List xFr} {up op : Int32} {tq : List Nat} (h : aInv L S om N qf qb up op tq t) (ht : t ≤ t') : aInv L S om N qf qb up op tq t' := by
  obtain ⟨h1, h2, h3, h4, h5, h6, h7, h8, h9, h10⟩ := h
  exact ⟨h1, h2, h3, h4, h5, h6, h7, h8, by omega, h10⟩
theorem getD_mem {tq : List Nat} {i : Nat} (h : i < tq.length) : tq.getD i 0 ∈ tq := by
  rw [List.getD_eq_getElem?_getD, List.getElem?_eq_getElem h]
  exact List.getElem_mem h
theorem tq_in {S : xS} {om : Nat → Int32} {N : Nat} {tq : List Nat} (h : sInv S om N tq) : ∀ i, i < tq.length → tq.getD i 0 < N := fun i hi => (h.2.2.2.2 _ (getD_mem hi)).1
theorem tq_w {S : xS} {om : Nat → Int32} {N : Nat} {tq : List Nat} (h : sInv S om N tq) : ∀ i, i < tq.length → ∃ o, o ≤ 2 ∧ S 14 (tq.getD i 0) = nI o := fun i hi => (h.2.2.2.2 _ (getD_mem hi)).2.2
