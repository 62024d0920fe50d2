/-! LIB A: the words of all methods, worlds in chunks, what stays at the start -/
def xT : List Cond := lw_tbl.filter goodWord
theorem xT_mem {w : Cond} (h : w ∈ lw_tbl) (g : goodWord w = true) : w ∈ xT := List.mem_filter.mpr ⟨h, g⟩
theorem xT_good {big : List Cond} (h : ∀ w ∈ xT, w ∈ big) : GoodIn big xT := fun w hw => ⟨h w hw, good_of_word (List.mem_filter.mp hw).2⟩
theorem xT_cons {w : Cond} (h : w ∈ xT) : GoodIn xT (w :: xT) := fun z hz => (List.mem_cons.mp hz).elim (fun e => by rw [e]; exact ⟨h, good_of_word (List.mem_filter.mp h).2⟩) (fun hz => ⟨hz, good_of_word (List.mem_filter.mp hz).2⟩)
theorem xP_iff {D : va_G} {cl : List vw_C} {ws : va_W} {H : Heap} : va_P D cl ws H ↔ ∀ q ∈ ws, va_at D cl q H :=
  ⟨fun h q hq => by
    obtain ⟨k, hk⟩ := List.getElem?_of_mem hq
    exact h k q hk, fun h k q hk => h q (List.mem_of_getElem? hk)⟩
theorem xD_iff {A : Nat → Prop} {ws : va_W} : va_D A ws ↔ ws.Pairwise (fun p q => p.1 ≠ q.1) ∧ ∀ q ∈ ws, A q.1 := by
  constructor
  · intro h
    refine ⟨List.pairwise_iff_getElem.mpr fun i j hi hj hij e => ?_, fun q hq => ?_⟩
    · have h2 := h.1 i j _ _ (List.getElem?_eq_getElem hi) (List.getElem?_eq_getElem hj) e
      omega
    · obtain ⟨k, hk⟩ := List.getElem?_of_mem hq
      exact h.2 k q hk
  · intro h
    refine ⟨fun i j p q hi hj e => ?_, fun k q hk => h.2 q (List.mem_of_getElem? hk)⟩
    obtain ⟨hi', hpi⟩ := List.getElem?_eq_some_iff.mp hi
    obtain ⟨hj', hpj⟩ := List.getElem?_eq_some_iff.mp hj
    rcases Nat.lt_trichotomy i j with l | l | l
    · exact absurd (by rw [hpi, hpj]; exact e) (List.pairwise_iff_getElem.mp h.1 i j hi' hj' l)
    · exact l
    · exact absurd (by rw [hpi, hpj]; exact e.symm) (List.pairwise_iff_getElem.mp h.1 j i hj' hi' l)
theorem xP_perm {D : va_G} {cl : List vw_C} {ws ws' : va_W} {H : Heap} (h : List.Perm ws ws') (hP : va_P D cl ws H) : va_P D cl ws' H :=
  xP_iff.mpr fun q hq => xP_iff.mp hP q (h.mem_iff.mpr hq)
theorem xD_perm {A : Nat → Prop} {ws ws' : va_W} (h : List.Perm ws ws') (hD : va_D A ws) : va_D A ws' := by
  have h1 := xD_iff.mp hD
  exact xD_iff.mpr ⟨(h.pairwise_iff (fun hxy e => hxy e.symm)).mp h1.1, fun q hq => h1.2 q (h.mem_iff.mpr hq)⟩
theorem xfl_pick : ∀ {cs : List va_W} {i : Nat} {c : va_W}, cs[i]? = some c → List.Perm cs.flatten (c ++ (cs.set i []).flatten)
  | [], i, c, h => by simp at h
  | a :: cs, 0, c, h => by
    have e : a = c := by simpa using h
    subst e
    simp
  | a :: cs, i + 1, c, h => by
    have ih := xfl_pick (cs := cs) (i := i) (c := c) (by simpa using h)
    simp only [List.flatten_cons, List.set_cons_succ]
    refine (ih.append_left a).trans ?_
    rw [← List.append_assoc, ← List.append_assoc]
    exact List.perm_append_comm.append_right _
theorem xfl_set {cs : List va_W} {i : Nat} (c : va_W) (h : i < cs.length) : List.Perm (cs.set i c).flatten (c ++ (cs.set i []).flatten) := by
  have h1 : (cs.set i c)[i]? = some c := List.getElem?_set_self h
  have h2 := xfl_pick h1
  rwa [List.set_set] at h2
def xclr : List va_W → List Nat → List va_W
  | cs, [] => cs
  | cs, i :: is => xclr (cs.set i []) is
def xput : List va_W → List Nat → List va_W → List va_W
  | cs, [], r => cs ++ r
  | cs, i :: is, [] => xput (cs.set i []) is []
  | cs, i :: is, c :: r => xput (cs.set i c) is r
theorem xclr_set : ∀ (is : List Nat) (cs : List va_W) (i : Nat) (c : va_W), i ∉ is → xclr (cs.set i c) is = (xclr cs is).set i c
  | [], cs, i, c, _ => rfl
  | j :: is, cs, i, c, h => by
    have hij : i ≠ j := fun e => h (by rw [e]; exact List.mem_cons_self)
    show xclr ((cs.set i c).set j []) is = (xclr (cs.set j []) is).set i c
    rw [List.set_comm _ _ hij]
    exact xclr_set is (cs.set j []) i c (fun q => h (List.mem_cons_of_mem _ q))
theorem xclr_len : ∀ (is : List Nat) (cs : List va_W), (xclr cs is).length = cs.length
  | [], cs => rfl
  | j :: is, cs => by
    show (xclr (cs.set j []) is).length = cs.length
    rw [xclr_len is, List.length_set]
theorem xnd_cons {i : Nat} {is : List Nat} (h : va_nd (i :: is) = true) : i ∉ is ∧ va_nd is = true := by
  simp only [va_nd, Bool.and_eq_true, decide_eq_true_eq] at h
  exact h
theorem xfl_picks : ∀ (is : List Nat) (cs wc : List va_W), is.map (fun i => cs[i]?) = wc.map some → va_nd is = true → List.Perm cs.flatten (wc.flatten ++ (xclr cs is).flatten)
  | [], cs, wc, h, _ => by
    cases wc with
    | nil => exact List.Perm.refl _
    | cons c r => simp at h
  | i :: is, cs, wc, h, hn => by
    obtain ⟨h1, h2⟩ := xnd_cons hn
    cases wc with
    | nil => simp at h
    | cons c r =>
      simp only [List.map_cons, List.cons.injEq] at h
      have h3 : is.map (fun j => (cs.set i [])[j]?) = r.map some := by
        rw [← h.2]
        refine List.map_congr_left fun j hj => ?_
        exact List.getElem?_set_ne (fun e => h1 (by rw [e]; exact hj))
      refine (xfl_pick h.1).trans ?_
      show List.Perm _ ((c :: r).flatten ++ (xclr (cs.set i []) is).flatten)
      rw [List.flatten_cons, List.append_assoc]
      exact (xfl_picks is (cs.set i []) r h3 h2).append_left c
theorem xfl_put : ∀ (is : List Nat) (cs r : List va_W), va_nd is = true → (∀ i ∈ is, i < cs.length) → List.Perm (xput cs is r).flatten (r.flatten ++ (xclr cs is).flatten)
  | [], cs, r, _, _ => by
    show List.Perm (cs ++ r).flatten _
    rw [List.flatten_append]
    exact List.perm_append_comm
  | i :: is, cs, [], hn, hl => by
    obtain ⟨h1, h2⟩ := xnd_cons hn
    exact xfl_put is (cs.set i []) [] h2 (fun j hj => by rw [List.length_set]; exact hl j (List.mem_cons_of_mem _ hj))
  | i :: is, cs, c :: r, hn, hl => by
    obtain ⟨h1, h2⟩ := xnd_cons hn
    refine (xfl_put is (cs.set i c) r h2 (fun j hj => by rw [List.length_set]; exact hl j (List.mem_cons_of_mem _ hj))).trans ?_
    rw [xclr_set is cs i c h1]
    have h3 : i < (xclr cs is).length := by rw [xclr_len]; exact hl i List.mem_cons_self
    show List.Perm _ ((c :: r).flatten ++ (xclr (cs.set i []) is).flatten)
    rw [xclr_set is cs i [] h1, List.flatten_cons]
    refine ((xfl_set c h3).append_left r.flatten).trans ?_
    rw [← List.append_assoc]
    exact List.perm_append_comm.append_right _
theorem xpk_lt {is : List Nat} {cs wc : List va_W} (h : is.map (fun i => cs[i]?) = wc.map some) : ∀ i ∈ is, i < cs.length := by
  intro i hi
  have h1 : cs[i]? ∈ is.map (fun i => cs[i]?) := List.mem_map.mpr ⟨i, hi, rfl⟩
  rw [h] at h1
  obtain ⟨c, -, hc⟩ := List.mem_map.mp h1
  exact (List.getElem?_eq_some_iff.mp hc.symm).1
theorem xpick {D : va_G} {cl : List vw_C} {A : Nat → Prop} {cs wc : List va_W} {is : List Nat} {H : Heap} (hP : va_P D cl cs.flatten H) (hD : va_D A cs.flatten) (hpk : is.map (fun i => cs[i]?) = wc.map some) (hnd : va_nd is = true) : va_P D cl wc.flatten H ∧ va_D A wc.flatten := by
  have hp := xfl_picks is cs wc hpk hnd
  have h1 := xD_iff.mp (xD_perm hp hD)
  refine ⟨xP_iff.mpr fun q hq => xP_iff.mp (xP_perm hp hP) q (List.mem_append_left _ hq), xD_iff.mpr ⟨(List.pairwise_append.mp h1.1).1, fun q hq => h1.2 q (List.mem_append_left _ hq)⟩⟩
theorem xA_mem {ws : va_W} {sz : Nat} {q : Nat} : va_A ws sz q ↔ (∃ e, (q, e) ∈ ws) ∨ sz ≤ q := by
  constructor
  · rintro (⟨k, e, h⟩ | h)
    · exact Or.inl ⟨e, List.mem_of_getElem? h⟩
    · exact Or.inr h
  · rintro (⟨e, h⟩ | h)
    · obtain ⟨k, hk⟩ := List.getElem?_of_mem h
      exact Or.inl ⟨k, e, hk⟩
    · exact Or.inr h
theorem xfree {A : Nat → Prop} {wc : va_W} {H0 H : Heap} {locs : List Loc} (hD : va_D A wc) (hS : va_S A H0 H locs) (hA : ∀ q, H0.size ≤ q → A q) : ∀ q, va_A wc H.size q → A q := by
  intro q h
  rcases xA_mem.mp h with ⟨e, h⟩ | h
  · exact (xD_iff.mp hD).2 _ h
  · exact hA q (Nat.le_trans hS.1 h)
theorem xjoin {D : va_G} {cl : List vw_C} {A : Nat → Prop} {cs wc cs1 : List va_W} {is : List Nat} {H H1 : Heap} (hP : va_P D cl cs.flatten H) (hD : va_D A cs.flatten) (hpk : is.map (fun i => cs[i]?) = wc.map some) (hnd : va_nd is = true)
    (hk : ∀ q : Nat, q < H.size → ¬ va_A wc.flatten H.size q → H1[q]? = H[q]?) (hF : ∀ q, va_A wc.flatten H.size q → A q) (hP1 : va_P D cl cs1.flatten H1) (hD1 : va_D (va_A wc.flatten H.size) cs1.flatten) :
    va_P D cl (xput cs is cs1).flatten H1 ∧ va_D A (xput cs is cs1).flatten := by
  have hp := xfl_picks is cs wc hpk hnd
  have hq := (xfl_put is cs cs1 hnd (xpk_lt hpk)).symm
  have hP2 := xP_iff.mp (xP_perm hp hP)
  have hD2 := xD_iff.mp (xD_perm hp hD)
  obtain ⟨d1, d2, d3⟩ := List.pairwise_append.mp hD2.1
  have hout : ∀ z ∈ (xclr cs is).flatten, z.1 < H.size ∧ ¬ va_A wc.flatten H.size z.1 := by
    intro z hz
    have hl := (hP2 z (List.mem_append_right _ hz)).lt
    refine ⟨hl, fun h => ?_⟩
    rcases xA_mem.mp h with ⟨e, h⟩ | h
    · exact d3 _ h _ hz rfl
    · omega
  have hD1' := xD_iff.mp hD1
  refine ⟨xP_perm hq (xP_iff.mpr fun z hz => ?_), xD_perm hq (xD_iff.mpr ⟨List.pairwise_append.mpr ⟨hD1'.1, d2, fun a ha b hb e => ?_⟩, fun z hz => ?_⟩)⟩
  · rcases List.mem_append.mp hz with h | h
    · exact xP_iff.mp hP1 z h
    · exact (hP2 z (List.mem_append_right _ h)).kept (hk z.1 (hout z h).1 (hout z h).2)
  · exact (hout b hb).2 (by rw [← e]; exact hD1'.2 a ha)
  · rcases List.mem_append.mp hz with h | h
    · exact hF _ (hD1'.2 z h)
    · exact hD2.2 z (List.mem_append_right _ h)
theorem xfl_at : ∀ {cs : List va_W} {i j : Nat} {ch : va_W} {x : Nat × va_E}, cs[i]? = some ch → ch[j]? = some x → ∃ q0 : Nat, cs.flatten[q0]? = some x ∧ ∀ y, cs.flatten.set q0 y = (cs.set i (ch.set j y)).flatten
  | [], i, j, ch, x, h, _ => by simp at h
  | a :: cs, 0, j, ch, x, h, hx => by
    have e : a = ch := by simpa using h
    subst e
    have hl := (List.getElem?_eq_some_iff.mp hx).1
    refine ⟨j, ?_, fun y => ?_⟩
    · rw [List.flatten_cons, List.getElem?_append_left hl]
      exact hx
    · simp only [List.flatten_cons, List.set_cons_zero]
      rw [List.set_append_left _ _ hl]
  | a :: cs, i + 1, j, ch, x, h, hx => by
    obtain ⟨q0, h1, h2⟩ := xfl_at (cs := cs) (i := i) (j := j) (ch := ch) (x := x) (by simpa using h) hx
    refine ⟨a.length + q0, ?_, fun y => ?_⟩
    · rw [List.flatten_cons, List.getElem?_append_right (Nat.le_add_right _ _), Nat.add_sub_cancel_left]
      exact h1
    · simp only [List.flatten_cons, List.set_cons_succ]
      rw [List.set_append_right _ _ (Nat.le_add_right _ _), Nat.add_sub_cancel_left, h2]
theorem xfl_mem {cs : List va_W} {i j : Nat} {ch : va_W} {x : Nat × va_E} (h1 : cs[i]? = some ch) (h2 : ch[j]? = some x) : ∃ q0 : Nat, cs.flatten[q0]? = some x := by
  obtain ⟨q0, h, -⟩ := xfl_at h1 h2
  exact ⟨q0, h⟩
/-! what the tables and the statics say, carried from caller to callee -/
def xTY (D : va_G) : List (ClassId × FieldType) := [(D.1 10, .int), (D.1 10, .int), (D.1 10, .int), (D.1 13, .object "CreditLinks$Link"), (D.1 14, .object "java/lang/Object")]
def xND : List MethodName := [⟨"java/lang/Exception", "<init>", "(Ljava/lang/String;)V"⟩, ⟨"java/lang/RuntimeException", "<init>", "(Ljava/lang/String;)V"⟩, ⟨"java/lang/Throwable", "<init>", "(Ljava/lang/String;)V"⟩, ⟨"java/lang/Object", "getClass", "()Ljava/lang/Class;"⟩]
def xIAE : String := "java/lang/IllegalArgumentException"
def xISE : String := "java/lang/IllegalStateException"
def xIOB : String := "java/lang/IndexOutOfBoundsException"
def xNC : List (String × String) := [(xIAE, xIAE), (xISE, xISE), (xIOB, xIOB), ("CreditLinks$Delivery", "java/lang/Object")]
def xNM : List (String × Nat × MethodName × String) := [("CreditLinks", 24, ⟨"CreditLinks$Row", "<init>", "()V"⟩, "CreditLinks"), ("CreditLinks", 46, ⟨"CreditLinks$Link", "<init>", "()V"⟩, "CreditLinks"), ("CreditLinks$Link", 24, ⟨"CreditLinks", "wrapped", "(I)I"⟩, "CreditLinks")]
def xNS : List (String × Nat × String) := [("CreditLinks", 182, "there is no such link"), ("CreditLinks", 53, "there is no such mode"), ("CreditLinks", 61, "credit is out of range"), ("CreditLinks", 187, "the connection is not up"), ("CreditLinks", 81, "frames is out of range"), ("CreditLinks", 88, "there are as many deliveries as there can be"), ("CreditLinks", 91, "the sender has no credit on the link"), ("CreditLinks", 185, "there is no such delivery"), ("CreditLinks", 195, "there is no such outcome"), ("CreditLinks", 191, "the delivery is not whole"), ("CreditLinks", 193, "an outcome waits for the delivery"), ("CreditLinks", 189, "no transaction is open"), ("CreditLinks", 197, "count is out of range"), ("CreditLinks", 157, "the connection is up"), ("CreditLinks", 172, "a transaction is open")]
def xNN : List (String × String) := [(xIAE, xIOB), (xISE, xIOB), (xISE, xIAE)]
def xN (D : va_G) (U : State) : Prop := (∀ q ∈ xND, va_Nw (.declares q) U) ∧ (∀ q ∈ xNC, va_Nw (.castable q.1 q.2) U) ∧ (∀ q ∈ xNM, va_Nw (.methodLinkNest q.1 q.2.1 q.2.2.1 q.2.2.2) U) ∧ (va_AO "CreditLinks$Link" U ∧ va_AO "java/lang/Object" U) ∧ (∀ q ∈ xNS, ∃ a, vk_R q.1 q.2.1 q.2.2 a U) ∧ (∀ q ∈ xNN, va_Nc q.1 q.2 U) ∧ va_Mi "[Ljava/lang/Object;" (D.2 99 0) U
theorem xN.warm {D : va_G} {s U : State} (hW : s.WarmedH U.vm) (h : xN D s) : xN D U := by
  obtain ⟨h1, h2, h3, h4, h5, h6, h7⟩ := h
  refine ⟨fun q hq => va_Nw.warmD hW (h1 q hq), fun q hq => va_Nw.warmC hW (h2 q hq), fun q hq => va_Nw.warmM hW (h3 q hq), ⟨va_AO.moved hW.alike h4.1, va_AO.moved hW.alike h4.2⟩, fun q hq => ?_, fun q hq => va_Nc.moved hW.alike (h6 q hq), va_Mi.moved hW.alike h7⟩
  obtain ⟨a, ha⟩ := h5 q hq
  exact ⟨a, vk_R.warm hW ha⟩
def xZh (e0 : Nat) (A : Nat → Prop) (U : State) (H : Heap) : Prop := va_Z "java/util/ArrayList" "DEFAULTCAPACITY_EMPTY_ELEMENTDATA" "[Ljava/lang/Object;" (.ref e0) A U H ∧ va_T (.object "java/lang/Object") e0 0 (fun _ => .null) A U H ∧ vx_Zq Bundle.tN "UNASSIGNED_STACK" Bundle.steD A U H ∧ vx_Zq Bundle.tN "SUPPRESSED_SENTINEL" Bundle.listD A U H
def xZ (D : va_G) (e0 : Nat) (A : Nat → Prop) (U : State) (H : Heap) : Prop := va_K D vwCl (xTY D) U ∧ xN D U ∧ xZh e0 A U H
theorem xZ.warm {D : va_G} {e0 : Nat} {A : Nat → Prop} {s U : State} {H : Heap} (hW : s.WarmedH U.vm) (h : xZ D e0 A s H) : xZ D e0 A U H :=
  ⟨va_K.moved hW.alike h.1, h.2.1.warm hW, va_Z.moved hW.alike h.2.2.1, va_T.moved hW.alike h.2.2.2.1, vx_Zq.moved hW.alike h.2.2.2.2.1, vx_Zq.moved hW.alike h.2.2.2.2.2⟩
theorem xZ.kept {D : va_G} {e0 : Nat} {A : Nat → Prop} {U : State} {H H1 : Heap} (h : xZ D e0 A U H) (hq : ∀ a : Nat, a < H.size → ¬ A a → H1[a]? = H[a]?) : xZ D e0 A U H1 :=
  ⟨h.1, h.2.1, h.2.2.1.kept hq, h.2.2.2.1.kept hq, h.2.2.2.2.1.kept hq, h.2.2.2.2.2.kept hq⟩
theorem xZ.narrow {D : va_G} {e0 : Nat} {A B : Nat → Prop} {U : State} {H : Heap} (h : xZ D e0 A U H) (hAB : ∀ q, B q → A q) : xZ D e0 B U H :=
  ⟨h.1, h.2.1, h.2.2.1.narrow hAB, h.2.2.2.1.narrow hAB, h.2.2.2.2.1.narrow hAB, h.2.2.2.2.2.narrow hAB⟩
/-! the goals of a walk, with all that doesn't change packed away -/
def xG (p : Program) (l : Launch) (e : Env) (R : Room) (s : State) (m : MethodId) (args : Array Value) (below : List Frame) (meth : Method) (c : Code) (Q : State → Prop) (D : va_G) (A : Nat → Prop) (nL : Nat) (pc : Nat) (lv : List (Nat × Value)) (st : List Value) (cs : List va_W) (k n : Nat) : Prop :=
  ∀ (H : Heap) (locs : List Loc) (ls : Array Slot), va_P D vwCl cs.flatten H → va_D A cs.flatten → va_S A s.heap H locs → lv_has ls nL lv → W p l e R s m args below meth c H locs k n Q (F0 m pc ls st)
def xX (p : Program) (l : Launch) (e : Env) (R : Room) (s : State) (m : MethodId) (args : Array Value) (below : List Frame) (meth : Method) (c : Code) (Q : State → Prop) (D : va_G) (A : Nat → Prop) (nL : Nat) (E : String) (pc : Nat) (lv : List (Nat × Value)) (cs : List va_W) (k n : Nat) : Prop :=
  ∀ (H : Heap) (locs : List Loc) (ls : Array Slot) (rest : List Value) (q : Addr) (ce : Cell), va_P D vwCl cs.flatten H → va_D A cs.flatten → va_S A s.heap H locs → lv_has ls nL lv → H[q]? = some ce → ce.vm = .none → s.vm.findClass E = some ce.cls → vx_W p l e R s m args below meth c H locs k n Q (F0 m pc ls rest) q
abbrev xGt : Type := Nat → List (Nat × Value) → List Value → List va_W → Nat → Nat → Prop
abbrev xXt : Type := String → Nat → List (Nat × Value) → List va_W → Nat → Nat → Prop
def xFx (p : Program) (l : Launch) (s : State) (m : MethodId) (args : Array Value) (meth : Method) (c : Code) (D : va_G) (e0 : Nat) (A : Nat → Prop) (nL : Nat) (own : String) (cc : ByteArray) (ret : Option FieldType) (hh : List (Nat × Nat × Nat × Nat)) : Prop :=
  (∀ w ∈ xT, w.before args s = true) ∧ meth.sig.returnType = ret ∧ c.exceptionTable.toList = tableOf hh ∧ xZ D e0 A s s.heap ∧ (∀ q, s.heap.size ≤ q → A q) ∧ meth.locks = false ∧ l.stackTraces = false
/-- the base of every row -/
def xB (l : Launch) (D : va_G) (e0 : Nat) (own : String) (cc : ByteArray) (nL : Nat) (ret : Option FieldType) (hh : List (Nat × Nat × Nat × Nat)) (R : Room) (G : xGt) (X : xXt) : Prop :=
  ∃ (p : Program) (e : Env) (s : State) (m : MethodId) (args : Array Value) (below : List Frame) (meth : Method) (c : Code) (A : Nat → Prop) (Q : State → Prop),
    G = xG p l e R s m args below meth c Q D A nL ∧ X = xX p l e R s m args below meth c Q D A nL ∧ p.tables.exec = Jvm.exec ∧ c.code = cc ∧ c.maxLocals = nL ∧ s.vm.findClass own = some m.cls ∧ xFx p l s m args meth c D e0 A nL own cc ret hh
def xQ (D : va_G) (A : Nat → Prop) (post : Option Value → List va_W → Prop) : Array Value → State → Outcome → State → Prop := fun _ st oc t =>
  (∃ (v : Option Value) (cs : List va_W), oc = .returned v ∧ post v cs ∧ va_P D vwCl cs.flatten t.heap ∧ va_D A cs.flatten) ∧ va_F A st t
def xXC (D : va_G) (A : Nat → Prop) (cs0 : List va_W) (xp : String → Prop) : String → State → State → Prop := fun E st t => xp E ∧ va_P D vwCl cs0.flatten t.heap ∧ va_F A st t
/-- .. of a method's body -/
def xF (l : Launch) (D : va_G) (e0 : Nat) (own : String) (cc : ByteArray) (nL : Nat) (ret : Option FieldType) (hh : List (Nat × Nat × Nat × Nat)) (R : Room) (nm : String) (cs0 : List va_W) (post : Option Value → List va_W → Prop) (xp : String → Prop) (G : xGt) (X : xXt) : Prop :=
  ∃ (p : Program) (e : Env) (s : State) (m : MethodId) (args : Array Value) (below : List Frame) (meth : Method) (c : Code) (A : Nat → Prop) (Q : State → Prop),
    G = xG p l e R s m args below meth c Q D A nL ∧ X = xX p l e R s m args below meth c Q D A nL ∧ p.tables.exec = Jvm.exec ∧ c.code = cc ∧ c.maxLocals = nL ∧ s.vm.findClass own = some m.cls ∧ xFx p l s m args meth c D e0 A nL own cc ret hh ∧
    meth.name = nm ∧ Q = vx_MQ below (xQ D A post) (xXC D A cs0 xp) args s R.cells R.slots A
theorem xF.base {l : Launch} {D : va_G} {e0 : Nat} {own : String} {cc : ByteArray} {nL : Nat} {ret : Option FieldType} {hh : List (Nat × Nat × Nat × Nat)} {R : Room} {nm : String} {cs0 : List va_W} {post : Option Value → List va_W → Prop} {xp : String → Prop} {G : xGt} {X : xXt}
    (h : xF l D e0 own cc nL ret hh R nm cs0 post xp G X) : xB l D e0 own cc nL ret hh R G X := by
  obtain ⟨p, e, s, m, args, below, meth, c, A, Q, h1, h2, h3, h4, h5, h6, h7, -, -⟩ := h
  exact ⟨p, e, s, m, args, below, meth, c, A, Q, h1, h2, h3, h4, h5, h6, h7⟩
/-- a contract -/
def xPre (D : va_G) (e0 : Nat) (cs : List va_W) (sz : Nat) (U : State) : Prop := U.heap.size = sz ∧ va_P D vwCl cs.flatten U.heap ∧ va_D (fun _ => True) cs.flatten ∧ xZ D e0 (va_A cs.flatten sz) U U.heap
def xC (l : Launch) (y : MethodName) (w : Cond) (rm : Room) (D : va_G) (e0 : Nat) (av : List Value) (cs : List va_W) (post : Option Value → List va_W → Prop) (xp : String → Prop) : Prop :=
  ∀ sz : Nat, vx_Met l y (w :: xT) rm (va_Pc av (xPre D e0 cs sz)) (xQ D (va_A cs.flatten sz) post) (xXC D (va_A cs.flatten sz) cs xp) rm.cells rm.slots (va_A cs.flatten sz)
theorem xPre.blind {D : va_G} {e0 : Nat} {av : List Value} {cs : List va_W} {sz : Nat} : FrameBlind (va_Pc av (xPre D e0 cs sz)) := by
  intro a U g mk h
  obtain ⟨h0, h1, h2, h3, h4⟩ := h
  exact ⟨h0, h1, h2, h3, xZ.warm (U := U.calling g mk a) (State.WarmedH.refl U) h4⟩
